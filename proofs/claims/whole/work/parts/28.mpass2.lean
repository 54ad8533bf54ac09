set_option maxHeartbeats 4000000 in
theorem mc_pass_115 {d : Nat} {sh : xSh} {R : xR} {L : xL} {I : xI} {Q : xQ} {m tk : Nat} {H : hmH} {O : hmO} {v1 : Int32} (hm : xModel sh R m) (hS : hmMr (I (m + 28)) H) (hO : hmMo I m O) (ho : hmOok O) (hok : hmOk O H) (htn : I m 46 = nI tk) (htk : 1 ≤ tk) (htk2 : tk ≤ 20) (hmn : hmMin H < 1000000) (hQ : ∀ I', hmFm m I I' → hmMr (I' (m + 28)) (hmLast O tk (hmTick H)) → Q (some (.int (hmSet (hmLast O tk (hmTick H)) &&& (v1 ^^^ -1)))) 0 sh R L I') : Ex (d + 3) 0 0 MX9_passes 0 sh R L I 115 [some (.ref m), some (.int v1), none] [] Q := by
  obtain ⟨s6, smin, slen, sset, stak, sline, sheld, shas, stalk⟩ := id hS
  obtain ⟨o6, ot1, ot2, oo, oll, owf⟩ := id ho
  obtain ⟨on, otk, ow, oml⟩ := id hO
  refine Ex_aload_n 116 (i := 0) dX9_passes_115 rfl rfl rfl ?_
  refine Ex_getR 119 dX9_passes_116 fX9_93 (xMs_0 hm) rfl (xMr_39 hm) rfl ?_
  refine Ex_iconst 120 (v := 0) dX9_passes_119 (by decide) rfl ?_
  refine Ex_dup2 121 dX9_passes_120 rfl rfl rfl ?_
  refine Ex_aI 122 0 (I (m + 28) 0) dX9_passes_121 (xMs_28 hm) rfl (by decide) (by decide) rfl rfl ?_
  rw [smin]
  refine Ex_iconst 123 (v := 1) dX9_passes_122 (by decide) rfl ?_
  refine Ex_iadd 124 dX9_passes_123 rfl ?_
  rw [nI_1]
  refine Ex_sI 125 0 (I (m + 28)) (va_up I (m + 28) (va_up (I (m + 28)) 0 (nI (hmMin H + 1)))) dX9_passes_124 (xMs_28 hm) rfl (by decide) (by decide) rfl rfl rfl ?_
  refine Ex_aload_n 126 (i := 0) dX9_passes_125 rfl rfl rfl ?_
  refine Ex_getR 129 dX9_passes_126 fX9_93 (xMs_0 hm) rfl (xMr_39 hm) rfl ?_
  refine Ex_iconst 130 (v := 0) dX9_passes_129 (by decide) rfl ?_
  refine Ex_aI 131 0 ((va_up (I (m + 28)) 0 (nI (hmMin H + 1))) 0) dX9_passes_130 (xMs_28 hm) rfl (by decide) (by decide) (congrFun (va_up_self _ _ _) _) rfl ?_
  rw [va_up_self]
  refine Ex_aload_n 132 (i := 0) dX9_passes_131 rfl rfl rfl ?_
  refine Ex_gI 135 (I m 46) dX9_passes_132 fX9_123 (xMs_0 hm) rfl (congrFun (va_up_ne _ _ (by omega)) _) rfl ?_
  rw [htn]
  refine Ex_irem 136 dX9_passes_135 (nI_ne0 (by omega) (by omega)) rfl ?_
  rw [pk_rem (a := hmMin H + 1) (by omega) (by omega) (by omega)]
  refine Ex_if_ne 139 192 dX9_passes_136 (by decide) rfl (fun c1 => ?_) (fun c1 => ?_)
  · refine Ex_aload_n 193 (i := 0) dX9_passes_192 rfl rfl rfl ?_
    refine Ex_getR 196 dX9_passes_193 fX9_93 (xMs_0 hm) rfl (xMr_39 hm) rfl ?_
    refine Ex_iconst 197 (v := 2) dX9_passes_196 (by decide) rfl ?_
    refine Ex_aI 198 2 ((va_up (I (m + 28)) 0 (nI (hmMin H + 1))) 2) dX9_passes_197 (xMs_28 hm) rfl (by decide) (by decide) (congrFun (va_up_self _ _ _) _) rfl ?_
    refine Ex_iload_n 199 (i := 1) dX9_passes_198 rfl rfl rfl ?_
    refine Ex_iconst 200 (v := (-1)) dX9_passes_199 (by decide) rfl ?_
    refine Ex_ixor 201 dX9_passes_200 rfl ?_
    refine Ex_iand 202 dX9_passes_201 rfl ?_
    refine Ex_iret dX9_passes_202 rfl rfl (Or.inl rfl) ?_
    have hne : ¬ (hmMin H + 1) % tk = 0 := fun q => c1 (by rw [q]; decide)
    have e : hmLast O tk (hmTick H) = hmTick H := by
      unfold hmLast
      split
      · rfl
      next w r hl => exact if_neg hne
    rw [va_up_ne _ _ (by omega), sset]
    rw [e] at hQ
    refine hQ _ hmFm.rf.up ?_
    rw [va_up_self]
    refine ⟨s6, by rw [va_up_self]; rfl, by rw [va_up_ne _ _ (by omega)]; exact slen, by rw [va_up_ne _ _ (by omega)]; exact sset, by rw [va_up_ne _ _ (by omega)]; exact stak, fun i hi => by rw [va_up_ne _ _ (by omega)]; exact sline i hi, fun x hx => by rw [va_up_ne _ _ (by omega)]; exact sheld x hx, fun x hx => by rw [va_up_ne _ _ (by omega)]; exact shas x hx, fun x hx y hy => by rw [va_up_ne _ _ (by omega)]; exact stalk x hx y hy⟩
  · refine Ex_aload_n 140 (i := 0) dX9_passes_139 rfl rfl rfl ?_
    refine Ex_getR 143 dX9_passes_140 fX9_93 (xMs_0 hm) rfl (xMr_39 hm) rfl ?_
    refine Ex_iconst 144 (v := 1) dX9_passes_143 (by decide) rfl ?_
    refine Ex_aI 145 1 ((va_up (I (m + 28)) 0 (nI (hmMin H + 1))) 1) dX9_passes_144 (xMs_28 hm) rfl (by decide) (by decide) (congrFun (va_up_self _ _ _) _) rfl ?_
    rw [va_up_ne _ _ (by omega), slen]
    refine Ex_if_le 148 192 dX9_passes_145 (by decide) rfl (fun c2 => ?_) (fun c2 => ?_)
    · refine Ex_aload_n 193 (i := 0) dX9_passes_192 rfl rfl rfl ?_
      refine Ex_getR 196 dX9_passes_193 fX9_93 (xMs_0 hm) rfl (xMr_39 hm) rfl ?_
      refine Ex_iconst 197 (v := 2) dX9_passes_196 (by decide) rfl ?_
      refine Ex_aI 198 2 ((va_up (I (m + 28)) 0 (nI (hmMin H + 1))) 2) dX9_passes_197 (xMs_28 hm) rfl (by decide) (by decide) (congrFun (va_up_self _ _ _) _) rfl ?_
      refine Ex_iload_n 199 (i := 1) dX9_passes_198 rfl rfl rfl ?_
      refine Ex_iconst 200 (v := (-1)) dX9_passes_199 (by decide) rfl ?_
      refine Ex_ixor 201 dX9_passes_200 rfl ?_
      refine Ex_iand 202 dX9_passes_201 rfl ?_
      refine Ex_iret dX9_passes_202 rfl rfl (Or.inl rfl) ?_
      have hl0 : hmLine H = [] := List.eq_nil_of_length_eq_zero (hm_le0 (by omega) c2)
      have e : hmLast O tk (hmTick H) = hmTick H := by
        unfold hmLast
        split
        · rfl
        next w r hl =>
          have hl2 : hmLine H = w :: r := hl
          rw [hl0] at hl2
          cases hl2
      rw [va_up_ne _ _ (by omega), sset]
      rw [e] at hQ
      refine hQ _ hmFm.rf.up ?_
      rw [va_up_self]
      refine ⟨s6, by rw [va_up_self]; rfl, by rw [va_up_ne _ _ (by omega)]; exact slen, by rw [va_up_ne _ _ (by omega)]; exact sset, by rw [va_up_ne _ _ (by omega)]; exact stak, fun i hi => by rw [va_up_ne _ _ (by omega)]; exact sline i hi, fun x hx => by rw [va_up_ne _ _ (by omega)]; exact sheld x hx, fun x hx => by rw [va_up_ne _ _ (by omega)]; exact shas x hx, fun x hx y hy => by rw [va_up_ne _ _ (by omega)]; exact stalk x hx y hy⟩
    · obtain ⟨w, r, hlr⟩ : ∃ w r, hmLine H = w :: r := by
        cases hl : hmLine H with
        | nil => exact absurd (show nI (hmLine H).length ≤ 0 by rw [hl]; decide) c2
        | cons w r => exact ⟨w, r, rfl⟩
      have hwm : w ∈ hmLine H := by rw [hlr]; exact List.mem_cons_self
      have hwN := hok.2.1 w hwm
      have hw0 : I (m + 28) 4 = nI w := by
        have h1 := sline 0 (by rw [hlr]; simp)
        rw [hlr] at h1
        exact h1
      refine Ex_aload_n 149 (i := 0) dX9_passes_148 rfl rfl rfl ?_
      refine Ex_getR 152 dX9_passes_149 fX9_93 (xMs_0 hm) rfl (xMr_39 hm) rfl ?_
      refine Ex_iconst 153 (v := 4) dX9_passes_152 (by decide) rfl ?_
      refine Ex_aI 154 4 ((va_up (I (m + 28)) 0 (nI (hmMin H + 1))) 4) dX9_passes_153 (xMs_28 hm) rfl (by decide) (by decide) (congrFun (va_up_self _ _ _) _) rfl ?_
      rw [va_up_ne _ _ (by omega), hw0]
      refine Ex_istore_n 155 (i := 2) (ls' := [some (.ref m), some (.int v1), some (.int (nI w))]) dX9_passes_154 rfl (Nat.le_of_ble_eq_true rfl) rfl rfl rfl ?_
      refine Ex_aload_n 156 (i := 0) dX9_passes_155 rfl rfl rfl ?_
      refine Ex_getR 159 dX9_passes_156 fX9_93 (xMs_0 hm) rfl (xMr_39 hm) rfl ?_
      refine Ex_bipush 161 (v := 16) dX9_passes_159 (by decide) rfl ?_
      refine Ex_iload_n 162 (i := 2) dX9_passes_161 rfl rfl rfl ?_
      refine Ex_iadd 163 dX9_passes_162 rfl ?_
      refine Ex_dup2 164 dX9_passes_163 rfl rfl rfl ?_
      refine Ex_aI 165 (16 + w) ((va_up (I (m + 28)) 0 (nI (hmMin H + 1))) (16 + w)) dX9_passes_164 (xMs_28 hm) (hm_ad rfl rfl) (by omega) (by decide) (congrFun (va_up_self _ _ _) _) rfl ?_
      rw [va_up_ne _ _ (by omega), shas w (by omega)]
      refine Ex_iconst 166 (v := 1) dX9_passes_165 (by decide) rfl ?_
      refine Ex_aload_n 167 (i := 0) dX9_passes_166 rfl rfl rfl ?_
      refine Ex_getR 170 dX9_passes_167 fX9_23 (xMs_0 hm) rfl (xMr_13 hm) rfl ?_
      refine Ex_iload_n 171 (i := 2) dX9_passes_170 rfl rfl rfl ?_
      refine Ex_aI 172 w (I (m + 5) w) dX9_passes_171 (xMs_5 hm) rfl (by omega) (by decide) (congrFun (va_up_ne _ _ (by omega)) _) rfl ?_
      rw [(ow w hwN).2.1]
      refine Ex_ishl 173 dX9_passes_172 rfl ?_
      refine Ex_ior 174 dX9_passes_173 rfl ?_
      refine Ex_sI 175 (16 + w) (va_up (I (m + 28)) 0 (nI (hmMin H + 1))) (va_up I (m + 28) (va_up (va_up (I (m + 28)) 0 (nI (hmMin H + 1))) (16 + w) ((hmHas H w) ||| (1 <<< ((nI (hmTr O w)) &&& 31))))) dX9_passes_174 (xMs_28 hm) (hm_ad rfl rfl) (by omega) (by decide) (va_up_self _ _ _) (va_up_up _ _ _ _) rfl ?_
      refine Ex_aload_n 176 (i := 0) dX9_passes_175 rfl rfl rfl ?_
      refine Ex_getR 179 dX9_passes_176 fX9_93 (xMs_0 hm) rfl (xMr_39 hm) rfl ?_
      refine Ex_iconst 180 (v := 3) dX9_passes_179 (by decide) rfl ?_
      refine Ex_dup2 181 dX9_passes_180 rfl rfl rfl ?_
      refine Ex_aI 182 3 ((va_up (va_up (I (m + 28)) 0 (nI (hmMin H + 1))) (16 + w) ((hmHas H w) ||| (1 <<< ((nI (hmTr O w)) &&& 31)))) 3) dX9_passes_181 (xMs_28 hm) rfl (by decide) (by decide) (congrFun (va_up_self _ _ _) _) rfl ?_
      rw [va_up_ne _ _ (by omega), va_up_ne _ _ (by omega), stak]
      refine Ex_iconst 183 (v := 1) dX9_passes_182 (by decide) rfl ?_
      refine Ex_iload_n 184 (i := 2) dX9_passes_183 rfl rfl rfl ?_
      refine Ex_ishl 185 dX9_passes_184 rfl ?_
      refine Ex_ior 186 dX9_passes_185 rfl ?_
      refine Ex_sI 187 3 (va_up (va_up (I (m + 28)) 0 (nI (hmMin H + 1))) (16 + w) ((hmHas H w) ||| (1 <<< ((nI (hmTr O w)) &&& 31)))) (va_up I (m + 28) (va_up (va_up (va_up (I (m + 28)) 0 (nI (hmMin H + 1))) (16 + w) ((hmHas H w) ||| (1 <<< ((nI (hmTr O w)) &&& 31)))) 3 ((hmTak H) ||| (1 <<< ((nI w) &&& 31))))) dX9_passes_186 (xMs_28 hm) rfl (by decide) (by decide) (va_up_self _ _ _) (va_up_up _ _ _ _) rfl ?_
      refine Ex_aload_n 188 (i := 0) dX9_passes_187 rfl rfl rfl ?_
      refine Ex_iload_n 189 (i := 2) dX9_passes_188 rfl rfl rfl ?_
      refine Ex_callV (M' := MX9_settles) 192 [.int (nI w)] (rest := []) dX9_passes_189 lX9_344 mX9_settles rfl (xMs_0 hm) rfl (Nat.le_of_ble_eq_true rfl) (Nat.le_of_ble_eq_true rfl) rfl ?_
      obtain ⟨J, hJ⟩ : ∃ J, J = (va_up I (m + 28) (va_up (va_up (va_up (I (m + 28)) 0 (nI (hmMin H + 1))) (16 + w) ((hmHas H w) ||| (1 <<< ((nI (hmTr O w)) &&& 31)))) 3 ((hmTak H) ||| (1 <<< ((nI w) &&& 31))))) := ⟨_, rfl⟩
      rw [← hJ]
      have hS1 : hmMr (J (m + 28)) (hmLine H, va_up (hmHas H) w (hmHas H w ||| hmOne (hmTr O w)), hmHeld H, hmTalk H, hmSet H, hmTak H ||| hmOne w, hmMin H + 1) := by
        rw [hJ, va_up_self]
        refine ⟨s6, ?_, ?_, ?_, ?_, fun i hi => ?_, fun x hx => ?_, fun x hx => ?_, fun x hx y hy => ?_⟩
        · rw [va_up_ne _ _ (by omega), va_up_ne _ _ (by omega), va_up_self]; rfl
        · rw [va_up_ne _ _ (by omega), va_up_ne _ _ (by omega), va_up_ne _ _ (by omega)]; exact slen
        · rw [va_up_ne _ _ (by omega), va_up_ne _ _ (by omega), va_up_ne _ _ (by omega)]; exact sset
        · rw [va_up_self]; rfl
        · have hi2 : i < (hmLine H).length := hi
          rw [va_up_ne _ _ (by omega), va_up_ne _ _ (by omega), va_up_ne _ _ (by omega)]; exact sline i hi
        · rw [va_up_ne _ _ (by omega), va_up_ne _ _ (by omega), va_up_ne _ _ (by omega)]; exact sheld x hx
        · show _ = va_up (hmHas H) w (hmHas H w ||| hmOne (hmTr O w)) x
          rw [va_up_ne _ _ (by omega)]
          by_cases ex : x = w
          · subst ex; rw [va_up_self, va_up_self]; rfl
          · rw [va_up_ne _ _ (by omega), va_up_ne _ _ (by omega), va_up_ne _ _ ex]; exact shas x hx
        · rw [va_up_ne _ _ (by omega), va_up_ne _ _ (by omega), va_up_ne _ _ (by omega)]; exact stalk x hx y hy
      have hFJ : hmFm m I J := by rw [hJ]; exact hmFm.rf.up
      refine mc_settles (H := (hmLine H, va_up (hmHas H) w (hmHas H w ||| hmOne (hmTr O w)), hmHeld H, hmTalk H, hmSet H, hmTak H ||| hmOne w, hmMin H + 1)) hm hS1 hwm (fun x hx => by have := hok.2.1 x hx; omega) (fun r' hr' => ?_)
      simp only [Option.toList, List.nil_append]
      refine Ex_aload_n 193 (i := 0) dX9_passes_192 rfl rfl rfl ?_
      refine Ex_getR 196 dX9_passes_193 fX9_93 (xMs_0 hm) rfl (xMr_39 hm) rfl ?_
      refine Ex_iconst 197 (v := 2) dX9_passes_196 (by decide) rfl ?_
      refine Ex_aI 198 2 (r' 2) dX9_passes_197 (xMs_28 hm) rfl (by decide) (by decide) (congrFun (va_up_self _ _ _) _) rfl ?_
      refine Ex_iload_n 199 (i := 1) dX9_passes_198 rfl rfl rfl ?_
      refine Ex_iconst 200 (v := (-1)) dX9_passes_199 (by decide) rfl ?_
      refine Ex_ixor 201 dX9_passes_200 rfl ?_
      refine Ex_iand 202 dX9_passes_201 rfl ?_
      refine Ex_iret dX9_passes_202 rfl rfl (Or.inl rfl) ?_
      have hz : (hmMin H + 1) % tk = 0 := by
        by_cases h0 : (hmMin H + 1) % tk = 0
        · exact h0
        · have := Nat.mod_lt (hmMin H + 1) (show tk > 0 by omega)
          exact absurd c1 (nI_ne0 (by omega) (by omega))
      have e : hmLast O tk (hmTick H) = hmTake O (hmTick H) w := by
        have h0 : hmLine (hmTick H) = w :: r := hlr
        have h1 : hmMin (hmTick H) % tk = 0 := hz
        simp [hmLast, h0, h1]
      rw [e] at hQ
      have hset' : r' 2 = hmSet (hmTake O (hmTick H) w) := hr'.2.2.2.1
      rw [hset']
      refine hQ _ hFJ.up ?_
      rw [va_up_self]
      exact hr'
set_option maxHeartbeats 4000000 in
theorem mc_pass_52 {d : Nat} {sh : xSh} {R : xR} {L : xL} {I : xI} {Q : xQ} {m tk : Nat} {H : hmH} {O : hmO} {v1 : Int32} (hm : xModel sh R m) (hS : hmMr (I (m + 28)) H) (hO : hmMo I m O) (ho : hmOok O) (hok : hmOk O H) (htn : I m 46 = nI tk) (htk : 1 ≤ tk) (htk2 : tk ≤ 20) (hmn : hmMin H < 1000000) (hQ : ∀ I', hmFm m I I' → hmMr (I' (m + 28)) (hmLast O tk (hmTick (hmHold O H))) → Q (some (.int (hmSet (hmLast O tk (hmTick (hmHold O H))) &&& (v1 ^^^ -1)))) 0 sh R L I') : ∀ (n i : Nat) (J : xI), n + i = hmN O → hmFm m I J → hmMr (J (m + 28)) (hmHoldI O H i) → Ex (d + 3) 0 0 MX9_passes 0 sh R L J 52 [some (.ref m), some (.int v1), some (.int (nI i))] [] Q := by
  obtain ⟨s6, smin, slen, sset, stak, sline, sheld, shas, stalk⟩ := id hS
  obtain ⟨o6, ot1, ot2, oo, oll, owf⟩ := id ho
  obtain ⟨on, otk, ow, oml⟩ := id hO
  intro n
  induction n with
  | zero =>
    intro i J hn hFm hSJ
    refine Ex_iload_n 53 (i := 2) dX9_passes_52 rfl rfl rfl ?_
    refine Ex_aload_n 54 (i := 0) dX9_passes_53 rfl rfl rfl ?_
    refine Ex_getR 57 dX9_passes_54 fX9_13 (xMs_0 hm) rfl (xMr_10 hm) rfl ?_
    refine Ex_iconst 58 (v := 0) dX9_passes_57 (by decide) rfl ?_
    refine Ex_aI 59 0 (I (m + 2) 0) dX9_passes_58 (xMs_2 hm) rfl (by decide) (by decide) (congrFun (hFm _ (by omega) (by omega)) _) rfl ?_
    rw [on]
    refine Ex_icmp_ge 62 115 dX9_passes_59 (by decide) rfl (fun c1 => ?_) (fun c1 => absurd c1 (fun q => q (nI_le (by omega) (by omega))))
    refine Ex_fgt (ls' := [some (.ref m), some (.int v1), none]) (by simp [xsub]) ?_
    have hiN : i = hmN O := by omega
    subst hiN
    rw [hmHoldI_N hok] at hSJ
    have htn2 : J m 46 = nI tk := by rw [hFm m (by omega) (by omega)]; exact htn
    exact mc_pass_115 hm hSJ (hO.fm hFm) ho (hmOk_hold hok) htn2 htk htk2 hmn (fun I' hF' hR' => hQ I' (hFm.tr hF') hR')
  | succ n ih =>
    intro i J hn hFm hSJ
    obtain ⟨j6, jmin, jlen, jset, jtak, jline, jheld, jhas, jtalk⟩ := id hSJ
    have hlJ : ∀ x ∈ hmLine (hmHoldI O H i), x < 6 := fun x hx => by have := hok.2.1 x ((hmHoldI_line O H i).mp hx).1; omega
    have hji : hmHeld (hmHoldI O H i) i = hmHeld H i := if_neg (fun q => by omega)
    refine Ex_iload_n 53 (i := 2) dX9_passes_52 rfl rfl rfl ?_
    refine Ex_aload_n 54 (i := 0) dX9_passes_53 rfl rfl rfl ?_
    refine Ex_getR 57 dX9_passes_54 fX9_13 (xMs_0 hm) rfl (xMr_10 hm) rfl ?_
    refine Ex_iconst 58 (v := 0) dX9_passes_57 (by decide) rfl ?_
    refine Ex_aI 59 0 (I (m + 2) 0) dX9_passes_58 (xMs_2 hm) rfl (by decide) (by decide) (congrFun (hFm _ (by omega) (by omega)) _) rfl ?_
    rw [on]
    refine Ex_icmp_ge 62 115 dX9_passes_59 (by decide) rfl (fun c1 => absurd c1 (nI_ge (by omega) (by omega))) (fun c1 => ?_)
    refine Ex_aload_n 63 (i := 0) dX9_passes_62 rfl rfl rfl ?_
    refine Ex_iload_n 64 (i := 2) dX9_passes_63 rfl rfl rfl ?_
    refine Ex_callV (M' := MX9_placeOf) 67 [.int (nI i)] (rest := []) dX9_passes_64 lX9_319 mX9_placeOf rfl (xMs_0 hm) rfl (Nat.le_of_ble_eq_true rfl) (Nat.le_of_ble_eq_true rfl) rfl ?_
    refine mc_placeOf hm hSJ (by omega) (fun x hx => by have := hlJ x hx; omega) ?_
    simp only [Option.toList, List.cons_append, List.nil_append]
    refine Ex_if_ge 70 73 dX9_passes_67 (by decide) rfl (fun c2 => ?_) (fun c2 => ?_)
    · have him : i ∈ hmLine (hmHoldI O H i) := by
        by_cases h : i ∈ hmLine (hmHoldI O H i)
        · exact h
        · exact absurd ((hmPlc_lt (by omega)).mpr h) (Int32.not_lt.mpr c2)
      have hiH : i ∈ hmLine H := ((hmHoldI_line O H i).mp him).1
      have hhu := hok.2.2.2.2.2.1 i hiH
      have hho := (oo i (by omega)).2.2.2.2
      refine Ex_aload_n 74 (i := 0) dX9_passes_73 rfl rfl rfl ?_
      refine Ex_getR 77 dX9_passes_74 fX9_93 (xMs_0 hm) rfl (xMr_39 hm) rfl ?_
      refine Ex_bipush 79 (v := 10) dX9_passes_77 (by decide) rfl ?_
      refine Ex_iload_n 80 (i := 2) dX9_passes_79 rfl rfl rfl ?_
      refine Ex_iadd 81 dX9_passes_80 rfl ?_
      refine Ex_dup2 82 dX9_passes_81 rfl rfl rfl ?_
      refine Ex_aI 83 (10 + i) (J (m + 28) (10 + i)) dX9_passes_82 (xMs_28 hm) (hm_ad rfl rfl) (by omega) (by decide) rfl rfl ?_
      rw [jheld i (by omega), hji]
      refine Ex_iconst 84 (v := 1) dX9_passes_83 (by decide) rfl ?_
      refine Ex_iadd 85 dX9_passes_84 rfl ?_
      rw [nI_1]
      refine Ex_sI 86 (10 + i) (J (m + 28)) (va_up J (m + 28) (va_up (J (m + 28)) (10 + i) (nI (hmHeld H i + 1)))) dX9_passes_85 (xMs_28 hm) (hm_ad rfl rfl) (by omega) (by decide) rfl rfl rfl ?_
      have hSx : hmMr (va_up (J (m + 28)) (10 + i) (nI (hmHeld H i + 1))) (hmLine (hmHoldI O H i), hmHas H, va_up (hmHeld (hmHoldI O H i)) i (hmHeld H i + 1), hmTalk H, hmSet H, hmTak H, hmMin H) := by
        refine ⟨j6, by rw [va_up_ne _ _ (by omega)]; exact jmin, by rw [va_up_ne _ _ (by omega)]; exact jlen, by rw [va_up_ne _ _ (by omega)]; exact jset, by rw [va_up_ne _ _ (by omega)]; exact jtak, fun q hq => ?_, fun x hx => ?_, fun x hx => by rw [va_up_ne _ _ (by omega)]; exact jhas x hx, fun x hx y hy => by rw [va_up_ne _ _ (by omega)]; exact jtalk x hx y hy⟩
        · have hq2 : q < (hmLine (hmHoldI O H i)).length := hq
          rw [va_up_ne _ _ (by omega)]; exact jline q hq
        · show _ = nI (va_up (hmHeld (hmHoldI O H i)) i (hmHeld H i + 1) x)
          by_cases ex : x = i
          · subst ex; rw [va_up_self, va_up_self]
          · rw [va_up_ne _ _ (by omega), va_up_ne _ _ ex]; exact jheld x hx
      refine Ex_aload_n 87 (i := 0) dX9_passes_86 rfl rfl rfl ?_
      refine Ex_getR 90 dX9_passes_87 fX9_93 (xMs_0 hm) rfl (xMr_39 hm) rfl ?_
      refine Ex_bipush 92 (v := 10) dX9_passes_90 (by decide) rfl ?_
      refine Ex_iload_n 93 (i := 2) dX9_passes_92 rfl rfl rfl ?_
      refine Ex_iadd 94 dX9_passes_93 rfl ?_
      refine Ex_aI 95 (10 + i) ((va_up (J (m + 28)) (10 + i) (nI (hmHeld H i + 1))) (10 + i)) dX9_passes_94 (xMs_28 hm) (hm_ad rfl rfl) (by omega) (by decide) (congrFun (va_up_self _ _ _) _) rfl ?_
      rw [va_up_self]
      refine Ex_aload_n 96 (i := 0) dX9_passes_95 rfl rfl rfl ?_
      refine Ex_getR 99 dX9_passes_96 fX9_29 (xMs_0 hm) rfl (xMr_15 hm) rfl ?_
      refine Ex_iload_n 100 (i := 2) dX9_passes_99 rfl rfl rfl ?_
      refine Ex_aI 101 i (I (m + 7) i) dX9_passes_100 (xMs_7 hm) rfl (by omega) (by decide) (congrFun ((va_up_ne _ _ (by omega)).trans (hFm _ (by omega) (by omega))) _) rfl ?_
      rw [(ow i (by omega)).2.2.2]
      refine Ex_icmp_ne 104 109 dX9_passes_101 (by decide) rfl (fun c3 => ?_) (fun c3 => ?_)
      · refine Ex_iinc 112 (v := (nI (i + 1))) (ls' := [some (.ref m), some (.int v1), some (.int (nI (i + 1)))]) dX9_passes_109 rfl (xinc _) (Nat.le_of_ble_eq_true rfl) rfl rfl rfl ?_
        refine Ex_goto 52 dX9_passes_112 (by decide) ?_
        have hst : hmStays O (hmHeld H) i = true := by
          have h1 : ¬ hmHeld H i + 1 = hmHo O i := fun q => c3 (by rw [q])
          simp only [hmStays, decide_eq_true_eq]
          omega
        refine ih (i + 1) _ (by omega) hFm.up ?_
        rw [va_up_self, hmHoldI_yes hiH hst]
        exact hSx
      · refine Ex_aload_n 105 (i := 0) dX9_passes_104 rfl rfl rfl ?_
        refine Ex_iload_n 106 (i := 2) dX9_passes_105 rfl rfl rfl ?_
        refine Ex_callV (M' := MX9_ends) 109 [.int (nI i)] (rest := []) dX9_passes_106 lX9_335 mX9_ends rfl (xMs_0 hm) rfl (Nat.le_of_ble_eq_true rfl) (Nat.le_of_ble_eq_true rfl) rfl ?_
        obtain ⟨J1, hJ1⟩ : ∃ J1, J1 = (va_up J (m + 28) (va_up (J (m + 28)) (10 + i) (nI (hmHeld H i + 1)))) := ⟨_, rfl⟩
        rw [← hJ1]
        have hS1 : hmMr (J1 (m + 28)) (hmLine (hmHoldI O H i), hmHas H, va_up (hmHeld (hmHoldI O H i)) i (hmHeld H i + 1), hmTalk H, hmSet H, hmTak H, hmMin H) := by
          rw [hJ1, va_up_self]; exact hSx
        have hF1 : hmFm m I J1 := by rw [hJ1]; exact hFm.up
        refine mc_ends (H := (hmLine (hmHoldI O H i), hmHas H, va_up (hmHeld (hmHoldI O H i)) i (hmHeld H i + 1), hmTalk H, hmSet H, hmTak H, hmMin H)) hm hS1 him hlJ (fun r' hr' => ?_)
        simp only [Option.toList, List.nil_append]
        refine Ex_iinc 112 (v := (nI (i + 1))) (ls' := [some (.ref m), some (.int v1), some (.int (nI (i + 1)))]) dX9_passes_109 rfl (xinc _) (Nat.le_of_ble_eq_true rfl) rfl rfl rfl ?_
        refine Ex_goto 52 dX9_passes_112 (by decide) ?_
        have hst : hmStays O (hmHeld H) i = false := by
          have h1 : hmHeld H i + 1 = hmHo O i := (nI_eq (by omega) (by omega)).mp c3
          simp only [hmStays, decide_eq_false_iff_not]
          omega
        refine ih (i + 1) _ (by omega) hF1.up ?_
        rw [va_up_self, hmHoldI_off hok.1 hiH hst]
        have e : hmLeave (hmLine (hmHoldI O H i), hmHas H, va_up (hmHeld (hmHoldI O H i)) i (hmHeld H i + 1), hmTalk H, hmSet H, hmTak H, hmMin H) i = ((hmLine (hmHoldI O H i)).erase i, hmHas H, va_up (va_up (hmHeld (hmHoldI O H i)) i (hmHeld H i + 1)) i 0, hmTalk H, hmSet H, hmTak H, hmMin H) := by
          unfold hmLeave
          exact if_pos him
        rw [e, va_up_up] at hr'
        exact hr'
    · refine Ex_goto 109 dX9_passes_70 (by decide) ?_
      refine Ex_iinc 112 (v := (nI (i + 1))) (ls' := [some (.ref m), some (.int v1), some (.int (nI (i + 1)))]) dX9_passes_109 rfl (xinc _) (Nat.le_of_ble_eq_true rfl) rfl rfl rfl ?_
      refine Ex_goto 52 dX9_passes_112 (by decide) ?_
      have hni : i ∉ hmLine (hmHoldI O H i) := (hmPlc_lt (by omega)).mp (Int32.not_le.mp c2)
      have hni2 : i ∉ hmLine H := fun q => hni ((hmHoldI_line O H i).mpr ⟨q, Or.inl (by omega)⟩)
      refine ih (i + 1) _ (by omega) hFm ?_
      rw [hmHoldI_no hni2]
      exact hSJ
set_option maxHeartbeats 4000000 in
theorem mc_pass_13 {d : Nat} {sh : xSh} {R : xR} {L : xL} {I : xI} {Q : xQ} {m tk : Nat} {H : hmH} {O : hmO} {v1 : Int32} (hm : xModel sh R m) (hS : hmMr (I (m + 28)) H) (hO : hmMo I m O) (ho : hmOok O) (hok : hmOk O H) (htn : I m 46 = nI tk) (htk : 1 ≤ tk) (htk2 : tk ≤ 20) (hmn : hmMin H < 1000000) (hQ : ∀ I', hmFm m I I' → hmMr (I' (m + 28)) (hmLast O tk (hmTick (hmHold O (hmSettle O H)))) → Q (some (.int (hmSet (hmLast O tk (hmTick (hmHold O (hmSettle O H)))) &&& (v1 ^^^ -1)))) 0 sh R L I') : ∀ (n i : Nat) (J : xI), n + i = hmN O → hmFm m I J → hmMr (J (m + 28)) (hmSetI O H i) → Ex (d + 3) 0 0 MX9_passes 0 sh R L J 13 [some (.ref m), some (.int v1), some (.int (nI i))] [] Q := by
  obtain ⟨s6, smin, slen, sset, stak, sline, sheld, shas, stalk⟩ := id hS
  obtain ⟨o6, ot1, ot2, oo, oll, owf⟩ := id ho
  obtain ⟨on, otk, ow, oml⟩ := id hO
  intro n
  induction n with
  | zero =>
    intro i J hn hFm hSJ
    refine Ex_iload_n 14 (i := 2) dX9_passes_13 rfl rfl rfl ?_
    refine Ex_aload_n 15 (i := 0) dX9_passes_14 rfl rfl rfl ?_
    refine Ex_getR 18 dX9_passes_15 fX9_13 (xMs_0 hm) rfl (xMr_10 hm) rfl ?_
    refine Ex_iconst 19 (v := 0) dX9_passes_18 (by decide) rfl ?_
    refine Ex_aI 20 0 (I (m + 2) 0) dX9_passes_19 (xMs_2 hm) rfl (by decide) (by decide) (congrFun (hFm _ (by omega) (by omega)) _) rfl ?_
    rw [on]
    refine Ex_icmp_ge 23 50 dX9_passes_20 (by decide) rfl (fun c1 => ?_) (fun c1 => absurd c1 (fun q => q (nI_le (by omega) (by omega))))
    refine Ex_iconst 51 (v := 0) dX9_passes_50 (by decide) rfl ?_
    refine Ex_istore_n 52 (i := 2) (ls' := [some (.ref m), some (.int v1), some (.int 0)]) dX9_passes_51 rfl (Nat.le_of_ble_eq_true rfl) rfl rfl rfl ?_
    have hiN : i = hmN O := by omega
    subst hiN
    rw [hmSetI_N hok o6] at hSJ
    have htn2 : J m 46 = nI tk := by rw [hFm m (by omega) (by omega)]; exact htn
    exact mc_pass_52 hm hSJ (hO.fm hFm) ho (hmOk_settle hok o6) htn2 htk htk2 hmn (fun I' hF' hR' => hQ I' (hFm.tr hF') hR') (hmN O) 0 J (by omega) hmFm.rf (by rw [hmHoldI_0]; exact hSJ)
  | succ n ih =>
    intro i J hn hFm hSJ
    obtain ⟨j6, jmin, jlen, jset, jtak, jline, jheld, jhas, jtalk⟩ := id hSJ
    have hlJ : ∀ x ∈ hmLine (hmSetI O H i), x < 6 := fun x hx => by have := hok.2.1 x ((hmSetI_line O H i).mp hx).1; omega
    have hJ5 : J (m + 5) = I (m + 5) := hFm _ (by omega) (by omega)
    refine Ex_iload_n 14 (i := 2) dX9_passes_13 rfl rfl rfl ?_
    refine Ex_aload_n 15 (i := 0) dX9_passes_14 rfl rfl rfl ?_
    refine Ex_getR 18 dX9_passes_15 fX9_13 (xMs_0 hm) rfl (xMr_10 hm) rfl ?_
    refine Ex_iconst 19 (v := 0) dX9_passes_18 (by decide) rfl ?_
    refine Ex_aI 20 0 (I (m + 2) 0) dX9_passes_19 (xMs_2 hm) rfl (by decide) (by decide) (congrFun (hFm _ (by omega) (by omega)) _) rfl ?_
    rw [on]
    refine Ex_icmp_ge 23 50 dX9_passes_20 (by decide) rfl (fun c1 => absurd c1 (nI_ge (by omega) (by omega))) (fun c1 => ?_)
    refine Ex_aload_n 24 (i := 0) dX9_passes_23 rfl rfl rfl ?_
    refine Ex_iload_n 25 (i := 2) dX9_passes_24 rfl rfl rfl ?_
    refine Ex_callV (M' := MX9_placeOf) 28 [.int (nI i)] (rest := []) dX9_passes_25 lX9_319 mX9_placeOf rfl (xMs_0 hm) rfl (Nat.le_of_ble_eq_true rfl) (Nat.le_of_ble_eq_true rfl) rfl ?_
    refine mc_placeOf hm hSJ (by omega) (fun x hx => by have := hlJ x hx; omega) ?_
    simp only [Option.toList, List.cons_append, List.nil_append]
    refine Ex_if_lt 31 44 dX9_passes_28 (by decide) rfl (fun c2 => ?_) (fun c2 => ?_)
    · refine Ex_iinc 47 (v := (nI (i + 1))) (ls' := [some (.ref m), some (.int v1), some (.int (nI (i + 1)))]) dX9_passes_44 rfl (xinc _) (Nat.le_of_ble_eq_true rfl) rfl rfl rfl ?_
      refine Ex_goto 13 dX9_passes_47 (by decide) ?_
      have hni : i ∉ hmLine (hmSetI O H i) := (hmPlc_lt (by omega)).mp c2
      have hni2 : ¬ (i ∈ hmLine H ∧ hmHelped O (hmHas H) i = true) := fun q => hni ((hmSetI_line O H i).mpr ⟨q.1, fun z => by omega⟩)
      refine ih (i + 1) _ (by omega) hFm ?_
      rw [hmSetI_no hni2]
      exact hSJ
    · have him : i ∈ hmLine (hmSetI O H i) := by
        by_cases h : i ∈ hmLine (hmSetI O H i)
        · exact h
        · exact absurd ((hmPlc_lt (by omega)).mpr h) c2
      have hiH : i ∈ hmLine H := ((hmSetI_line O H i).mp him).1
      refine Ex_aload_n 32 (i := 0) dX9_passes_31 rfl rfl rfl ?_
      refine Ex_iload_n 33 (i := 2) dX9_passes_32 rfl rfl rfl ?_
      refine Ex_callV (M' := MX9_isHelped) 36 [.int (nI i)] (rest := []) dX9_passes_33 lX9_341 mX9_isHelped rfl (xMs_0 hm) rfl (Nat.le_of_ble_eq_true rfl) (Nat.le_of_ble_eq_true rfl) rfl ?_
      refine mc_isHelped (O := O) hm hSJ (by omega) (by rw [hJ5]; exact (ow i (by omega)).2.1) ?_
      simp only [Option.toList, List.cons_append, List.nil_append]
      refine Ex_if_eq 39 44 dX9_passes_36 (by decide) rfl (fun c3 => ?_) (fun c3 => ?_)
      · refine Ex_iinc 47 (v := (nI (i + 1))) (ls' := [some (.ref m), some (.int v1), some (.int (nI (i + 1)))]) dX9_passes_44 rfl (xinc _) (Nat.le_of_ble_eq_true rfl) rfl rfl rfl ?_
        refine Ex_goto 13 dX9_passes_47 (by decide) ?_
        have hnh : hmHelped O (hmHas H) i = false := (hmB_0 _).mp c3
        refine ih (i + 1) _ (by omega) hFm ?_
        rw [hmSetI_no (fun q => by rw [hnh] at q; exact absurd q.2 (by decide))]
        exact hSJ
      · refine Ex_aload_n 40 (i := 0) dX9_passes_39 rfl rfl rfl ?_
        refine Ex_iload_n 41 (i := 2) dX9_passes_40 rfl rfl rfl ?_
        refine Ex_callV (M' := MX9_settles) 44 [.int (nI i)] (rest := []) dX9_passes_41 lX9_344 mX9_settles rfl (xMs_0 hm) rfl (Nat.le_of_ble_eq_true rfl) (Nat.le_of_ble_eq_true rfl) rfl ?_
        refine mc_settles hm hSJ him hlJ (fun r' hr' => ?_)
        simp only [Option.toList, List.nil_append]
        refine Ex_iinc 47 (v := (nI (i + 1))) (ls' := [some (.ref m), some (.int v1), some (.int (nI (i + 1)))]) dX9_passes_44 rfl (xinc _) (Nat.le_of_ble_eq_true rfl) rfl rfl rfl ?_
        refine Ex_goto 13 dX9_passes_47 (by decide) ?_
        have hnh : hmHelped O (hmHas H) i = true := by
          cases hb : hmHelped O (hmHas H) i with
          | true => rfl
          | false => exact absurd ((hmB_0 _).mpr hb) c3
        refine ih (i + 1) _ (by omega) hFm.up ?_
        rw [va_up_self, hmSetI_yes hok.1 hiH hnh]
        exact hr'
set_option maxHeartbeats 4000000 in
theorem mc_passes {d : Nat} {sh : xSh} {R : xR} {L : xL} {I : xI} {Q : xQ} {m tk : Nat} {H : hmH} {O : hmO} (hm : xModel sh R m) (hS : hmMr (I (m + 28)) H) (hO : hmMo I m O) (ho : hmOok O) (hok : hmOk O H) (htn : I m 46 = nI tk) (htk : 1 ≤ tk) (htk2 : tk ≤ 20) (hmn : hmMin H < 1000000) (hQ : ∀ I', hmFm m I I' → hmMr (I' (m + 28)) (hmMinute O tk H) → Q (some (.int (hmSet (hmMinute O tk H) &&& (hmSet H ^^^ -1)))) 0 sh R L I') : Ex (d + 6) 0 0 MX9_passes 0 sh R L I 0 [some (.ref m), none, none] [] Q := by
  obtain ⟨s6, smin, slen, sset, stak, sline, sheld, shas, stalk⟩ := id hS
  obtain ⟨o6, ot1, ot2, oo, oll, owf⟩ := id ho
  obtain ⟨on, otk, ow, oml⟩ := id hO
  refine Ex_aload_n 1 (i := 0) dX9_passes_0 rfl rfl rfl ?_
  refine Ex_getR 4 dX9_passes_1 fX9_93 (xMs_0 hm) rfl (xMr_39 hm) rfl ?_
  refine Ex_iconst 5 (v := 2) dX9_passes_4 (by decide) rfl ?_
  refine Ex_aI 6 2 (I (m + 28) 2) dX9_passes_5 (xMs_28 hm) rfl (by decide) (by decide) rfl rfl ?_
  rw [sset]
  refine Ex_istore_n 7 (i := 1) (ls' := [some (.ref m), some (.int (hmSet H)), none]) dX9_passes_6 rfl (Nat.le_of_ble_eq_true rfl) rfl rfl rfl ?_
  refine Ex_aload_n 8 (i := 0) dX9_passes_7 rfl rfl rfl ?_
  refine Ex_callV (M' := MX9_talks) 11 [] (rest := []) dX9_passes_8 lX9_338 mX9_talks rfl (xMs_0 hm) rfl (Nat.le_of_ble_eq_true rfl) (Nat.le_of_ble_eq_true rfl) rfl ?_
  refine mc_talks hm hS hO ho hok (fun I1 hF1 hS1 => ?_)
  simp only [Option.toList, List.nil_append]
  refine Ex_iconst 12 (v := 0) dX9_passes_11 (by decide) rfl ?_
  refine Ex_istore_n 13 (i := 2) (ls' := [some (.ref m), some (.int (hmSet H)), some (.int 0)]) dX9_passes_12 rfl (Nat.le_of_ble_eq_true rfl) rfl rfl rfl ?_
  have hokp := hmOk_pairs hok o6 ((hmLine H).length / 2) (by omega)
  have htn2 : I1 m 46 = nI tk := by rw [hF1 m (by omega) (by omega)]; exact htn
  exact mc_pass_13 hm hS1 (hO.fm hF1) ho hokp htn2 htk htk2 (by rw [hmPairs_min]; exact hmn) (fun I' hF' hR' => hQ I' (hF1.tr hF') hR') (hmN O) 0 I1 (by omega) hmFm.rf (by rw [hmSetI_0]; exact hS1)
