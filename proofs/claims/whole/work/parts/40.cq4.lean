theorem hmHl_no {p : Nat → Bool} {n : Nat} (h : p n = false) : hmHl p (n + 1) = hmHl p n := hmHl_ext (n + 1) (by omega) (fun s h1 h2 => by rw [show s = n by omega]; exact h)
def hmFe (o : Option Nat) : Int32 := match o with
  | none => 7
  | some b => hmCnt (nI b)
theorem hm_cnt7 : ∀ k, k < 64 → hmCnt (nI k) < 7 := by decide +kernel
theorem hmHl_ge {p : Nat → Bool} {n : Nat} (hn : n < 64) (h : ¬ hmCnt (nI n) < hmFe (hmHl p n)) : hmHl p (n + 1) = hmHl p n := by
  show (match hmHl p n with | none => _ | some b => _) = _
  cases e : hmHl p n with
  | none =>
    rw [e] at h
    exact absurd (hm_cnt7 n hn) h
  | some b =>
    rw [e] at h
    have h2 : ¬ hmCnt (nI n) < hmCnt (nI b) := h
    simp [h2]
theorem hmHl_yes {p : Nat → Bool} {n : Nat} (h : hmCnt (nI n) < hmFe (hmHl p n)) (hp : p n = true) : hmHl p (n + 1) = some n := by
  show (match hmHl p n with | none => _ | some b => _) = _
  cases e : hmHl p n with
  | none => simp [hp]
  | some b =>
    rw [e] at h
    have h2 : hmCnt (nI n) < hmCnt (nI b) := h
    simp [h2, hp]
theorem hmSub_no {s F : Int32} (h : ¬ s &&& (F ^^^ -1) = 0) : hmSub s F = false := decide_eq_false h
theorem hmSub_yes {s F : Int32} (h : s &&& (F ^^^ -1) = 0) : hmSub s F = true := decide_eq_true h
set_option maxHeartbeats 4000000 in
theorem c_freeCallers {d : Nat} {sh : xSh} {R : xR} {L : xL} {I : xI} {Q : xQ} {h dk dd pl pd : Nat} {O : hmO} {H : hmH} (hx : xHM sh R h dk dd pl pd) (hO : hmD I dk O) (ho : hmOok O) (hH : hmR I (h + 30) H) (hok : hmOk O H) (hQ : Q (some (.int (hmFree (hmN O) H))) 0 sh R L I) : Ex (d + 1) 0 0 MX8_freeCallers 0 sh R L I 0 [some (.ref h)] [] Q := by
  obtain ⟨h6, hlen, hset, htak, hmin, hline, hhas, hheld, htalk⟩ := id hH
  obtain ⟨on, otk, ow, olen, olaw⟩ := id hO
  obtain ⟨o6, ot1, ot2, oo, oll, owf⟩ := id ho
  have hdd := xH_27 hx
  have hlN := hok.2.1
  have hb6 : ∀ u, u ∈ hmLine H → u < 6 := fun u hu => by have := hlN u hu; omega
  refine Ex_iconst 1 (v := 1) dX8_freeCallers_0 (by decide) rfl ?_
  refine Ex_aload_n 2 (i := 0) dX8_freeCallers_1 rfl rfl rfl ?_
  refine Ex_getR 5 dX8_freeCallers_2 fX8_19 (xH_0 hx) rfl (xH_2 hx) rfl ?_
  refine Ex_gI 8 (I dk 6) dX8_freeCallers_5 fX8_187 (xH_14 hx).1 rfl rfl rfl ?_
  rw [on]
  refine Ex_ishl 9 dX8_freeCallers_8 rfl ?_
  refine Ex_iconst 10 (v := 1) dX8_freeCallers_9 (by decide) rfl ?_
  refine Ex_isub 11 dX8_freeCallers_10 rfl ?_
  refine Ex_aload_n 12 (i := 0) dX8_freeCallers_11 rfl rfl rfl ?_
  refine Ex_getR 15 dX8_freeCallers_12 fX8_39 (xH_0 hx) rfl (xH_6 hx) rfl ?_
  refine Ex_callV (M' := MX1_lineBits) 18 [] (rest := [.int ((1 <<< ((nI (hmN O)) &&& 31)) - 1)]) dX8_freeCallers_15 lX8_215 mX1_lineBits rfl (xH_18 hx).1 rfl (Nat.le_of_ble_eq_true rfl) (Nat.le_of_ble_eq_true rfl) rfl ?_
  refine c_lineBits (xH_18 hx) hH ?_
  simp only [Option.toList, List.cons_append, List.nil_append]
  refine Ex_iconst 19 (v := (-1)) dX8_freeCallers_18 (by decide) rfl ?_
  refine Ex_ixor 20 dX8_freeCallers_19 rfl ?_
  refine Ex_iand 21 dX8_freeCallers_20 rfl ?_
  refine Ex_aload_n 22 (i := 0) dX8_freeCallers_21 rfl rfl rfl ?_
  refine Ex_getR 25 dX8_freeCallers_22 fX8_39 (xH_0 hx) rfl (xH_6 hx) rfl ?_
  refine Ex_gI 28 (I (h + 30) 5) dX8_freeCallers_25 fX8_112 (xH_18 hx).1 rfl rfl rfl ?_
  rw [hset]
  refine Ex_iconst 29 (v := (-1)) dX8_freeCallers_28 (by decide) rfl ?_
  refine Ex_ixor 30 dX8_freeCallers_29 rfl ?_
  refine Ex_iand 31 dX8_freeCallers_30 rfl ?_
  refine Ex_iret dX8_freeCallers_31 rfl rfl (Or.inl rfl) ?_
  rw [hm_free_bits o6 hb6 hok.2.2.2.1]
  exact hQ
set_option maxHeartbeats 4000000 in
theorem c_settledWith_loop {d : Nat} {sh : xSh} {R : xR} {L : xL} {I : xI} {Q : xQ} {h dk dd pl pd : Nat} {O : hmO} {H : hmH} (hx : xHM sh R h dk dd pl pd) (ho : hmOok O) (hok : hmOk O H) (hmn : hmMin H < 800000) {s : Int32} (hsub : hmSubR (hmN O) s H) : ∀ n i J, n + i = hmN O → hmR J (h + 35) (hmRs s H i) → hmD J dk O → (∀ I', hmFd (h + 35) dk J I' → Q (some (.int (spWith O H s))) 0 sh R L I') → Ex (d + 5) 0 0 MX8_settledWith 0 sh R L J 13 [some (.ref h), some (.int s), some (.int (nI i))] [] Q := by
  have hdd := xH_27 hx
  have hdis : dk + 9 ≤ h + 35 ∨ h + 35 + 5 ≤ dk := by omega
  intro n
  induction n with
  | zero =>
    intro i J hi hH hO hQ
    obtain ⟨on, otk, ow, olen, olaw⟩ := id hO
    have hokI := hmOk_rs hok ho hsub i (by omega)
    have o6 := ho.1
    obtain ⟨rs1, rs2, rs3⟩ := hmRs_set s H i
    refine Ex_iload_n 14 (i := 2) dX8_settledWith_13 rfl rfl rfl ?_
    refine Ex_aload_n 15 (i := 0) dX8_settledWith_14 rfl rfl rfl ?_
    refine Ex_getR 18 dX8_settledWith_15 fX8_19 (xH_0 hx) rfl (xH_2 hx) rfl ?_
    refine Ex_gI 21 (J dk 6) dX8_settledWith_18 fX8_187 (xH_14 hx).1 rfl rfl rfl ?_
    rw [on]
    refine Ex_icmp_ge 24 47 dX8_settledWith_21 (by decide) rfl (fun c1 => ?_) (fun c1 => absurd c1 (fun q => q (nI_le (by omega) (by omega))))
    refine Ex_aload_n 48 (i := 0) dX8_settledWith_47 rfl rfl rfl ?_
    refine Ex_getR 51 dX8_settledWith_48 fX8_43 (xH_0 hx) rfl (xH_7 hx) rfl ?_
    refine Ex_aload_n 52 (i := 0) dX8_settledWith_51 rfl rfl rfl ?_
    refine Ex_getR 55 dX8_settledWith_52 fX8_19 (xH_0 hx) rfl (xH_2 hx) rfl ?_
    refine Ex_callV (M' := MX1_runOut) 58 [.ref dk] (rest := []) dX8_settledWith_55 lX8_181 mX1_runOut rfl (xH_19 hx).1 rfl (Nat.le_of_ble_eq_true rfl) (Nat.le_of_ble_eq_true rfl) rfl ?_
    have hiN : i = hmN O := by omega
    refine c_runOut (xH_19 hx) (xH_14 hx) hdis hO ho hH hokI (by omega) (fun I1 hF1 hH1 => ?_)
    simp only [Option.toList, List.nil_append, List.cons_append]
    refine Ex_pop 59 dX8_settledWith_58 rfl rfl ?_
    refine Ex_aload_n 60 (i := 0) dX8_settledWith_59 rfl rfl rfl ?_
    refine Ex_getR 63 dX8_settledWith_60 fX8_43 (xH_0 hx) rfl (xH_7 hx) rfl ?_
    refine Ex_gI 66 (I1 (h + 35) 5) dX8_settledWith_63 fX8_112 (xH_19 hx).1 rfl rfl rfl ?_
    refine Ex_iret dX8_settledWith_66 rfl rfl (Or.inl rfl) ?_
    have e : I1 (h + 35) 5 = spWith O H s := by
      rw [hH1.2.2.1, hiN]
      rfl
    rw [e]
    exact hQ I1 hF1
  | succ n ih =>
    intro i J hi hH hO hQ
    obtain ⟨on, otk, ow, olen, olaw⟩ := id hO
    have hokI := hmOk_rs hok ho hsub i (by omega)
    have o6 := ho.1
    obtain ⟨rs1, rs2, rs3⟩ := hmRs_set s H i
    refine Ex_iload_n 14 (i := 2) dX8_settledWith_13 rfl rfl rfl ?_
    refine Ex_aload_n 15 (i := 0) dX8_settledWith_14 rfl rfl rfl ?_
    refine Ex_getR 18 dX8_settledWith_15 fX8_19 (xH_0 hx) rfl (xH_2 hx) rfl ?_
    refine Ex_gI 21 (J dk 6) dX8_settledWith_18 fX8_187 (xH_14 hx).1 rfl rfl rfl ?_
    rw [on]
    refine Ex_icmp_ge 24 47 dX8_settledWith_21 (by decide) rfl (fun c1 => absurd c1 (nI_ge (by omega) (by omega))) (fun c1 => ?_)
    refine Ex_iload_n 25 (i := 1) dX8_settledWith_24 rfl rfl rfl ?_
    refine Ex_iload_n 26 (i := 2) dX8_settledWith_25 rfl rfl rfl ?_
    refine Ex_ishr 27 dX8_settledWith_26 rfl ?_
    refine Ex_iconst 28 (v := 1) dX8_settledWith_27 (by decide) rfl ?_
    refine Ex_iand 29 dX8_settledWith_28 rfl ?_
    refine Ex_iconst 30 (v := 1) dX8_settledWith_29 (by decide) rfl ?_
    refine Ex_icmp_ne 33 41 dX8_settledWith_30 (by decide) rfl (fun c2 => ?_) (fun c2 => ?_)
    · refine Ex_iinc 44 (v := (nI (i + 1))) (ls' := [some (.ref h), some (.int s), some (.int (nI (i + 1)))]) dX8_settledWith_41 rfl (xinc _) (Nat.le_of_ble_eq_true rfl) rfl rfl rfl ?_
      refine Ex_goto 13 dX8_settledWith_44 (by decide) ?_
      have hb := hmBit_n c2
      have e : hmRs s H (i + 1) = hmRs s H i := by
        show (if hmBit s i = true then _ else _) = _
        rw [hb, if_neg (by decide)]
      exact ih (i + 1) J (by omega) (by rw [e]; exact hH) hO hQ
    · refine Ex_aload_n 34 (i := 0) dX8_settledWith_33 rfl rfl rfl ?_
      refine Ex_getR 37 dX8_settledWith_34 fX8_43 (xH_0 hx) rfl (xH_7 hx) rfl ?_
      refine Ex_iload_n 38 (i := 2) dX8_settledWith_37 rfl rfl rfl ?_
      refine Ex_callV (M' := MX1_comeToEnd) 41 [.int (nI i)] (rest := []) dX8_settledWith_38 lX8_139 mX1_comeToEnd rfl (xH_19 hx).1 rfl (Nat.le_of_ble_eq_true rfl) (Nat.le_of_ble_eq_true rfl) rfl ?_
      have hb := hmBit_1.mpr c2
      have hcan := hmRs_can o6 hsub (show i < hmN O by omega) hb
      have hni : i ∉ hmLine (hmRs s H i) := by
        have h2 : hmBit (hmSet (hmRs s H i)) i = false ∧ i ∉ hmLine (hmRs s H i) := by simpa [hmCanRing] using hcan
        exact h2.2
      refine c_comeToEnd (xH_19 hx) hH (by omega) (hmOk_room hokI ho (by omega) hni) (fun I1 hF1 hH1 => ?_)
      have g1 : hmFd (h + 35) dk J I1 := fun x a _ => hF1 x (fun q => a (by unfold hmIn at q; omega))
      simp only [Option.toList, List.nil_append, List.cons_append]
      refine Ex_iinc 44 (v := (nI (i + 1))) (ls' := [some (.ref h), some (.int s), some (.int (nI (i + 1)))]) dX8_settledWith_41 rfl (xinc _) (Nat.le_of_ble_eq_true rfl) rfl rfl rfl ?_
      refine Ex_goto 13 dX8_settledWith_44 (by decide) ?_
      have e : hmRs s H (i + 1) = hmCome (hmRs s H i) i := by
        show (if hmBit s i = true then _ else _) = _
        rw [if_pos hb]
      exact ih (i + 1) I1 (by omega) (by rw [e]; exact hH1) (hO.fd g1 hdis) (fun I' g => hQ I' (g1.tr g))
set_option maxHeartbeats 4000000 in
theorem c_settledWith {d : Nat} {sh : xSh} {R : xR} {L : xL} {I : xI} {Q : xQ} {h dk dd pl pd : Nat} {O : hmO} {H : hmH} (hx : xHM sh R h dk dd pl pd) (hO : hmD I dk O) (ho : hmOok O) (hH : hmR I (h + 30) H) (hok : hmOk O H) (hmn : hmMin H < 800000) {s : Int32} (hsub : hmSubR (hmN O) s H) (hQ : ∀ I', hmFd (h + 35) dk I I' → Q (some (.int (spWith O H s))) 0 sh R L I') : Ex (d + 5) 0 0 MX8_settledWith 0 sh R L I 0 [some (.ref h), some (.int s), none] [] Q := by
  obtain ⟨h6, hlen, hset, htak, hmin, hline, hhas, hheld, htalk⟩ := id hH
  obtain ⟨on, otk, ow, olen, olaw⟩ := id hO
  obtain ⟨o6, ot1, ot2, oo, oll, owf⟩ := id ho
  have hdd := xH_27 hx
  have hlN := hok.2.1
  refine Ex_aload_n 1 (i := 0) dX8_settledWith_0 rfl rfl rfl ?_
  refine Ex_getR 4 dX8_settledWith_1 fX8_43 (xH_0 hx) rfl (xH_7 hx) rfl ?_
  refine Ex_aload_n 5 (i := 0) dX8_settledWith_4 rfl rfl rfl ?_
  refine Ex_getR 8 dX8_settledWith_5 fX8_39 (xH_0 hx) rfl (xH_6 hx) rfl ?_
  refine Ex_callV (M' := MX1_copyFrom) 11 [.ref (h + 30)] (rest := []) dX8_settledWith_8 lX8_166 mX1_copyFrom rfl (xH_19 hx).1 rfl (Nat.le_of_ble_eq_true rfl) (Nat.le_of_ble_eq_true rfl) rfl ?_
  refine c_copyFrom (xH_19 hx) (xH_18 hx) (by omega) hH (fun I0 hF0 hH0 => ?_)
  have g0 : hmFd (h + 35) dk I I0 := fun x a _ => hF0 x (fun q => a (by unfold hmIn at q; omega))
  have hO0 : hmD I0 dk O := hO.fd g0 (by omega)
  simp only [Option.toList, List.nil_append, List.cons_append]
  refine Ex_iconst 12 (v := 0) dX8_settledWith_11 (by decide) rfl ?_
  refine Ex_istore_n 13 (i := 2) (ls' := [some (.ref h), some (.int s), some (.int 0)]) dX8_settledWith_12 rfl (Nat.le_of_ble_eq_true rfl) rfl rfl rfl ?_
  exact c_settledWith_loop (I := I) hx ho hok hmn hsub (hmN O) 0 I0 (by omega) hH0 hO0 (fun I' g => hQ I' (g0.tr g))
set_option maxHeartbeats 4000000 in
theorem c_helpers_loop {d : Nat} {sh : xSh} {R : xR} {L : xL} {I : xI} {Q : xQ} {h dk dd pl pd : Nat} {O : hmO} {H : hmH} (hx : xHM sh R h dk dd pl pd) (hO : hmD I dk O) (ho : hmOok O) (hH : hmR I (h + 30) H) (hok : hmOk O H) (hmn : hmMin H < 800000) {w : Nat} (hw : w < 6) (hQ : ∀ I', hmQf h dk I I' → Q (some (.int (hmOb (hmHl (hmPh O H w) 64)))) 0 sh R L I') : ∀ n i J, n + i = 64 → hmFd (h + 35) dk I J → Ex (d + 6) 0 0 MX8_helpers 0 sh R L J 24 [some (.ref h), some (.int (nI w)), some (.int (hmFree (hmN O) H)), some (.int (hmFe (hmHl (hmPh O H w) i))), some (.int (hmOb (hmHl (hmPh O H w) i))), some (.int (nI i)), none] [] Q := by
  obtain ⟨h6, hlen, hset, htak, hmin, hline, hhas, hheld, htalk⟩ := id hH
  obtain ⟨on, otk, ow, olen, olaw⟩ := id hO
  obtain ⟨o6, ot1, ot2, oo, oll, owf⟩ := id ho
  have hdd := xH_27 hx
  have hlN := hok.2.1
  intro n
  induction n with
  | zero =>
    intro i J hi gJ
    refine Ex_iload 26 dX8_helpers_24 rfl rfl ?_
    refine Ex_bipush 28 (v := 64) dX8_helpers_26 (by decide) rfl ?_
    refine Ex_icmp_ge 31 91 dX8_helpers_28 (by decide) rfl (fun c1 => ?_) (fun c1 => absurd c1 (fun q => q (nI_le (a := 64) (by omega) (by omega))))
    refine Ex_iload 93 dX8_helpers_91 rfl rfl ?_
    refine Ex_iret dX8_helpers_93 rfl rfl (Or.inl rfl) ?_
    rw [show i = 64 by omega]
    exact hQ J (hmQf.fd gJ)
  | succ n ih =>
    intro i J hi gJ
    refine Ex_iload 26 dX8_helpers_24 rfl rfl ?_
    refine Ex_bipush 28 (v := 64) dX8_helpers_26 (by decide) rfl ?_
    refine Ex_icmp_ge 31 91 dX8_helpers_28 (by decide) rfl (fun c1 => absurd c1 (nI_ge (b := 64) (by omega) (by omega))) (fun c1 => ?_)
    refine Ex_iload 33 dX8_helpers_31 rfl rfl ?_
    refine Ex_iload_n 34 (i := 2) dX8_helpers_33 rfl rfl rfl ?_
    refine Ex_iconst 35 (v := (-1)) dX8_helpers_34 (by decide) rfl ?_
    refine Ex_ixor 36 dX8_helpers_35 rfl ?_
    refine Ex_iand 37 dX8_helpers_36 rfl ?_
    refine Ex_if_ne 40 53 dX8_helpers_37 (by decide) rfl (fun c2 => ?_) (fun c2 => ?_)
    · refine Ex_iconst 54 (v := 0) dX8_helpers_53 (by decide) rfl ?_
      refine Ex_istore 56 (ls' := [some (.ref h), some (.int (nI w)), some (.int (hmFree (hmN O) H)), some (.int (hmFe (hmHl (hmPh O H w) i))), some (.int (hmOb (hmHl (hmPh O H w) i))), some (.int (nI i)), some (.int 0)]) dX8_helpers_54 (Nat.le_of_ble_eq_true rfl) rfl rfl rfl ?_
      refine Ex_iload 58 dX8_helpers_56 rfl rfl ?_
      refine Ex_if_eq 61 85 dX8_helpers_58 (by decide) rfl (fun c3 => ?_) (fun c3 => absurd c3 (fun q => q (by decide)))
      refine Ex_iinc 88 (v := (nI (i + 1))) (ls' := [some (.ref h), some (.int (nI w)), some (.int (hmFree (hmN O) H)), some (.int (hmFe (hmHl (hmPh O H w) i))), some (.int (hmOb (hmHl (hmPh O H w) i))), some (.int (nI (i + 1))), some (.int 0)]) dX8_helpers_85 rfl (xinc _) (Nat.le_of_ble_eq_true rfl) rfl rfl rfl ?_
      refine Ex_goto 24 dX8_helpers_88 (by decide) ?_
      refine Ex_fgt (ls' := [some (.ref h), some (.int (nI w)), some (.int (hmFree (hmN O) H)), some (.int (hmFe (hmHl (hmPh O H w) i))), some (.int (hmOb (hmHl (hmPh O H w) i))), some (.int (nI (i + 1))), none]) (by simp [xsub]) ?_
      have e : hmHl (hmPh O H w) (i + 1) = hmHl (hmPh O H w) i := hmHl_no (by simp only [hmPh, hmSub_no c2, Bool.false_and])
      rw [← e]
      exact ih (i + 1) J (by omega) gJ
    · refine Ex_iload 42 dX8_helpers_40 rfl rfl ?_
      refine Ex_callS (M' := MJ6_bitCount_0f7a4) 45 [.int (nI i)] (rest := []) dX8_helpers_42 lX8_203 mJ6_bitCount_0f7a4 rfl rfl (Nat.le_of_ble_eq_true rfl) (Nat.le_of_ble_eq_true rfl) rfl ?_
      refine c_bitCount (show i < 1024 by omega) ?_
      simp only [Option.toList, List.cons_append, List.nil_append]
      refine Ex_iload_n 46 (i := 3) dX8_helpers_45 rfl rfl rfl ?_
      refine Ex_icmp_ge 49 53 dX8_helpers_46 (by decide) rfl (fun c4 => ?_) (fun c4 => ?_)
      · refine Ex_iconst 54 (v := 0) dX8_helpers_53 (by decide) rfl ?_
        refine Ex_istore 56 (ls' := [some (.ref h), some (.int (nI w)), some (.int (hmFree (hmN O) H)), some (.int (hmFe (hmHl (hmPh O H w) i))), some (.int (hmOb (hmHl (hmPh O H w) i))), some (.int (nI i)), some (.int 0)]) dX8_helpers_54 (Nat.le_of_ble_eq_true rfl) rfl rfl rfl ?_
        refine Ex_iload 58 dX8_helpers_56 rfl rfl ?_
        refine Ex_if_eq 61 85 dX8_helpers_58 (by decide) rfl (fun c5 => ?_) (fun c5 => absurd c5 (fun q => q (by decide)))
        refine Ex_iinc 88 (v := (nI (i + 1))) (ls' := [some (.ref h), some (.int (nI w)), some (.int (hmFree (hmN O) H)), some (.int (hmFe (hmHl (hmPh O H w) i))), some (.int (hmOb (hmHl (hmPh O H w) i))), some (.int (nI (i + 1))), some (.int 0)]) dX8_helpers_85 rfl (xinc _) (Nat.le_of_ble_eq_true rfl) rfl rfl rfl ?_
        refine Ex_goto 24 dX8_helpers_88 (by decide) ?_
        refine Ex_fgt (ls' := [some (.ref h), some (.int (nI w)), some (.int (hmFree (hmN O) H)), some (.int (hmFe (hmHl (hmPh O H w) i))), some (.int (hmOb (hmHl (hmPh O H w) i))), some (.int (nI (i + 1))), none]) (by simp [xsub]) ?_
        have e : hmHl (hmPh O H w) (i + 1) = hmHl (hmPh O H w) i := hmHl_ge (by omega) (Int32.not_lt.mpr c4)
        rw [← e]
        exact ih (i + 1) J (by omega) gJ
      · refine Ex_iconst 50 (v := 1) dX8_helpers_49 (by decide) rfl ?_
        refine Ex_goto 54 dX8_helpers_50 (by decide) ?_
        refine Ex_istore 56 (ls' := [some (.ref h), some (.int (nI w)), some (.int (hmFree (hmN O) H)), some (.int (hmFe (hmHl (hmPh O H w) i))), some (.int (hmOb (hmHl (hmPh O H w) i))), some (.int (nI i)), some (.int 1)]) dX8_helpers_54 (Nat.le_of_ble_eq_true rfl) rfl rfl rfl ?_
        refine Ex_iload 58 dX8_helpers_56 rfl rfl ?_
        refine Ex_if_eq 61 85 dX8_helpers_58 (by decide) rfl (fun c6 => absurd c6 (by decide)) (fun c6 => ?_)
        refine Ex_aload_n 62 (i := 0) dX8_helpers_61 rfl rfl rfl ?_
        refine Ex_iload 64 dX8_helpers_62 rfl rfl ?_
        refine Ex_callV (M' := MX8_settledWith) 67 [.int (nI i)] (rest := []) dX8_helpers_64 lX8_208 mX8_settledWith rfl (xH_0 hx) rfl (Nat.le_of_ble_eq_true rfl) (Nat.le_of_ble_eq_true rfl) rfl ?_
        have hsub := hmSub_free o6 (hm_s6_nI (show i < 64 by omega)) (hmSub_yes c2)
        have hHJ : hmR J (h + 30) H := hH.kept (fun x a b => gJ x (by omega) (by omega))
        refine c_settledWith hx (hO.fd gJ (by omega)) ho hHJ hok hmn hsub (fun I1 g1 => ?_)
        have gJ1 := gJ.tr g1
        simp only [Option.toList, List.nil_append, List.cons_append]
        refine Ex_iload_n 68 (i := 1) dX8_helpers_67 rfl rfl rfl ?_
        refine Ex_ishr 69 dX8_helpers_68 rfl ?_
        refine Ex_iconst 70 (v := 1) dX8_helpers_69 (by decide) rfl ?_
        refine Ex_iand 71 dX8_helpers_70 rfl ?_
        refine Ex_iconst 72 (v := 1) dX8_helpers_71 (by decide) rfl ?_
        refine Ex_icmp_ne 75 85 dX8_helpers_72 (by decide) rfl (fun c7 => ?_) (fun c7 => ?_)
        · refine Ex_iinc 88 (v := (nI (i + 1))) (ls' := [some (.ref h), some (.int (nI w)), some (.int (hmFree (hmN O) H)), some (.int (hmFe (hmHl (hmPh O H w) i))), some (.int (hmOb (hmHl (hmPh O H w) i))), some (.int (nI (i + 1))), some (.int 1)]) dX8_helpers_85 rfl (xinc _) (Nat.le_of_ble_eq_true rfl) rfl rfl rfl ?_
          refine Ex_goto 24 dX8_helpers_88 (by decide) ?_
          refine Ex_fgt (ls' := [some (.ref h), some (.int (nI w)), some (.int (hmFree (hmN O) H)), some (.int (hmFe (hmHl (hmPh O H w) i))), some (.int (hmOb (hmHl (hmPh O H w) i))), some (.int (nI (i + 1))), none]) (by simp [xsub]) ?_
          have e : hmHl (hmPh O H w) (i + 1) = hmHl (hmPh O H w) i := hmHl_no (by simp only [hmPh, hmBit_n c7, Bool.and_false])
          rw [← e]
          exact ih (i + 1) I1 (by omega) gJ1
        · refine Ex_iload 77 dX8_helpers_75 rfl rfl ?_
          refine Ex_callS (M' := MJ6_bitCount_0f7a4) 80 [.int (nI i)] (rest := []) dX8_helpers_77 lX8_203 mJ6_bitCount_0f7a4 rfl rfl (Nat.le_of_ble_eq_true rfl) (Nat.le_of_ble_eq_true rfl) rfl ?_
          refine c_bitCount (show i < 1024 by omega) ?_
          simp only [Option.toList, List.cons_append, List.nil_append]
          refine Ex_istore_n 81 (i := 3) (ls' := [some (.ref h), some (.int (nI w)), some (.int (hmFree (hmN O) H)), some (.int (hmCnt (nI i))), some (.int (hmOb (hmHl (hmPh O H w) i))), some (.int (nI i)), some (.int 1)]) dX8_helpers_80 rfl (Nat.le_of_ble_eq_true rfl) rfl rfl rfl ?_
          refine Ex_iload 83 dX8_helpers_81 rfl rfl ?_
          refine Ex_istore 85 (ls' := [some (.ref h), some (.int (nI w)), some (.int (hmFree (hmN O) H)), some (.int (hmCnt (nI i))), some (.int (nI i)), some (.int (nI i)), some (.int 1)]) dX8_helpers_83 (Nat.le_of_ble_eq_true rfl) rfl rfl rfl ?_
          refine Ex_iinc 88 (v := (nI (i + 1))) (ls' := [some (.ref h), some (.int (nI w)), some (.int (hmFree (hmN O) H)), some (.int (hmCnt (nI i))), some (.int (nI i)), some (.int (nI (i + 1))), some (.int 1)]) dX8_helpers_85 rfl (xinc _) (Nat.le_of_ble_eq_true rfl) rfl rfl rfl ?_
          refine Ex_goto 24 dX8_helpers_88 (by decide) ?_
          refine Ex_fgt (ls' := [some (.ref h), some (.int (nI w)), some (.int (hmFree (hmN O) H)), some (.int (hmCnt (nI i))), some (.int (nI i)), some (.int (nI (i + 1))), none]) (by simp [xsub]) ?_
          have e : hmHl (hmPh O H w) (i + 1) = some i := hmHl_yes (Int32.not_le.mp c4) (by simp only [hmPh, hmSub_yes c2, hmBit_1.mpr c7, Bool.and_self])
          refine Ex_l (ls' := [some (.ref h), some (.int (nI w)), some (.int (hmFree (hmN O) H)), some (.int (hmFe (hmHl (hmPh O H w) (i + 1)))), some (.int (hmOb (hmHl (hmPh O H w) (i + 1)))), some (.int (nI (i + 1))), none]) (by rw [e]; rfl) ?_
          exact ih (i + 1) I1 (by omega) gJ1
set_option maxHeartbeats 4000000 in
theorem c_helpers {d : Nat} {sh : xSh} {R : xR} {L : xL} {I : xI} {Q : xQ} {h dk dd pl pd : Nat} {O : hmO} {H : hmH} (hx : xHM sh R h dk dd pl pd) (hO : hmD I dk O) (ho : hmOok O) (hH : hmR I (h + 30) H) (hok : hmOk O H) (hmn : hmMin H < 800000) {qv : Int32} (hQ : ∀ I', hmQf h dk I I' → Q (some (.int (spHelpers O H qv))) 0 sh R L I') : Ex (d + 6) 0 0 MX8_helpers 0 sh R L I 0 [some (.ref h), some (.int qv), none, none, none, none, none] [] Q := by
  obtain ⟨h6, hlen, hset, htak, hmin, hline, hhas, hheld, htalk⟩ := id hH
  obtain ⟨on, otk, ow, olen, olaw⟩ := id hO
  obtain ⟨o6, ot1, ot2, oo, oll, owf⟩ := id ho
  have hdd := xH_27 hx
  have hlN := hok.2.1
  refine Ex_aload_n 1 (i := 0) dX8_helpers_0 rfl rfl rfl ?_
  refine Ex_iload_n 2 (i := 1) dX8_helpers_1 rfl rfl rfl ?_
  refine Ex_callV (M' := MX8_isOnLine) 5 [.int qv] (rest := []) dX8_helpers_2 lX8_143 mX8_isOnLine rfl (xH_0 hx) rfl (Nat.le_of_ble_eq_true rfl) (Nat.le_of_ble_eq_true rfl) rfl ?_
  refine c_isOnLine hx hO ho hH hok ?_
  simp only [Option.toList, List.cons_append, List.nil_append]
  refine Ex_if_ne 8 10 dX8_helpers_5 (by decide) rfl (fun c1 => ?_) (fun c1 => ?_)
  · have hon := hmB_ne c1
    obtain ⟨w, hw, hwm, rfl⟩ := hmOn_of o6 hon
    have hix : hmIx (nI w) = w := hmIx_nI (by omega)
    refine Ex_aload_n 11 (i := 0) dX8_helpers_10 rfl rfl rfl ?_
    refine Ex_callV (M' := MX8_freeCallers) 14 [] (rest := []) dX8_helpers_11 lX8_199 mX8_freeCallers rfl (xH_0 hx) rfl (Nat.le_of_ble_eq_true rfl) (Nat.le_of_ble_eq_true rfl) rfl ?_
    refine c_freeCallers hx hO ho hH hok ?_
    simp only [Option.toList, List.cons_append, List.nil_append]
    refine Ex_istore_n 15 (i := 2) (ls' := [some (.ref h), some (.int (nI w)), some (.int (hmFree (hmN O) H)), none, none, none, none]) dX8_helpers_14 rfl (Nat.le_of_ble_eq_true rfl) rfl rfl rfl ?_
    refine Ex_bipush 17 (v := 7) dX8_helpers_15 (by decide) rfl ?_
    refine Ex_istore_n 18 (i := 3) (ls' := [some (.ref h), some (.int (nI w)), some (.int (hmFree (hmN O) H)), some (.int 7), none, none, none]) dX8_helpers_17 rfl (Nat.le_of_ble_eq_true rfl) rfl rfl rfl ?_
    refine Ex_iconst 19 (v := (-1)) dX8_helpers_18 (by decide) rfl ?_
    refine Ex_istore 21 (ls' := [some (.ref h), some (.int (nI w)), some (.int (hmFree (hmN O) H)), some (.int 7), some (.int (-1)), none, none]) dX8_helpers_19 (Nat.le_of_ble_eq_true rfl) rfl rfl rfl ?_
    refine Ex_iconst 22 (v := 0) dX8_helpers_21 (by decide) rfl ?_
    refine Ex_istore 24 (ls' := [some (.ref h), some (.int (nI w)), some (.int (hmFree (hmN O) H)), some (.int 7), some (.int (-1)), some (.int 0), none]) dX8_helpers_22 (Nat.le_of_ble_eq_true rfl) rfl rfl rfl ?_
    have e : spHelpers O H (nI w) = hmOb (hmHl (hmPh O H w) 64) := by simp only [spHelpers, hon, hix, if_true]
    rw [e] at hQ
    exact c_helpers_loop hx hO ho hH hok hmn (by omega) hQ 64 0 I rfl .rf
  · refine Ex_iconst 9 (v := (-1)) dX8_helpers_8 (by decide) rfl ?_
    refine Ex_iret dX8_helpers_9 rfl rfl (Or.inl rfl) ?_
    have e : spHelpers O H qv = -1 := by
      simp [spHelpers, hmB_eq c1]
    rw [← e]
    exact hQ _ hmQf.rf
set_option maxHeartbeats 4000000 in
theorem c_isAsTold {d : Nat} {sh : xSh} {R : xR} {L : xL} {I : xI} {Q : xQ} {h dk dd pl pd : Nat} (hx : xHM sh R h dk dd pl pd) {t : hmTo} (ht1 : I h 11 = hmTb t) (ht2 : I h 12 = hmTs t) {s : Int32} (hs : hmS6 s) (hQ : Q (some (.int (hmB (hmAs t s)))) 0 sh R L I) : Ex d 0 0 MX8_isAsTold 0 sh R L I 0 [some (.ref h), some (.int s)] [] Q := by
  refine Ex_iload_n 1 (i := 1) dX8_isAsTold_0 rfl rfl rfl ?_
  refine Ex_aload_n 2 (i := 0) dX8_isAsTold_1 rfl rfl rfl ?_
  refine Ex_gI 5 (I h 12) dX8_isAsTold_2 fX8_241 (xH_0 hx) rfl rfl rfl ?_
  rw [ht2]
  refine Ex_ixor 6 dX8_isAsTold_5 rfl ?_
  refine Ex_aload_n 7 (i := 0) dX8_isAsTold_6 rfl rfl rfl ?_
  refine Ex_gI 10 (I h 11) dX8_isAsTold_7 fX8_238 (xH_0 hx) rfl rfl rfl ?_
  rw [ht1]
  refine Ex_iand 11 dX8_isAsTold_10 rfl ?_
  refine Ex_if_ne 14 18 dX8_isAsTold_11 (by decide) rfl (fun c1 => ?_) (fun c1 => ?_)
  · refine Ex_iconst 19 (v := 0) dX8_isAsTold_18 (by decide) rfl ?_
    refine Ex_iret dX8_isAsTold_19 rfl (by decide) (Or.inl rfl) ?_
    have e : hmB (hmAs t s) = 0 := by
      rw [hmB_0]
      cases hb : hmAs t s with
      | false => rfl
      | true => exact absurd ((hmAs_bits hs).mpr hb) c1
    rw [← e]
    exact hQ
  · refine Ex_iconst 15 (v := 1) dX8_isAsTold_14 (by decide) rfl ?_
    refine Ex_goto 19 dX8_isAsTold_15 (by decide) ?_
    refine Ex_iret dX8_isAsTold_19 rfl (by decide) (Or.inl rfl) ?_
    have e : hmB (hmAs t s) = 1 := by
      rw [hmB_1]
      exact (hmAs_bits hs).mp c1
    rw [← e]
    exact hQ
set_option maxHeartbeats 4000000 in
theorem c_sets_loop {d : Nat} {sh : xSh} {R : xR} {L : xL} {I : xI} {Q : xQ} {h dk dd pl pd : Nat} {O : hmO} {H : hmH} (hx : xHM sh R h dk dd pl pd) (hO : hmD I dk O) (ho : hmOok O) (hH : hmR I (h + 30) H) (hok : hmOk O H) (hmn : hmMin H < 800000) {t : hmTo} (ht1 : I h 11 = hmTb t) (ht2 : I h 12 = hmTs t) {qv : Int32} (hct : hmCal 3 qv = true) (hQ : ∀ I', hmQf h dk I I' → Q (some (.int (spSets O H t qv))) 0 sh R L I') : ∀ n i J, n + i = 64 → hmFd (h + 35) dk I J → Ex (d + 6) 0 0 MX8_sets 0 sh R L J 27 [some (.ref h), some (.int qv), some (.int (hmFree (hmN O) H)), some (.int (nI (hmSt (hmPs O H t) (hmFree (hmN O) H) i).1)), some (.int ((hmSt (hmPs O H t) (hmFree (hmN O) H) i).2.1)), some (.int ((hmSt (hmPs O H t) (hmFree (hmN O) H) i).2.2)), some (.int (nI i))] [] Q := by
  obtain ⟨h6, hlen, hset, htak, hmin, hline, hhas, hheld, htalk⟩ := id hH
  obtain ⟨on, otk, ow, olen, olaw⟩ := id hO
  obtain ⟨o6, ot1, ot2, oo, oll, owf⟩ := id ho
  have hdd := xH_27 hx
  have hlN := hok.2.1
  intro n
  induction n with
  | zero =>
    intro i J hi gJ
    have hi64 : i = 64 := by omega
    subst hi64
    refine Ex_iload 29 dX8_sets_27 rfl rfl ?_
    refine Ex_bipush 31 (v := 64) dX8_sets_29 (by decide) rfl ?_
    refine Ex_icmp_ge 34 79 dX8_sets_31 (by decide) rfl (fun c1 => ?_) (fun c1 => absurd c1 (fun q => q (nI_le (a := 64) (b := 64) (by omega) (by omega))))
    refine Ex_iload_n 80 (i := 1) dX8_sets_79 rfl rfl rfl ?_
    refine Ex_if_ne 83 85 dX8_sets_80 (by decide) rfl (fun c2 => ?_) (fun c2 => ?_)
    · refine Ex_iload_n 86 (i := 3) dX8_sets_85 rfl rfl rfl ?_
      refine Ex_if_ne 89 91 dX8_sets_86 (by decide) rfl (fun c3 => ?_) (fun c3 => ?_)
      · refine Ex_iload_n 92 (i := 1) dX8_sets_91 rfl rfl rfl ?_
        refine Ex_iconst 93 (v := 1) dX8_sets_92 (by decide) rfl ?_
        refine Ex_icmp_ne 96 101 dX8_sets_93 (by decide) rfl (fun c4 => ?_) (fun c4 => ?_)
        · refine Ex_iload 103 dX8_sets_101 rfl rfl ?_
          refine Ex_iret dX8_sets_103 rfl rfl (Or.inl rfl) ?_
          have h0 : ¬ (hmSt (hmPs O H t) (hmFree (hmN O) H) 64).1 = 0 := fun q => c3 (by rw [q]; rfl)
          have e : spSets O H t qv = (hmSt (hmPs O H t) (hmFree (hmN O) H) 64).2.2 := by
            simp only [spSets, hct, if_true, if_neg c2, if_neg h0, if_neg c4]
          rw [← e]
          exact hQ J (hmQf.fd gJ)
        · refine Ex_iload 98 dX8_sets_96 rfl rfl ?_
          refine Ex_goto 103 dX8_sets_98 (by decide) ?_
          refine Ex_iret dX8_sets_103 rfl rfl (Or.inl rfl) ?_
          have h0 : ¬ (hmSt (hmPs O H t) (hmFree (hmN O) H) 64).1 = 0 := fun q => c3 (by rw [q]; rfl)
          have e : spSets O H t qv = (hmSt (hmPs O H t) (hmFree (hmN O) H) 64).2.1 := by
            simp only [spSets, hct, if_true, if_neg c2, if_neg h0, if_pos c4]
          rw [← e]
          exact hQ J (hmQf.fd gJ)
      · refine Ex_iconst 90 (v := (-1)) dX8_sets_89 (by decide) rfl ?_
        refine Ex_iret dX8_sets_90 rfl rfl (Or.inl rfl) ?_
        have h0 : (hmSt (hmPs O H t) (hmFree (hmN O) H) 64).1 = 0 := by
          have h1 := hmSt_le (p := hmPs O H t) (F := hmFree (hmN O) H) 64
          exact (nI_eq (b := 0) (by omega) (by omega)).mp c3
        have e : spSets O H t qv = -1 := by
          simp only [spSets, hct, if_true, if_neg c2, if_pos h0]
        rw [← e]
        exact hQ J (hmQf.fd gJ)
    · refine Ex_iload_n 84 (i := 3) dX8_sets_83 rfl rfl rfl ?_
      refine Ex_iret dX8_sets_84 rfl rfl (Or.inl rfl) ?_
      have e0 : (0 : Int32) = nI 0 := rfl
      have e : spSets O H t qv = nI (hmSt (hmPs O H t) (hmFree (hmN O) H) 64).1 := by
        simp only [spSets, hct, if_true, if_pos c2]
      rw [← e]
      exact hQ J (hmQf.fd gJ)
  | succ n ih =>
    intro i J hi gJ
    refine Ex_iload 29 dX8_sets_27 rfl rfl ?_
    refine Ex_bipush 31 (v := 64) dX8_sets_29 (by decide) rfl ?_
    refine Ex_icmp_ge 34 79 dX8_sets_31 (by decide) rfl (fun c1 => absurd c1 (nI_ge (b := 64) (by omega) (by omega))) (fun c1 => ?_)
    refine Ex_iload 36 dX8_sets_34 rfl rfl ?_
    refine Ex_iload_n 37 (i := 2) dX8_sets_36 rfl rfl rfl ?_
    refine Ex_iconst 38 (v := (-1)) dX8_sets_37 (by decide) rfl ?_
    refine Ex_ixor 39 dX8_sets_38 rfl ?_
    refine Ex_iand 40 dX8_sets_39 rfl ?_
    refine Ex_if_ne 43 73 dX8_sets_40 (by decide) rfl (fun c2 => ?_) (fun c2 => ?_)
    · refine Ex_iinc 76 (v := (nI (i + 1))) (ls' := [some (.ref h), some (.int qv), some (.int (hmFree (hmN O) H)), some (.int (nI (hmSt (hmPs O H t) (hmFree (hmN O) H) i).1)), some (.int ((hmSt (hmPs O H t) (hmFree (hmN O) H) i).2.1)), some (.int ((hmSt (hmPs O H t) (hmFree (hmN O) H) i).2.2)), some (.int (nI (i + 1)))]) dX8_sets_73 rfl (xinc _) (Nat.le_of_ble_eq_true rfl) rfl rfl rfl ?_
      refine Ex_goto 27 dX8_sets_76 (by decide) ?_
      have hp : hmPs O H t i = false := by simp only [hmPs, hmSub_no c2, Bool.false_and]
      have e : (hmSt (hmPs O H t) (hmFree (hmN O) H) (i + 1)) = (hmSt (hmPs O H t) (hmFree (hmN O) H) i) := by
        show (if hmPs O H t i = true then _ else _) = _
        rw [hp, if_neg (by decide)]
      rw [← e]
      exact ih (i + 1) J (by omega) gJ
    · refine Ex_aload_n 44 (i := 0) dX8_sets_43 rfl rfl rfl ?_
      refine Ex_aload_n 45 (i := 0) dX8_sets_44 rfl rfl rfl ?_
      refine Ex_iload 47 dX8_sets_45 rfl rfl ?_
      refine Ex_callV (M' := MX8_settledWith) 50 [.int (nI i)] (rest := [.ref h]) dX8_sets_47 lX8_208 mX8_settledWith rfl (xH_0 hx) rfl (Nat.le_of_ble_eq_true rfl) (Nat.le_of_ble_eq_true rfl) rfl ?_
      have hsub := hmSub_free o6 (hm_s6_nI (show i < 64 by omega)) (hmSub_yes c2)
      have hHJ : hmR J (h + 30) H := hH.kept (fun x a b => gJ x (by omega) (by omega))
      refine c_settledWith hx (hO.fd gJ (by omega)) ho hHJ hok hmn hsub (fun I1 g1 => ?_)
      have gJ1 := gJ.tr g1
      have hs6 := spWith_s6 hok ho hsub
      simp only [Option.toList, List.nil_append, List.cons_append]
      refine Ex_callV (M' := MX8_isAsTold) 53 [.int (spWith O H (nI i))] (rest := []) dX8_sets_50 lX8_244 mX8_isAsTold rfl (xH_0 hx) rfl (Nat.le_of_ble_eq_true rfl) (Nat.le_of_ble_eq_true rfl) rfl ?_
      refine c_isAsTold hx (t := t) (by rw [gJ1 h (by omega) (by omega)]; exact ht1) (by rw [gJ1 h (by omega) (by omega)]; exact ht2) hs6 ?_
      simp only [Option.toList, List.cons_append, List.nil_append]
      refine Ex_if_eq 56 73 dX8_sets_53 (by decide) rfl (fun c3 => ?_) (fun c3 => ?_)
      · refine Ex_iinc 76 (v := (nI (i + 1))) (ls' := [some (.ref h), some (.int qv), some (.int (hmFree (hmN O) H)), some (.int (nI (hmSt (hmPs O H t) (hmFree (hmN O) H) i).1)), some (.int ((hmSt (hmPs O H t) (hmFree (hmN O) H) i).2.1)), some (.int ((hmSt (hmPs O H t) (hmFree (hmN O) H) i).2.2)), some (.int (nI (i + 1)))]) dX8_sets_73 rfl (xinc _) (Nat.le_of_ble_eq_true rfl) rfl rfl rfl ?_
        refine Ex_goto 27 dX8_sets_76 (by decide) ?_
        have hp : hmPs O H t i = false := by simp only [hmPs, hmB_eq c3, Bool.and_false]
        have e : (hmSt (hmPs O H t) (hmFree (hmN O) H) (i + 1)) = (hmSt (hmPs O H t) (hmFree (hmN O) H) i) := by
          show (if hmPs O H t i = true then _ else _) = _
          rw [hp, if_neg (by decide)]
        rw [← e]
        exact ih (i + 1) I1 (by omega) gJ1
      · refine Ex_iinc 59 (v := (nI ((hmSt (hmPs O H t) (hmFree (hmN O) H) i).1 + 1))) (ls' := [some (.ref h), some (.int qv), some (.int (hmFree (hmN O) H)), some (.int (nI ((hmSt (hmPs O H t) (hmFree (hmN O) H) i).1 + 1))), some (.int ((hmSt (hmPs O H t) (hmFree (hmN O) H) i).2.1)), some (.int ((hmSt (hmPs O H t) (hmFree (hmN O) H) i).2.2)), some (.int (nI i))]) dX8_sets_56 rfl (xinc _) (Nat.le_of_ble_eq_true rfl) rfl rfl rfl ?_
        refine Ex_iload 61 dX8_sets_59 rfl rfl ?_
        refine Ex_iload 63 dX8_sets_61 rfl rfl ?_
        refine Ex_iand 64 dX8_sets_63 rfl ?_
        refine Ex_istore 66 (ls' := [some (.ref h), some (.int qv), some (.int (hmFree (hmN O) H)), some (.int (nI ((hmSt (hmPs O H t) (hmFree (hmN O) H) i).1 + 1))), some (.int (((hmSt (hmPs O H t) (hmFree (hmN O) H) i).2.1) &&& (nI i))), some (.int ((hmSt (hmPs O H t) (hmFree (hmN O) H) i).2.2)), some (.int (nI i))]) dX8_sets_64 (Nat.le_of_ble_eq_true rfl) rfl rfl rfl ?_
        refine Ex_iload 68 dX8_sets_66 rfl rfl ?_
        refine Ex_iload 70 dX8_sets_68 rfl rfl ?_
        refine Ex_ior 71 dX8_sets_70 rfl ?_
        refine Ex_istore 73 (ls' := [some (.ref h), some (.int qv), some (.int (hmFree (hmN O) H)), some (.int (nI ((hmSt (hmPs O H t) (hmFree (hmN O) H) i).1 + 1))), some (.int (((hmSt (hmPs O H t) (hmFree (hmN O) H) i).2.1) &&& (nI i))), some (.int (((hmSt (hmPs O H t) (hmFree (hmN O) H) i).2.2) ||| (nI i))), some (.int (nI i))]) dX8_sets_71 (Nat.le_of_ble_eq_true rfl) rfl rfl rfl ?_
        refine Ex_iinc 76 (v := (nI (i + 1))) (ls' := [some (.ref h), some (.int qv), some (.int (hmFree (hmN O) H)), some (.int (nI ((hmSt (hmPs O H t) (hmFree (hmN O) H) i).1 + 1))), some (.int (((hmSt (hmPs O H t) (hmFree (hmN O) H) i).2.1) &&& (nI i))), some (.int (((hmSt (hmPs O H t) (hmFree (hmN O) H) i).2.2) ||| (nI i))), some (.int (nI (i + 1)))]) dX8_sets_73 rfl (xinc _) (Nat.le_of_ble_eq_true rfl) rfl rfl rfl ?_
        refine Ex_goto 27 dX8_sets_76 (by decide) ?_
        have hp : hmPs O H t i = true := by simp only [hmPs, hmSub_yes c2, hmB_ne c3, Bool.and_self]
        have e : (hmSt (hmPs O H t) (hmFree (hmN O) H) (i + 1)) = ((hmSt (hmPs O H t) (hmFree (hmN O) H) i).1 + 1, (hmSt (hmPs O H t) (hmFree (hmN O) H) i).2.1 &&& nI i, (hmSt (hmPs O H t) (hmFree (hmN O) H) i).2.2 ||| nI i) := by
          show (if hmPs O H t i = true then _ else _) = _
          rw [if_pos hp]
        refine Ex_l (ls' := [some (.ref h), some (.int qv), some (.int (hmFree (hmN O) H)), some (.int (nI (hmSt (hmPs O H t) (hmFree (hmN O) H) (i + 1)).1)), some (.int ((hmSt (hmPs O H t) (hmFree (hmN O) H) (i + 1)).2.1)), some (.int ((hmSt (hmPs O H t) (hmFree (hmN O) H) (i + 1)).2.2)), some (.int (nI (i + 1)))]) (by rw [e]) ?_
        exact ih (i + 1) I1 (by omega) gJ1
set_option maxHeartbeats 4000000 in
theorem c_sets {d : Nat} {sh : xSh} {R : xR} {L : xL} {I : xI} {Q : xQ} {h dk dd pl pd : Nat} {O : hmO} {H : hmH} (hx : xHM sh R h dk dd pl pd) (hO : hmD I dk O) (ho : hmOok O) (hH : hmR I (h + 30) H) (hok : hmOk O H) (hmn : hmMin H < 800000) {t : hmTo} (ht1 : I h 11 = hmTb t) (ht2 : I h 12 = hmTs t) {qv : Int32} (hQ : ∀ I', hmQf h dk I I' → Q (some (.int (spSets O H t qv))) 0 sh R L I') : Ex (d + 6) 0 0 MX8_sets 0 sh R L I 0 [some (.ref h), some (.int qv), none, none, none, none, none] [] Q := by
  obtain ⟨h6, hlen, hset, htak, hmin, hline, hhas, hheld, htalk⟩ := id hH
  obtain ⟨on, otk, ow, olen, olaw⟩ := id hO
  obtain ⟨o6, ot1, ot2, oo, oll, owf⟩ := id ho
  have hdd := xH_27 hx
  have hlN := hok.2.1
  refine Ex_iload_n 1 (i := 1) dX8_sets_0 rfl rfl rfl ?_
  refine Ex_if_lt 4 9 dX8_sets_1 (by decide) rfl (fun c1 => ?_) (fun c1 => ?_)
  · refine Ex_iconst 10 (v := (-1)) dX8_sets_9 (by decide) rfl ?_
    refine Ex_iret dX8_sets_10 rfl rfl (Or.inl rfl) ?_
    have e : spSets O H t qv = -1 := by
      have h1 : hmCal 3 qv = false := by
        simp only [hmCal, decide_eq_false_iff_not]
        intro q
        exact absurd (hm_lt0.mp c1) (by omega)
      simp [spSets, h1]
    rw [← e]
    exact hQ _ hmQf.rf
  · refine Ex_iload_n 5 (i := 1) dX8_sets_4 rfl rfl rfl ?_
    refine Ex_iconst 6 (v := 2) dX8_sets_5 (by decide) rfl ?_
    refine Ex_icmp_le 9 11 dX8_sets_6 (by decide) rfl (fun c2 => ?_) (fun c2 => ?_)
    · refine Ex_aload_n 12 (i := 0) dX8_sets_11 rfl rfl rfl ?_
      refine Ex_callV (M' := MX8_freeCallers) 15 [] (rest := []) dX8_sets_12 lX8_199 mX8_freeCallers rfl (xH_0 hx) rfl (Nat.le_of_ble_eq_true rfl) (Nat.le_of_ble_eq_true rfl) rfl ?_
      refine c_freeCallers hx hO ho hH hok ?_
      simp only [Option.toList, List.cons_append, List.nil_append]
      refine Ex_istore_n 16 (i := 2) (ls' := [some (.ref h), some (.int qv), some (.int (hmFree (hmN O) H)), none, none, none, none]) dX8_sets_15 rfl (Nat.le_of_ble_eq_true rfl) rfl rfl rfl ?_
      refine Ex_iconst 17 (v := 0) dX8_sets_16 (by decide) rfl ?_
      refine Ex_istore_n 18 (i := 3) (ls' := [some (.ref h), some (.int qv), some (.int (hmFree (hmN O) H)), some (.int 0), none, none, none]) dX8_sets_17 rfl (Nat.le_of_ble_eq_true rfl) rfl rfl rfl ?_
      refine Ex_iload_n 19 (i := 2) dX8_sets_18 rfl rfl rfl ?_
      refine Ex_istore 21 (ls' := [some (.ref h), some (.int qv), some (.int (hmFree (hmN O) H)), some (.int 0), some (.int (hmFree (hmN O) H)), none, none]) dX8_sets_19 (Nat.le_of_ble_eq_true rfl) rfl rfl rfl ?_
      refine Ex_iconst 22 (v := 0) dX8_sets_21 (by decide) rfl ?_
      refine Ex_istore 24 (ls' := [some (.ref h), some (.int qv), some (.int (hmFree (hmN O) H)), some (.int 0), some (.int (hmFree (hmN O) H)), some (.int 0), none]) dX8_sets_22 (Nat.le_of_ble_eq_true rfl) rfl rfl rfl ?_
      refine Ex_iconst 25 (v := 0) dX8_sets_24 (by decide) rfl ?_
      refine Ex_istore 27 (ls' := [some (.ref h), some (.int qv), some (.int (hmFree (hmN O) H)), some (.int 0), some (.int (hmFree (hmN O) H)), some (.int 0), some (.int 0)]) dX8_sets_25 (Nat.le_of_ble_eq_true rfl) rfl rfl rfl ?_
      have hct : hmCal 3 qv = true := by
        simp only [hmCal, decide_eq_true_eq]
        have h1 : ¬ qv.toInt < 0 := fun q => c1 (hm_lt0.mpr q)
        have h2 : qv.toInt ≤ (2 : Int32).toInt := Int32.le_iff_toInt_le.mp c2
        have e2 : (2 : Int32).toInt = 2 := by decide
        omega
      exact c_sets_loop hx hO ho hH hok hmn ht1 ht2 hct hQ 64 0 I rfl .rf
    · refine Ex_iconst 10 (v := (-1)) dX8_sets_9 (by decide) rfl ?_
      refine Ex_iret dX8_sets_10 rfl rfl (Or.inl rfl) ?_
      have e : spSets O H t qv = -1 := by
        have h1 : hmCal 3 qv = false := by
          simp only [hmCal, decide_eq_false_iff_not]
          intro q
          have h2 : (2 : Int32).toInt < qv.toInt := Int32.lt_iff_toInt_lt.mp (Int32.not_le.mp c2)
          have e2 : (2 : Int32).toInt = 2 := by decide
          omega
        simp [spSets, h1]
      rw [← e]
      exact hQ _ hmQf.rf
