/-! the reference's tokens -/
def hmTcd (k : Nat) : Nat := if k = 0 then 0 else if k = 2 then 1 else if k = 3 then 2 else if k = 4 then 3 else 4
/-- the tape being read -/
def hmTz (I : xI) (m : Nat) (T : List Nat) : Prop := T.length ≤ 1000 ∧ I m 3 = nI T.length ∧ ∀ i, i < T.length → I (m + 1) i = nI (T.getD i 0)
def hmNf (m : Nat) (I I' : xI) : Prop := (∀ x, x ≠ m → I' x = I x) ∧ ∀ k, k ≠ 4 → k ≠ 5 → k ≠ 6 → k ≠ 8 → I' m k = I m k
def hmNl (m : Nat) (L L' : xL) : Prop := (∀ x, x ≠ m → L' x = L x) ∧ ∀ k, k ≠ 7 → L' m k = L m k
theorem hmNf.rf {m : Nat} {I : xI} : hmNf m I I := ⟨fun _ _ => rfl, fun _ _ _ _ _ => rfl⟩
theorem hmNf.tr {m : Nat} {I J K : xI} (h1 : hmNf m I J) (h2 : hmNf m J K) : hmNf m I K := ⟨fun x p => (h2.1 x p).trans (h1.1 x p), fun k p q r s => (h2.2 k p q r s).trans (h1.2 k p q r s)⟩
theorem hmNf.up {m : Nat} {I J : xI} (h : hmNf m I J) {r : Nat → Int32} {k : Nat} {v : Int32} (e : J m = r) (hk : k = 4 ∨ k = 5 ∨ k = 6 ∨ k = 8) : hmNf m I (va_up J m (va_up r k v)) := by
  subst e
  exact ⟨fun x p => by rw [va_up_ne _ _ p]; exact h.1 x p, fun q p1 p2 p3 p4 => by rw [va_up_self, va_up_ne _ _ (by omega)]; exact h.2 q p1 p2 p3 p4⟩
theorem hmNl.rf {m : Nat} {L : xL} : hmNl m L L := ⟨fun _ _ => rfl, fun _ _ => rfl⟩
theorem hmNl.tr {m : Nat} {L J K : xL} (h1 : hmNl m L J) (h2 : hmNl m J K) : hmNl m L K := ⟨fun x p => (h2.1 x p).trans (h1.1 x p), fun k p => (h2.2 k p).trans (h1.2 k p)⟩
theorem hmNl.up {m : Nat} {L J : xL} (h : hmNl m L J) {r : Nat → Int64} {v : Int64} (e : J m = r) : hmNl m L (va_up J m (va_up r 7 v)) := by
  subst e
  exact ⟨fun x p => by rw [va_up_ne _ _ p]; exact h.1 x p, fun q p1 => by rw [va_up_self, va_up_ne _ _ p1]; exact h.2 q p1⟩
theorem hmTz.nf {m : Nat} {I J : xI} {T : List Nat} (h : hmTz I m T) (g : hmNf m I J) : hmTz J m T := ⟨h.1, by rw [g.2 3 (by omega) (by omega) (by omega) (by omega)]; exact h.2.1, fun i hi => by rw [g.1 (m + 1) (by omega)]; exact h.2.2 i hi⟩
/-- the reference stands at a token -/
def hmAm (I : xI) (L : xL) (m : Nat) (T : List Nat) (t : hmTok) (r : List hmTok) : Prop := hmTz I m T ∧ I m 5 = nI t.2.2 ∧ I m 6 = nI (hmTcd t.1) ∧ (t.1 = 2 → L m 7 = hmE27 t.2.1) ∧ (t.1 = 3 → I m 8 = nI (hmDec t.2.1)) ∧ (t.1 = 4 → t.2.2 < T.length ∧ t.2.1 = [T.getD t.2.2 0]) ∧ (t.1 = 0 → r = []) ∧ (¬ t.1 = 0 → ∃ q, I m 4 = nI q ∧ hmTsR T r q) ∧ hmTkOk t ∧ t.2.2 ≤ 1000
theorem hm_getD_out {T : List Nat} {k : Nat} (h : T.length ≤ k) : T.getD k 0 = 0 := by
  rw [List.getD_eq_getElem?_getD, List.getElem?_eq_none h]
  rfl
set_option maxHeartbeats 4000000 in
theorem mc_signAt {d : Nat} {sh : xSh} {R : xR} {L : xL} {I : xI} {Q : xQ} {m : Nat} {T : List Nat} (hm : xModel sh R m) (hT : hmTz I m T) {k : Nat} (hk : k ≤ 1000) (hQ : Q (some (.int (nI (T.getD k 0)))) 0 sh R L I) : Ex d 0 0 MX9_signAt 0 sh R L I 0 [some (.ref m), some (.int (nI k))] [] Q := by
  have h1000 := hT.1
  refine Ex_iload_n 1 (i := 1) dX9_signAt_0 rfl rfl rfl ?_
  refine Ex_aload_n 2 (i := 0) dX9_signAt_1 rfl rfl rfl ?_
  refine Ex_gI 5 (I m 3) dX9_signAt_2 fX9_138 (xMs_0 hm) rfl rfl rfl ?_
  rw [hT.2.1]
  refine Ex_icmp_ge 8 17 dX9_signAt_5 (by decide) rfl (fun c1 => ?_) (fun c1 => ?_)
  · refine Ex_iconst 18 (v := 0) dX9_signAt_17 (by decide) rfl ?_
    refine Ex_iret dX9_signAt_18 rfl rfl (Or.inl rfl) ?_
    have hge := (nI_leI (by omega) (by omega)).mp c1
    have e : nI (T.getD k 0) = 0 := by rw [hm_getD_out hge]; rfl
    rw [← e]
    exact hQ
  · have hlt : k < T.length := Nat.lt_of_not_le (fun q => c1 (nI_le q (by omega)))
    refine Ex_aload_n 9 (i := 0) dX9_signAt_8 rfl rfl rfl ?_
    refine Ex_getR 12 dX9_signAt_9 fX9_7 (xMs_0 hm) rfl (xMr_2 hm) rfl ?_
    refine Ex_iload_n 13 (i := 1) dX9_signAt_12 rfl rfl rfl ?_
    refine Ex_aI 14 k (I (m + 1) k) dX9_signAt_13 (xMs_1 hm) rfl (by omega) (by decide) rfl rfl ?_
    rw [hT.2.2 k hlt]
    refine Ex_goto 18 dX9_signAt_14 (by decide) ?_
    refine Ex_iret dX9_signAt_18 rfl rfl (Or.inl rfl) ?_
    exact hQ
theorem hm_T_lt {T : List Nat} (hc : ∀ x, x ∈ T → x < 127) (k : Nat) : T.getD k 0 < 127 := by
  by_cases h : k < T.length
  · exact hc _ (hm_getD_mem h)
  · rw [hm_getD_out (by omega)]
    omega
set_option maxHeartbeats 4000000 in
theorem mc_next_skip {d : Nat} {sh : xSh} {R : xR} {L : xL} {I : xI} {Q : xQ} {m : Nat} {T : List Nat} (hm : xModel sh R m) (hT : hmTz I m T) (hc : ∀ x, x ∈ T → x < 127) {p : Nat} (hk : ∀ J, hmNf m I J → J m 4 = nI (hmEnd hmSpc T p) → Ex d 0 0 MX9_nextToken 0 sh R L J 52 [some (.ref m), none] [] Q) : ∀ n b J, n + b = T.length → hmNf m I J → J m 4 = nI b → hmEnd hmSpc T p = hmEnd hmSpc T b → Ex d 0 0 MX9_nextToken 0 sh R L J 0 [some (.ref m), none] [] Q := by
  intro n
  induction n with
  | zero =>
    intro b J hn gJ j4 he
    have hTJ := hT.nf gJ
    have h1000 := hT.1
    have jl : J m 3 = nI T.length := hTJ.2.1
    refine Ex_aload_n 1 (i := 0) dX9_nextToken_0 rfl rfl rfl ?_
    refine Ex_gI 4 (J m 4) dX9_nextToken_1 fX9_141 (xMs_0 hm) rfl rfl rfl ?_
    rw [j4]
    refine Ex_aload_n 5 (i := 0) dX9_nextToken_4 rfl rfl rfl ?_
    refine Ex_gI 8 (J m 3) dX9_nextToken_5 fX9_138 (xMs_0 hm) rfl rfl rfl ?_
    rw [jl]
    refine Ex_icmp_ge 11 52 dX9_nextToken_8 (by decide) rfl (fun c1 => ?_) (fun c1 => absurd c1 (fun q => q (nI_le (by omega) (by omega))))
    refine hk J gJ ?_
    rw [he, hmEnd_no (fun q => absurd q (by omega))]
    exact j4
  | succ n ih =>
    intro b J hn gJ j4 he
    have hTJ := hT.nf gJ
    have h1000 := hT.1
    have jl : J m 3 = nI T.length := hTJ.2.1
    have tb := hm_T_lt hc b
    have tc := hTJ.2.2 b (by omega)
    refine Ex_aload_n 1 (i := 0) dX9_nextToken_0 rfl rfl rfl ?_
    refine Ex_gI 4 (J m 4) dX9_nextToken_1 fX9_141 (xMs_0 hm) rfl rfl rfl ?_
    rw [j4]
    refine Ex_aload_n 5 (i := 0) dX9_nextToken_4 rfl rfl rfl ?_
    refine Ex_gI 8 (J m 3) dX9_nextToken_5 fX9_138 (xMs_0 hm) rfl rfl rfl ?_
    rw [jl]
    refine Ex_icmp_ge 11 52 dX9_nextToken_8 (by decide) rfl (fun c1 => absurd c1 (nI_ge (by omega) (by omega))) (fun c1 => ?_)
    refine Ex_aload_n 12 (i := 0) dX9_nextToken_11 rfl rfl rfl ?_
    refine Ex_getR 15 dX9_nextToken_12 fX9_7 (xMs_0 hm) rfl (xMr_2 hm) rfl ?_
    refine Ex_aload_n 16 (i := 0) dX9_nextToken_15 rfl rfl rfl ?_
    refine Ex_gI 19 (J m 4) dX9_nextToken_16 fX9_141 (xMs_0 hm) rfl rfl rfl ?_
    rw [j4]
    refine Ex_aI 20 b (J (m + 1) b) dX9_nextToken_19 (xMs_1 hm) rfl (by omega) (by decide) rfl rfl ?_
    rw [tc]
    refine Ex_bipush 22 (v := 32) dX9_nextToken_20 (by decide) rfl ?_
    refine Ex_icmp_eq 25 39 dX9_nextToken_22 (by decide) rfl (fun c2 => ?_) (fun c2 => ?_)
    · refine Ex_aload_n 40 (i := 0) dX9_nextToken_39 rfl rfl rfl ?_
      refine Ex_dup 41 dX9_nextToken_40 rfl rfl ?_
      refine Ex_gI 44 (J m 4) dX9_nextToken_41 fX9_141 (xMs_0 hm) rfl rfl rfl ?_
      rw [j4]
      refine Ex_iconst 45 (v := 1) dX9_nextToken_44 (by decide) rfl ?_
      refine Ex_iadd 46 dX9_nextToken_45 rfl ?_
      rw [nI_1]
      refine Ex_pI 49 (J m) (va_up J m (va_up (J m) 4 (nI (b + 1)))) dX9_nextToken_46 fX9_141 rfl (xMs_0 hm) rfl (fun _ => rfl) rfl rfl rfl rfl ?_
      refine Ex_goto 0 dX9_nextToken_49 (by decide) ?_
      exact ih (b + 1) _ (by omega) (gJ.up rfl (Or.inl rfl)) (by rw [va_up_self, va_up_self]) (he.trans (hmEnd_yes (by omega) ((hm_spc tb).mpr (Or.inr c2))))
    · refine Ex_aload_n 26 (i := 0) dX9_nextToken_25 rfl rfl rfl ?_
      refine Ex_getR 29 dX9_nextToken_26 fX9_7 (xMs_0 hm) rfl (xMr_2 hm) rfl ?_
      refine Ex_aload_n 30 (i := 0) dX9_nextToken_29 rfl rfl rfl ?_
      refine Ex_gI 33 (J m 4) dX9_nextToken_30 fX9_141 (xMs_0 hm) rfl rfl rfl ?_
      rw [j4]
      refine Ex_aI 34 b (J (m + 1) b) dX9_nextToken_33 (xMs_1 hm) rfl (by omega) (by decide) rfl rfl ?_
      rw [tc]
      refine Ex_bipush 36 (v := 10) dX9_nextToken_34 (by decide) rfl ?_
      refine Ex_icmp_ne 39 52 dX9_nextToken_36 (by decide) rfl (fun c3 => ?_) (fun c3 => ?_)
      · refine hk J gJ ?_
        rw [he, hmEnd_no (fun _ => by
          cases e : hmSpc (T.getD b 0) with
          | false => rfl
          | true => exact absurd ((hm_spc tb).mp e) (fun q => q.elim c3 c2))]
        exact j4
      · refine Ex_aload_n 40 (i := 0) dX9_nextToken_39 rfl rfl rfl ?_
        refine Ex_dup 41 dX9_nextToken_40 rfl rfl ?_
        refine Ex_gI 44 (J m 4) dX9_nextToken_41 fX9_141 (xMs_0 hm) rfl rfl rfl ?_
        rw [j4]
        refine Ex_iconst 45 (v := 1) dX9_nextToken_44 (by decide) rfl ?_
        refine Ex_iadd 46 dX9_nextToken_45 rfl ?_
        rw [nI_1]
        refine Ex_pI 49 (J m) (va_up J m (va_up (J m) 4 (nI (b + 1)))) dX9_nextToken_46 fX9_141 rfl (xMs_0 hm) rfl (fun _ => rfl) rfl rfl rfl rfl ?_
        refine Ex_goto 0 dX9_nextToken_49 (by decide) ?_
        exact ih (b + 1) _ (by omega) (gJ.up rfl (Or.inl rfl)) (by rw [va_up_self, va_up_self]) (he.trans (hmEnd_yes (by omega) ((hm_spc tb).mpr (Or.inl c3))))
set_option maxHeartbeats 4000000 in
theorem mc_next_word {d : Nat} {sh : xSh} {R : xR} {L : xL} {I : xI} {Q : xQ} {m : Nat} {T : List Nat} (hm : xModel sh R m) (hT : hmTz I m T) (hc : ∀ x, x ∈ T → x < 127) {pl : Nat} : ∀ n b (v : Int64) J LL, n + b = T.length → pl ≤ b → hmNf m I J → hmNl m L LL → J m 4 = nI b → J m 5 = nI pl → (b - pl ≤ 8 → LL m 7 = v) → (∀ I' L', hmNf m I I' → hmNl m L L' → I' m 4 = nI (hmEnd hmLet T b) → I' m 5 = nI pl → (hmEnd hmLet T b - pl ≤ 8 → L' m 7 = (hmCut hmLet T b).foldl (fun (v : Int64) (c : Nat) => v * 27 + Int64.ofNat c - 96) v) → I' m 6 = nI (if hmEnd hmLet T b - pl ≤ 8 then 1 else 4) → Q none 0 sh R L' I') → Ex (d + 1) 0 0 MX9_nextToken 0 sh R LL J 109 [some (.ref m), none] [] Q := by
  intro n
  induction n with
  | zero =>
    intro b v J LL hn hb gJ gL j4 j5 jv hQ
    have hTJ := hT.nf gJ
    have h1000 := hT.1
    have tb := hm_T_lt hc b
    have hz : T.getD b 0 = 0 := hm_getD_out (by omega)
    have hno : hmLet (T.getD b 0) = false := by rw [hz]; decide
    refine Ex_aload_n 110 (i := 0) dX9_nextToken_109 rfl rfl rfl ?_
    refine Ex_aload_n 111 (i := 0) dX9_nextToken_110 rfl rfl rfl ?_
    refine Ex_gI 114 (J m 4) dX9_nextToken_111 fX9_141 (xMs_0 hm) rfl rfl rfl ?_
    rw [j4]
    refine Ex_callV (M' := MX9_signAt) 117 [.int (nI b)] (rest := []) dX9_nextToken_114 lX9_157 mX9_signAt rfl (xMs_0 hm) rfl (Nat.le_of_ble_eq_true rfl) (Nat.le_of_ble_eq_true rfl) rfl ?_
    refine mc_signAt hm hTJ (by omega) ?_
    simp only [Option.toList, List.cons_append, List.nil_append]
    refine Ex_bipush 119 (v := 97) dX9_nextToken_117 (by decide) rfl ?_
    refine Ex_icmp_lt 122 188 dX9_nextToken_119 (by decide) rfl (fun c1 => ?_) (fun c1 => absurd c1 (fun q => q (by rw [hz]; decide)))
    refine Ex_aload_n 189 (i := 0) dX9_nextToken_188 rfl rfl rfl ?_
    refine Ex_aload_n 190 (i := 0) dX9_nextToken_189 rfl rfl rfl ?_
    refine Ex_gI 193 (J m 4) dX9_nextToken_190 fX9_141 (xMs_0 hm) rfl rfl rfl ?_
    rw [j4]
    refine Ex_aload_n 194 (i := 0) dX9_nextToken_193 rfl rfl rfl ?_
    refine Ex_gI 197 (J m 5) dX9_nextToken_194 fX9_144 (xMs_0 hm) rfl rfl rfl ?_
    rw [j5]
    refine Ex_isub 198 dX9_nextToken_197 rfl ?_
    rw [pk_sub hb]
    refine Ex_bipush 200 (v := 8) dX9_nextToken_198 (by decide) rfl ?_
    refine Ex_icmp_le 203 207 dX9_nextToken_200 (by decide) rfl (fun c2 => ?_) (fun c2 => ?_)
    · refine Ex_iconst 208 (v := 1) dX9_nextToken_207 (by decide) rfl ?_
      refine Ex_pI 211 (J m) (va_up J m (va_up (J m) 6 1)) dX9_nextToken_208 fX9_154 rfl (xMs_0 hm) rfl (fun _ => rfl) rfl rfl rfl rfl ?_
      refine Ex_ret0 dX9_nextToken_211 rfl (Or.inl rfl) ?_
      have hsm := (nI_leI (b := 8) (by omega) (by omega)).mp c2
      rw [hmEnd_no (fun _ => hno), hmCut_no (fun _ => hno)] at hQ
      refine hQ _ _ (gJ.up rfl (Or.inr (Or.inr (Or.inl rfl)))) gL (by rw [va_up_self, va_up_ne _ _ (by omega)]; exact j4) (by rw [va_up_self, va_up_ne _ _ (by omega)]; exact j5) (fun q => jv q) (by rw [va_up_self, va_up_self, if_pos (by omega)]; rfl)
    · refine Ex_iconst 204 (v := 4) dX9_nextToken_203 (by decide) rfl ?_
      refine Ex_goto 208 dX9_nextToken_204 (by decide) ?_
      refine Ex_pI 211 (J m) (va_up J m (va_up (J m) 6 4)) dX9_nextToken_208 fX9_154 rfl (xMs_0 hm) rfl (fun _ => rfl) rfl rfl rfl rfl ?_
      refine Ex_ret0 dX9_nextToken_211 rfl (Or.inl rfl) ?_
      have hsm : ¬ b - pl ≤ 8 := fun q => c2 ((nI_leI (b := 8) (by omega) (by omega)).mpr q)
      rw [hmEnd_no (fun _ => hno), hmCut_no (fun _ => hno)] at hQ
      refine hQ _ _ (gJ.up rfl (Or.inr (Or.inr (Or.inl rfl)))) gL (by rw [va_up_self, va_up_ne _ _ (by omega)]; exact j4) (by rw [va_up_self, va_up_ne _ _ (by omega)]; exact j5) (fun q => jv q) (by rw [va_up_self, va_up_self, if_neg (by omega)]; rfl)
  | succ n ih =>
    intro b v J LL hn hb gJ gL j4 j5 jv hQ
    have hTJ := hT.nf gJ
    have h1000 := hT.1
    have tb := hm_T_lt hc b
    refine Ex_aload_n 110 (i := 0) dX9_nextToken_109 rfl rfl rfl ?_
    refine Ex_aload_n 111 (i := 0) dX9_nextToken_110 rfl rfl rfl ?_
    refine Ex_gI 114 (J m 4) dX9_nextToken_111 fX9_141 (xMs_0 hm) rfl rfl rfl ?_
    rw [j4]
    refine Ex_callV (M' := MX9_signAt) 117 [.int (nI b)] (rest := []) dX9_nextToken_114 lX9_157 mX9_signAt rfl (xMs_0 hm) rfl (Nat.le_of_ble_eq_true rfl) (Nat.le_of_ble_eq_true rfl) rfl ?_
    refine mc_signAt hm hTJ (by omega) ?_
    simp only [Option.toList, List.cons_append, List.nil_append]
    refine Ex_bipush 119 (v := 97) dX9_nextToken_117 (by decide) rfl ?_
    refine Ex_icmp_lt 122 188 dX9_nextToken_119 (by decide) rfl (fun c1 => ?_) (fun c1 => ?_)
    · refine Ex_aload_n 189 (i := 0) dX9_nextToken_188 rfl rfl rfl ?_
      refine Ex_aload_n 190 (i := 0) dX9_nextToken_189 rfl rfl rfl ?_
      refine Ex_gI 193 (J m 4) dX9_nextToken_190 fX9_141 (xMs_0 hm) rfl rfl rfl ?_
      rw [j4]
      refine Ex_aload_n 194 (i := 0) dX9_nextToken_193 rfl rfl rfl ?_
      refine Ex_gI 197 (J m 5) dX9_nextToken_194 fX9_144 (xMs_0 hm) rfl rfl rfl ?_
      rw [j5]
      refine Ex_isub 198 dX9_nextToken_197 rfl ?_
      rw [pk_sub hb]
      refine Ex_bipush 200 (v := 8) dX9_nextToken_198 (by decide) rfl ?_
      refine Ex_icmp_le 203 207 dX9_nextToken_200 (by decide) rfl (fun c2 => ?_) (fun c2 => ?_)
      · refine Ex_iconst 208 (v := 1) dX9_nextToken_207 (by decide) rfl ?_
        refine Ex_pI 211 (J m) (va_up J m (va_up (J m) 6 1)) dX9_nextToken_208 fX9_154 rfl (xMs_0 hm) rfl (fun _ => rfl) rfl rfl rfl rfl ?_
        refine Ex_ret0 dX9_nextToken_211 rfl (Or.inl rfl) ?_
        have hsm := (nI_leI (b := 8) (by omega) (by omega)).mp c2
        have hno : hmLet (T.getD b 0) = false := by
          cases e : hmLet (T.getD b 0) with
          | false => rfl
          | true => exact absurd ((hm_let tb).mp e).1 (Int32.not_le.mpr c1)
        rw [hmEnd_no (fun _ => hno), hmCut_no (fun _ => hno)] at hQ
        refine hQ _ _ (gJ.up rfl (Or.inr (Or.inr (Or.inl rfl)))) gL (by rw [va_up_self, va_up_ne _ _ (by omega)]; exact j4) (by rw [va_up_self, va_up_ne _ _ (by omega)]; exact j5) (fun q => jv q) (by rw [va_up_self, va_up_self, if_pos (by omega)]; rfl)
      · refine Ex_iconst 204 (v := 4) dX9_nextToken_203 (by decide) rfl ?_
        refine Ex_goto 208 dX9_nextToken_204 (by decide) ?_
        refine Ex_pI 211 (J m) (va_up J m (va_up (J m) 6 4)) dX9_nextToken_208 fX9_154 rfl (xMs_0 hm) rfl (fun _ => rfl) rfl rfl rfl rfl ?_
        refine Ex_ret0 dX9_nextToken_211 rfl (Or.inl rfl) ?_
        have hsm : ¬ b - pl ≤ 8 := fun q => c2 ((nI_leI (b := 8) (by omega) (by omega)).mpr q)
        have hno : hmLet (T.getD b 0) = false := by
          cases e : hmLet (T.getD b 0) with
          | false => rfl
          | true => exact absurd ((hm_let tb).mp e).1 (Int32.not_le.mpr c1)
        rw [hmEnd_no (fun _ => hno), hmCut_no (fun _ => hno)] at hQ
        refine hQ _ _ (gJ.up rfl (Or.inr (Or.inr (Or.inl rfl)))) gL (by rw [va_up_self, va_up_ne _ _ (by omega)]; exact j4) (by rw [va_up_self, va_up_ne _ _ (by omega)]; exact j5) (fun q => jv q) (by rw [va_up_self, va_up_self, if_neg (by omega)]; rfl)
    · refine Ex_aload_n 123 (i := 0) dX9_nextToken_122 rfl rfl rfl ?_
      refine Ex_aload_n 124 (i := 0) dX9_nextToken_123 rfl rfl rfl ?_
      refine Ex_gI 127 (J m 4) dX9_nextToken_124 fX9_141 (xMs_0 hm) rfl rfl rfl ?_
      rw [j4]
      refine Ex_callV (M' := MX9_signAt) 130 [.int (nI b)] (rest := []) dX9_nextToken_127 lX9_157 mX9_signAt rfl (xMs_0 hm) rfl (Nat.le_of_ble_eq_true rfl) (Nat.le_of_ble_eq_true rfl) rfl ?_
      refine mc_signAt hm hTJ (by omega) ?_
      simp only [Option.toList, List.cons_append, List.nil_append]
      refine Ex_bipush 132 (v := 122) dX9_nextToken_130 (by decide) rfl ?_
      refine Ex_icmp_gt 135 188 dX9_nextToken_132 (by decide) rfl (fun c3 => ?_) (fun c3 => ?_)
      · refine Ex_aload_n 189 (i := 0) dX9_nextToken_188 rfl rfl rfl ?_
        refine Ex_aload_n 190 (i := 0) dX9_nextToken_189 rfl rfl rfl ?_
        refine Ex_gI 193 (J m 4) dX9_nextToken_190 fX9_141 (xMs_0 hm) rfl rfl rfl ?_
        rw [j4]
        refine Ex_aload_n 194 (i := 0) dX9_nextToken_193 rfl rfl rfl ?_
        refine Ex_gI 197 (J m 5) dX9_nextToken_194 fX9_144 (xMs_0 hm) rfl rfl rfl ?_
        rw [j5]
        refine Ex_isub 198 dX9_nextToken_197 rfl ?_
        rw [pk_sub hb]
        refine Ex_bipush 200 (v := 8) dX9_nextToken_198 (by decide) rfl ?_
        refine Ex_icmp_le 203 207 dX9_nextToken_200 (by decide) rfl (fun c4 => ?_) (fun c4 => ?_)
        · refine Ex_iconst 208 (v := 1) dX9_nextToken_207 (by decide) rfl ?_
          refine Ex_pI 211 (J m) (va_up J m (va_up (J m) 6 1)) dX9_nextToken_208 fX9_154 rfl (xMs_0 hm) rfl (fun _ => rfl) rfl rfl rfl rfl ?_
          refine Ex_ret0 dX9_nextToken_211 rfl (Or.inl rfl) ?_
          have hsm := (nI_leI (b := 8) (by omega) (by omega)).mp c4
          have hno : hmLet (T.getD b 0) = false := by
            cases e : hmLet (T.getD b 0) with
            | false => rfl
            | true => exact absurd ((hm_let tb).mp e).2 (Int32.not_le.mpr c3)
          rw [hmEnd_no (fun _ => hno), hmCut_no (fun _ => hno)] at hQ
          refine hQ _ _ (gJ.up rfl (Or.inr (Or.inr (Or.inl rfl)))) gL (by rw [va_up_self, va_up_ne _ _ (by omega)]; exact j4) (by rw [va_up_self, va_up_ne _ _ (by omega)]; exact j5) (fun q => jv q) (by rw [va_up_self, va_up_self, if_pos (by omega)]; rfl)
        · refine Ex_iconst 204 (v := 4) dX9_nextToken_203 (by decide) rfl ?_
          refine Ex_goto 208 dX9_nextToken_204 (by decide) ?_
          refine Ex_pI 211 (J m) (va_up J m (va_up (J m) 6 4)) dX9_nextToken_208 fX9_154 rfl (xMs_0 hm) rfl (fun _ => rfl) rfl rfl rfl rfl ?_
          refine Ex_ret0 dX9_nextToken_211 rfl (Or.inl rfl) ?_
          have hsm : ¬ b - pl ≤ 8 := fun q => c4 ((nI_leI (b := 8) (by omega) (by omega)).mpr q)
          have hno : hmLet (T.getD b 0) = false := by
            cases e : hmLet (T.getD b 0) with
            | false => rfl
            | true => exact absurd ((hm_let tb).mp e).2 (Int32.not_le.mpr c3)
          rw [hmEnd_no (fun _ => hno), hmCut_no (fun _ => hno)] at hQ
          refine hQ _ _ (gJ.up rfl (Or.inr (Or.inr (Or.inl rfl)))) gL (by rw [va_up_self, va_up_ne _ _ (by omega)]; exact j4) (by rw [va_up_self, va_up_ne _ _ (by omega)]; exact j5) (fun q => jv q) (by rw [va_up_self, va_up_self, if_neg (by omega)]; rfl)
      · refine Ex_aload_n 136 (i := 0) dX9_nextToken_135 rfl rfl rfl ?_
        refine Ex_gI 139 (J m 4) dX9_nextToken_136 fX9_141 (xMs_0 hm) rfl rfl rfl ?_
        rw [j4]
        refine Ex_aload_n 140 (i := 0) dX9_nextToken_139 rfl rfl rfl ?_
        refine Ex_gI 143 (J m 5) dX9_nextToken_140 fX9_144 (xMs_0 hm) rfl rfl rfl ?_
        rw [j5]
        refine Ex_isub 144 dX9_nextToken_143 rfl ?_
        rw [pk_sub hb]
        refine Ex_bipush 146 (v := 8) dX9_nextToken_144 (by decide) rfl ?_
        refine Ex_icmp_ge 149 175 dX9_nextToken_146 (by decide) rfl (fun c5 => ?_) (fun c5 => ?_)
        · refine Ex_aload_n 176 (i := 0) dX9_nextToken_175 rfl rfl rfl ?_
          refine Ex_dup 177 dX9_nextToken_176 rfl rfl ?_
          refine Ex_gI 180 (J m 4) dX9_nextToken_177 fX9_141 (xMs_0 hm) rfl rfl rfl ?_
          rw [j4]
          refine Ex_iconst 181 (v := 1) dX9_nextToken_180 (by decide) rfl ?_
          refine Ex_iadd 182 dX9_nextToken_181 rfl ?_
          rw [nI_1]
          refine Ex_pI 185 (J m) (va_up J m (va_up (J m) 4 (nI (b + 1)))) dX9_nextToken_182 fX9_141 rfl (xMs_0 hm) rfl (fun _ => rfl) rfl rfl rfl rfl ?_
          refine Ex_goto 109 dX9_nextToken_185 (by decide) ?_
          have hyes : hmLet (T.getD b 0) = true := (hm_let tb).mpr ⟨Int32.not_lt.mp c1, Int32.not_lt.mp c3⟩
          have hbl : b < T.length := Nat.lt_of_not_le (fun q => by rw [hm_getD_out q] at hyes; exact absurd hyes (by decide))
          rw [hmEnd_yes hbl hyes, hmCut_yes hbl hyes, List.foldl_cons] at hQ
          have hbg : ¬ b + 1 - pl ≤ 8 := by
            have q := (nI_leI (a := 8) (by omega) (by omega)).mp c5
            omega
          exact ih (b + 1) _ _ _ (by omega) (by omega) (gJ.up rfl (Or.inl rfl)) gL (by rw [va_up_self, va_up_self]) (by rw [va_up_self, va_up_ne _ _ (by omega)]; exact j5) (fun q => absurd q hbg) hQ
        · refine Ex_aload_n 150 (i := 0) dX9_nextToken_149 rfl rfl rfl ?_
          refine Ex_aload_n 151 (i := 0) dX9_nextToken_150 rfl rfl rfl ?_
          refine Ex_gL 154 (LL m 7) dX9_nextToken_151 fX9_147 (xMs_0 hm) rfl rfl ?_
          refine Ex_ldc2 157 (v := 27) dX9_nextToken_154 kX9_161 rfl ?_
          refine Ex_lmul 158 dX9_nextToken_157 rfl ?_
          refine Ex_aload_n 159 (i := 0) dX9_nextToken_158 rfl rfl rfl ?_
          refine Ex_aload_n 160 (i := 0) dX9_nextToken_159 rfl rfl rfl ?_
          refine Ex_gI 163 (J m 4) dX9_nextToken_160 fX9_141 (xMs_0 hm) rfl rfl rfl ?_
          rw [j4]
          refine Ex_callV (M' := MX9_signAt) 166 [.int (nI b)] (rest := [.long ((LL m 7) * 27), .ref m]) dX9_nextToken_163 lX9_157 mX9_signAt rfl (xMs_0 hm) rfl (Nat.le_of_ble_eq_true rfl) (Nat.le_of_ble_eq_true rfl) rfl ?_
          refine mc_signAt hm hTJ (by omega) ?_
          simp only [Option.toList, List.cons_append, List.nil_append]
          refine Ex_i2l 167 dX9_nextToken_166 rfl ?_
          rw [hm_i2l (by omega)]
          refine Ex_ladd 168 dX9_nextToken_167 rfl ?_
          refine Ex_ldc2 171 (v := 96) dX9_nextToken_168 kX9_163 rfl ?_
          refine Ex_lsub 172 dX9_nextToken_171 rfl ?_
          refine Ex_pL 175 (LL m) (va_up LL m (va_up (LL m) 7 ((((LL m 7) * 27) + (nL (T.getD b 0))) - 96))) dX9_nextToken_172 fX9_147 rfl (xMs_0 hm) rfl rfl rfl ?_
          refine Ex_aload_n 176 (i := 0) dX9_nextToken_175 rfl rfl rfl ?_
          refine Ex_dup 177 dX9_nextToken_176 rfl rfl ?_
          refine Ex_gI 180 (J m 4) dX9_nextToken_177 fX9_141 (xMs_0 hm) rfl rfl rfl ?_
          rw [j4]
          refine Ex_iconst 181 (v := 1) dX9_nextToken_180 (by decide) rfl ?_
          refine Ex_iadd 182 dX9_nextToken_181 rfl ?_
          rw [nI_1]
          refine Ex_pI 185 (J m) (va_up J m (va_up (J m) 4 (nI (b + 1)))) dX9_nextToken_182 fX9_141 rfl (xMs_0 hm) rfl (fun _ => rfl) rfl rfl rfl rfl ?_
          refine Ex_goto 109 dX9_nextToken_185 (by decide) ?_
          have hyes : hmLet (T.getD b 0) = true := (hm_let tb).mpr ⟨Int32.not_lt.mp c1, Int32.not_lt.mp c3⟩
          have hbl : b < T.length := Nat.lt_of_not_le (fun q => by rw [hm_getD_out q] at hyes; exact absurd hyes (by decide))
          rw [hmEnd_yes hbl hyes, hmCut_yes hbl hyes, List.foldl_cons] at hQ
          exact ih (b + 1) _ _ _ (by omega) (by omega) (gJ.up rfl (Or.inl rfl)) (gL.up rfl) (by rw [va_up_self, va_up_self]) (by rw [va_up_self, va_up_ne _ _ (by omega)]; exact j5) (fun _ => (congrFun (va_up_self _ _ _) _).trans ((va_up_self _ _ _).trans (by rw [jv (by omega)]; exact rfl))) hQ
set_option maxHeartbeats 4000000 in
theorem mc_next_num {d : Nat} {sh : xSh} {R : xR} {L : xL} {I : xI} {Q : xQ} {m : Nat} {T : List Nat} (hm : xModel sh R m) (hT : hmTz I m T) (hc : ∀ x, x ∈ T → x < 127) {pl : Nat} : ∀ n b (v : Int32) J LL, n + b = T.length → pl ≤ b → hmNf m I J → hmNl m L LL → J m 4 = nI b → J m 5 = nI pl → (b - pl ≤ 4 → J m 8 = v) → (∀ I' L', hmNf m I I' → hmNl m L L' → I' m 4 = nI (hmEnd hmDig T b) → I' m 5 = nI pl → (hmEnd hmDig T b - pl ≤ 4 → I' m 8 = (hmCut hmDig T b).foldl (fun (v : Int32) (c : Nat) => v * 10 + nI c - 48) v) → I' m 6 = nI (if hmEnd hmDig T b - pl ≤ 4 then 2 else 4) → Q none 0 sh R L' I') → Ex (d + 1) 0 0 MX9_nextToken 0 sh R LL J 224 [some (.ref m), none] [] Q := by
  intro n
  induction n with
  | zero =>
    intro b v J LL hn hb gJ gL j4 j5 jv hQ
    have hTJ := hT.nf gJ
    have h1000 := hT.1
    have tb := hm_T_lt hc b
    have hz : T.getD b 0 = 0 := hm_getD_out (by omega)
    have hno : hmDig (T.getD b 0) = false := by rw [hz]; decide
    refine Ex_aload_n 225 (i := 0) dX9_nextToken_224 rfl rfl rfl ?_
    refine Ex_aload_n 226 (i := 0) dX9_nextToken_225 rfl rfl rfl ?_
    refine Ex_gI 229 (J m 4) dX9_nextToken_226 fX9_141 (xMs_0 hm) rfl rfl rfl ?_
    rw [j4]
    refine Ex_callV (M' := MX9_signAt) 232 [.int (nI b)] (rest := []) dX9_nextToken_229 lX9_157 mX9_signAt rfl (xMs_0 hm) rfl (Nat.le_of_ble_eq_true rfl) (Nat.le_of_ble_eq_true rfl) rfl ?_
    refine mc_signAt hm hTJ (by omega) ?_
    simp only [Option.toList, List.cons_append, List.nil_append]
    refine Ex_bipush 234 (v := 48) dX9_nextToken_232 (by decide) rfl ?_
    refine Ex_icmp_lt 237 299 dX9_nextToken_234 (by decide) rfl (fun c1 => ?_) (fun c1 => absurd c1 (fun q => q (by rw [hz]; decide)))
    refine Ex_aload_n 300 (i := 0) dX9_nextToken_299 rfl rfl rfl ?_
    refine Ex_aload_n 301 (i := 0) dX9_nextToken_300 rfl rfl rfl ?_
    refine Ex_gI 304 (J m 4) dX9_nextToken_301 fX9_141 (xMs_0 hm) rfl rfl rfl ?_
    rw [j4]
    refine Ex_aload_n 305 (i := 0) dX9_nextToken_304 rfl rfl rfl ?_
    refine Ex_gI 308 (J m 5) dX9_nextToken_305 fX9_144 (xMs_0 hm) rfl rfl rfl ?_
    rw [j5]
    refine Ex_isub 309 dX9_nextToken_308 rfl ?_
    rw [pk_sub hb]
    refine Ex_iconst 310 (v := 4) dX9_nextToken_309 (by decide) rfl ?_
    refine Ex_icmp_le 313 317 dX9_nextToken_310 (by decide) rfl (fun c2 => ?_) (fun c2 => ?_)
    · refine Ex_iconst 318 (v := 2) dX9_nextToken_317 (by decide) rfl ?_
      refine Ex_pI 321 (J m) (va_up J m (va_up (J m) 6 2)) dX9_nextToken_318 fX9_154 rfl (xMs_0 hm) rfl (fun _ => rfl) rfl rfl rfl rfl ?_
      refine Ex_ret0 dX9_nextToken_321 rfl (Or.inl rfl) ?_
      have hsm := (nI_leI (b := 4) (by omega) (by omega)).mp c2
      rw [hmEnd_no (fun _ => hno), hmCut_no (fun _ => hno)] at hQ
      refine hQ _ _ (gJ.up rfl (Or.inr (Or.inr (Or.inl rfl)))) gL (by rw [va_up_self, va_up_ne _ _ (by omega)]; exact j4) (by rw [va_up_self, va_up_ne _ _ (by omega)]; exact j5) (fun q => by rw [va_up_self, va_up_ne _ _ (by omega)]; exact jv q) (by rw [va_up_self, va_up_self, if_pos (by omega)]; rfl)
    · refine Ex_iconst 314 (v := 4) dX9_nextToken_313 (by decide) rfl ?_
      refine Ex_goto 318 dX9_nextToken_314 (by decide) ?_
      refine Ex_pI 321 (J m) (va_up J m (va_up (J m) 6 4)) dX9_nextToken_318 fX9_154 rfl (xMs_0 hm) rfl (fun _ => rfl) rfl rfl rfl rfl ?_
      refine Ex_ret0 dX9_nextToken_321 rfl (Or.inl rfl) ?_
      have hsm : ¬ b - pl ≤ 4 := fun q => c2 ((nI_leI (b := 4) (by omega) (by omega)).mpr q)
      rw [hmEnd_no (fun _ => hno), hmCut_no (fun _ => hno)] at hQ
      refine hQ _ _ (gJ.up rfl (Or.inr (Or.inr (Or.inl rfl)))) gL (by rw [va_up_self, va_up_ne _ _ (by omega)]; exact j4) (by rw [va_up_self, va_up_ne _ _ (by omega)]; exact j5) (fun q => by rw [va_up_self, va_up_ne _ _ (by omega)]; exact jv q) (by rw [va_up_self, va_up_self, if_neg (by omega)]; rfl)
  | succ n ih =>
    intro b v J LL hn hb gJ gL j4 j5 jv hQ
    have hTJ := hT.nf gJ
    have h1000 := hT.1
    have tb := hm_T_lt hc b
    refine Ex_aload_n 225 (i := 0) dX9_nextToken_224 rfl rfl rfl ?_
    refine Ex_aload_n 226 (i := 0) dX9_nextToken_225 rfl rfl rfl ?_
    refine Ex_gI 229 (J m 4) dX9_nextToken_226 fX9_141 (xMs_0 hm) rfl rfl rfl ?_
    rw [j4]
    refine Ex_callV (M' := MX9_signAt) 232 [.int (nI b)] (rest := []) dX9_nextToken_229 lX9_157 mX9_signAt rfl (xMs_0 hm) rfl (Nat.le_of_ble_eq_true rfl) (Nat.le_of_ble_eq_true rfl) rfl ?_
    refine mc_signAt hm hTJ (by omega) ?_
    simp only [Option.toList, List.cons_append, List.nil_append]
    refine Ex_bipush 234 (v := 48) dX9_nextToken_232 (by decide) rfl ?_
    refine Ex_icmp_lt 237 299 dX9_nextToken_234 (by decide) rfl (fun c1 => ?_) (fun c1 => ?_)
    · refine Ex_aload_n 300 (i := 0) dX9_nextToken_299 rfl rfl rfl ?_
      refine Ex_aload_n 301 (i := 0) dX9_nextToken_300 rfl rfl rfl ?_
      refine Ex_gI 304 (J m 4) dX9_nextToken_301 fX9_141 (xMs_0 hm) rfl rfl rfl ?_
      rw [j4]
      refine Ex_aload_n 305 (i := 0) dX9_nextToken_304 rfl rfl rfl ?_
      refine Ex_gI 308 (J m 5) dX9_nextToken_305 fX9_144 (xMs_0 hm) rfl rfl rfl ?_
      rw [j5]
      refine Ex_isub 309 dX9_nextToken_308 rfl ?_
      rw [pk_sub hb]
      refine Ex_iconst 310 (v := 4) dX9_nextToken_309 (by decide) rfl ?_
      refine Ex_icmp_le 313 317 dX9_nextToken_310 (by decide) rfl (fun c2 => ?_) (fun c2 => ?_)
      · refine Ex_iconst 318 (v := 2) dX9_nextToken_317 (by decide) rfl ?_
        refine Ex_pI 321 (J m) (va_up J m (va_up (J m) 6 2)) dX9_nextToken_318 fX9_154 rfl (xMs_0 hm) rfl (fun _ => rfl) rfl rfl rfl rfl ?_
        refine Ex_ret0 dX9_nextToken_321 rfl (Or.inl rfl) ?_
        have hsm := (nI_leI (b := 4) (by omega) (by omega)).mp c2
        have hno : hmDig (T.getD b 0) = false := by
          cases e : hmDig (T.getD b 0) with
          | false => rfl
          | true => exact absurd ((hm_dig tb).mp e).1 (Int32.not_le.mpr c1)
        rw [hmEnd_no (fun _ => hno), hmCut_no (fun _ => hno)] at hQ
        refine hQ _ _ (gJ.up rfl (Or.inr (Or.inr (Or.inl rfl)))) gL (by rw [va_up_self, va_up_ne _ _ (by omega)]; exact j4) (by rw [va_up_self, va_up_ne _ _ (by omega)]; exact j5) (fun q => by rw [va_up_self, va_up_ne _ _ (by omega)]; exact jv q) (by rw [va_up_self, va_up_self, if_pos (by omega)]; rfl)
      · refine Ex_iconst 314 (v := 4) dX9_nextToken_313 (by decide) rfl ?_
        refine Ex_goto 318 dX9_nextToken_314 (by decide) ?_
        refine Ex_pI 321 (J m) (va_up J m (va_up (J m) 6 4)) dX9_nextToken_318 fX9_154 rfl (xMs_0 hm) rfl (fun _ => rfl) rfl rfl rfl rfl ?_
        refine Ex_ret0 dX9_nextToken_321 rfl (Or.inl rfl) ?_
        have hsm : ¬ b - pl ≤ 4 := fun q => c2 ((nI_leI (b := 4) (by omega) (by omega)).mpr q)
        have hno : hmDig (T.getD b 0) = false := by
          cases e : hmDig (T.getD b 0) with
          | false => rfl
          | true => exact absurd ((hm_dig tb).mp e).1 (Int32.not_le.mpr c1)
        rw [hmEnd_no (fun _ => hno), hmCut_no (fun _ => hno)] at hQ
        refine hQ _ _ (gJ.up rfl (Or.inr (Or.inr (Or.inl rfl)))) gL (by rw [va_up_self, va_up_ne _ _ (by omega)]; exact j4) (by rw [va_up_self, va_up_ne _ _ (by omega)]; exact j5) (fun q => by rw [va_up_self, va_up_ne _ _ (by omega)]; exact jv q) (by rw [va_up_self, va_up_self, if_neg (by omega)]; rfl)
    · refine Ex_aload_n 238 (i := 0) dX9_nextToken_237 rfl rfl rfl ?_
      refine Ex_aload_n 239 (i := 0) dX9_nextToken_238 rfl rfl rfl ?_
      refine Ex_gI 242 (J m 4) dX9_nextToken_239 fX9_141 (xMs_0 hm) rfl rfl rfl ?_
      rw [j4]
      refine Ex_callV (M' := MX9_signAt) 245 [.int (nI b)] (rest := []) dX9_nextToken_242 lX9_157 mX9_signAt rfl (xMs_0 hm) rfl (Nat.le_of_ble_eq_true rfl) (Nat.le_of_ble_eq_true rfl) rfl ?_
      refine mc_signAt hm hTJ (by omega) ?_
      simp only [Option.toList, List.cons_append, List.nil_append]
      refine Ex_bipush 247 (v := 57) dX9_nextToken_245 (by decide) rfl ?_
      refine Ex_icmp_gt 250 299 dX9_nextToken_247 (by decide) rfl (fun c3 => ?_) (fun c3 => ?_)
      · refine Ex_aload_n 300 (i := 0) dX9_nextToken_299 rfl rfl rfl ?_
        refine Ex_aload_n 301 (i := 0) dX9_nextToken_300 rfl rfl rfl ?_
        refine Ex_gI 304 (J m 4) dX9_nextToken_301 fX9_141 (xMs_0 hm) rfl rfl rfl ?_
        rw [j4]
        refine Ex_aload_n 305 (i := 0) dX9_nextToken_304 rfl rfl rfl ?_
        refine Ex_gI 308 (J m 5) dX9_nextToken_305 fX9_144 (xMs_0 hm) rfl rfl rfl ?_
        rw [j5]
        refine Ex_isub 309 dX9_nextToken_308 rfl ?_
        rw [pk_sub hb]
        refine Ex_iconst 310 (v := 4) dX9_nextToken_309 (by decide) rfl ?_
        refine Ex_icmp_le 313 317 dX9_nextToken_310 (by decide) rfl (fun c4 => ?_) (fun c4 => ?_)
        · refine Ex_iconst 318 (v := 2) dX9_nextToken_317 (by decide) rfl ?_
          refine Ex_pI 321 (J m) (va_up J m (va_up (J m) 6 2)) dX9_nextToken_318 fX9_154 rfl (xMs_0 hm) rfl (fun _ => rfl) rfl rfl rfl rfl ?_
          refine Ex_ret0 dX9_nextToken_321 rfl (Or.inl rfl) ?_
          have hsm := (nI_leI (b := 4) (by omega) (by omega)).mp c4
          have hno : hmDig (T.getD b 0) = false := by
            cases e : hmDig (T.getD b 0) with
            | false => rfl
            | true => exact absurd ((hm_dig tb).mp e).2 (Int32.not_le.mpr c3)
          rw [hmEnd_no (fun _ => hno), hmCut_no (fun _ => hno)] at hQ
          refine hQ _ _ (gJ.up rfl (Or.inr (Or.inr (Or.inl rfl)))) gL (by rw [va_up_self, va_up_ne _ _ (by omega)]; exact j4) (by rw [va_up_self, va_up_ne _ _ (by omega)]; exact j5) (fun q => by rw [va_up_self, va_up_ne _ _ (by omega)]; exact jv q) (by rw [va_up_self, va_up_self, if_pos (by omega)]; rfl)
        · refine Ex_iconst 314 (v := 4) dX9_nextToken_313 (by decide) rfl ?_
          refine Ex_goto 318 dX9_nextToken_314 (by decide) ?_
          refine Ex_pI 321 (J m) (va_up J m (va_up (J m) 6 4)) dX9_nextToken_318 fX9_154 rfl (xMs_0 hm) rfl (fun _ => rfl) rfl rfl rfl rfl ?_
          refine Ex_ret0 dX9_nextToken_321 rfl (Or.inl rfl) ?_
          have hsm : ¬ b - pl ≤ 4 := fun q => c4 ((nI_leI (b := 4) (by omega) (by omega)).mpr q)
          have hno : hmDig (T.getD b 0) = false := by
            cases e : hmDig (T.getD b 0) with
            | false => rfl
            | true => exact absurd ((hm_dig tb).mp e).2 (Int32.not_le.mpr c3)
          rw [hmEnd_no (fun _ => hno), hmCut_no (fun _ => hno)] at hQ
          refine hQ _ _ (gJ.up rfl (Or.inr (Or.inr (Or.inl rfl)))) gL (by rw [va_up_self, va_up_ne _ _ (by omega)]; exact j4) (by rw [va_up_self, va_up_ne _ _ (by omega)]; exact j5) (fun q => by rw [va_up_self, va_up_ne _ _ (by omega)]; exact jv q) (by rw [va_up_self, va_up_self, if_neg (by omega)]; rfl)
      · refine Ex_aload_n 251 (i := 0) dX9_nextToken_250 rfl rfl rfl ?_
        refine Ex_gI 254 (J m 4) dX9_nextToken_251 fX9_141 (xMs_0 hm) rfl rfl rfl ?_
        rw [j4]
        refine Ex_aload_n 255 (i := 0) dX9_nextToken_254 rfl rfl rfl ?_
        refine Ex_gI 258 (J m 5) dX9_nextToken_255 fX9_144 (xMs_0 hm) rfl rfl rfl ?_
        rw [j5]
        refine Ex_isub 259 dX9_nextToken_258 rfl ?_
        rw [pk_sub hb]
        refine Ex_iconst 260 (v := 4) dX9_nextToken_259 (by decide) rfl ?_
        refine Ex_icmp_ge 263 286 dX9_nextToken_260 (by decide) rfl (fun c5 => ?_) (fun c5 => ?_)
        · refine Ex_aload_n 287 (i := 0) dX9_nextToken_286 rfl rfl rfl ?_
          refine Ex_dup 288 dX9_nextToken_287 rfl rfl ?_
          refine Ex_gI 291 (J m 4) dX9_nextToken_288 fX9_141 (xMs_0 hm) rfl rfl rfl ?_
          rw [j4]
          refine Ex_iconst 292 (v := 1) dX9_nextToken_291 (by decide) rfl ?_
          refine Ex_iadd 293 dX9_nextToken_292 rfl ?_
          rw [nI_1]
          refine Ex_pI 296 (J m) (va_up J m (va_up (J m) 4 (nI (b + 1)))) dX9_nextToken_293 fX9_141 rfl (xMs_0 hm) rfl (fun _ => rfl) rfl rfl rfl rfl ?_
          refine Ex_goto 224 dX9_nextToken_296 (by decide) ?_
          have hyes : hmDig (T.getD b 0) = true := (hm_dig tb).mpr ⟨Int32.not_lt.mp c1, Int32.not_lt.mp c3⟩
          have hbl : b < T.length := Nat.lt_of_not_le (fun q => by rw [hm_getD_out q] at hyes; exact absurd hyes (by decide))
          rw [hmEnd_yes hbl hyes, hmCut_yes hbl hyes, List.foldl_cons] at hQ
          have hbg : ¬ b + 1 - pl ≤ 4 := by
            have q := (nI_leI (a := 4) (by omega) (by omega)).mp c5
            omega
          exact ih (b + 1) _ _ _ (by omega) (by omega) (gJ.up rfl (Or.inl rfl)) gL (by rw [va_up_self, va_up_self]) (by rw [va_up_self, va_up_ne _ _ (by omega)]; exact j5) (fun q => absurd q hbg) hQ
        · refine Ex_aload_n 264 (i := 0) dX9_nextToken_263 rfl rfl rfl ?_
          refine Ex_aload_n 265 (i := 0) dX9_nextToken_264 rfl rfl rfl ?_
          refine Ex_gI 268 (J m 8) dX9_nextToken_265 fX9_151 (xMs_0 hm) rfl rfl rfl ?_
          refine Ex_bipush 270 (v := 10) dX9_nextToken_268 (by decide) rfl ?_
          refine Ex_imul 271 dX9_nextToken_270 rfl ?_
          refine Ex_aload_n 272 (i := 0) dX9_nextToken_271 rfl rfl rfl ?_
          refine Ex_aload_n 273 (i := 0) dX9_nextToken_272 rfl rfl rfl ?_
          refine Ex_gI 276 (J m 4) dX9_nextToken_273 fX9_141 (xMs_0 hm) rfl rfl rfl ?_
          rw [j4]
          refine Ex_callV (M' := MX9_signAt) 279 [.int (nI b)] (rest := [.int ((J m 8) * 10), .ref m]) dX9_nextToken_276 lX9_157 mX9_signAt rfl (xMs_0 hm) rfl (Nat.le_of_ble_eq_true rfl) (Nat.le_of_ble_eq_true rfl) rfl ?_
          refine mc_signAt hm hTJ (by omega) ?_
          simp only [Option.toList, List.cons_append, List.nil_append]
          refine Ex_iadd 280 dX9_nextToken_279 rfl ?_
          refine Ex_bipush 282 (v := 48) dX9_nextToken_280 (by decide) rfl ?_
          refine Ex_isub 283 dX9_nextToken_282 rfl ?_
          refine Ex_pI 286 (J m) (va_up J m (va_up (J m) 8 ((((J m 8) * 10) + (nI (T.getD b 0))) - 48))) dX9_nextToken_283 fX9_151 rfl (xMs_0 hm) rfl (fun _ => rfl) rfl rfl rfl rfl ?_
          refine Ex_aload_n 287 (i := 0) dX9_nextToken_286 rfl rfl rfl ?_
          refine Ex_dup 288 dX9_nextToken_287 rfl rfl ?_
          refine Ex_gI 291 (J m 4) dX9_nextToken_288 fX9_141 (xMs_0 hm) rfl (congrFun (va_up_self _ _ _) _) rfl ?_
          rw [j4]
          refine Ex_iconst 292 (v := 1) dX9_nextToken_291 (by decide) rfl ?_
          refine Ex_iadd 293 dX9_nextToken_292 rfl ?_
          rw [nI_1]
          refine Ex_pI 296 (va_up (J m) 8 ((((J m 8) * 10) + (nI (T.getD b 0))) - 48)) (va_up J m (va_up (va_up (J m) 8 ((((J m 8) * 10) + (nI (T.getD b 0))) - 48)) 4 (nI (b + 1)))) dX9_nextToken_293 fX9_141 rfl (xMs_0 hm) rfl (fun _ => rfl) (va_up_self _ _ _) rfl (va_up_up _ _ _ _) rfl ?_
          refine Ex_goto 224 dX9_nextToken_296 (by decide) ?_
          have hyes : hmDig (T.getD b 0) = true := (hm_dig tb).mpr ⟨Int32.not_lt.mp c1, Int32.not_lt.mp c3⟩
          have hbl : b < T.length := Nat.lt_of_not_le (fun q => by rw [hm_getD_out q] at hyes; exact absurd hyes (by decide))
          rw [hmEnd_yes hbl hyes, hmCut_yes hbl hyes, List.foldl_cons] at hQ
          have gi : hmNf m I (va_up J m (va_up (va_up (J m) 8 ((((J m 8) * 10) + (nI (T.getD b 0))) - 48)) 4 (nI (b + 1)))) := by
            rw [← va_up_up J m (va_up (J m) 8 ((((J m 8) * 10) + (nI (T.getD b 0))) - 48))]
            exact (gJ.up rfl (Or.inr (Or.inr (Or.inr rfl)))).up (va_up_self _ _ _) (Or.inl rfl)
          exact ih (b + 1) _ _ _ (by omega) (by omega) gi gL (by rw [va_up_self, va_up_self]) (by rw [va_up_self, va_up_ne _ _ (by omega), va_up_ne _ _ (by omega)]; exact j5) (fun _ => (congrFun (va_up_self _ _ _) _).trans ((va_up_ne _ _ (by omega)).trans ((va_up_self _ _ _).trans (by rw [jv (by omega)])))) hQ
theorem hmLx_pl {T : List Nat} {p : Nat} : (hmLx T p).1.2.2 = hmEnd hmSpc T p ∧ ((hmLx T p).1.1 = 4 → (hmLx T p).1.2.2 < T.length ∧ (hmLx T p).1.2.1 = [T.getD (hmLx T p).1.2.2 0]) := by
  unfold hmLx
  split
  · rename_i c1
    split
    · refine ⟨rfl, fun q => ?_⟩
      by_cases c : (hmCut hmLet T (hmEnd hmSpc T p)).length ≤ 8
      · simp only [if_pos c] at q
        exact absurd q (by decide)
      · simp only [if_neg c] at q
        exact absurd q (by decide)
    · split
      · refine ⟨rfl, fun q => ?_⟩
        by_cases c : (hmCut hmDig T (hmEnd hmSpc T p)).length ≤ 4
        · simp only [if_pos c] at q
          exact absurd q (by decide)
        · simp only [if_neg c] at q
          exact absurd q (by decide)
      · exact ⟨rfl, fun _ => ⟨c1, rfl⟩⟩
  · exact ⟨rfl, fun q => absurd (show (0 : Nat) = 4 from q) (by decide)⟩
theorem hmAm_mk {I : xI} {L : xL} {m : Nat} {T : List Nat} {t : hmTok} {r : List hmTok} {p : Nat} (h : hmTsR T (t :: r) p) (hT : hmTz I m T) (e5 : I m 5 = nI (hmLx T p).1.2.2) (e6 : I m 6 = nI (hmTcd (hmLx T p).1.1)) (ew : (hmLx T p).1.1 = 2 → L m 7 = hmE27 (hmLx T p).1.2.1) (en : (hmLx T p).1.1 = 3 → I m 8 = nI (hmDec (hmLx T p).1.2.1)) (e4 : I m 4 = nI (hmLx T p).2) : hmAm I L m T t r := by
  have e := h.2.1
  have h1000 := hT.1
  have hp := hmLx_pl (T := T) (p := p)
  have hq := (hmEnd_le (f := hmSpc) (T := T) (p := p) h.1).2
  refine ⟨hT, by rw [e5, e], by rw [e6, e], fun q => by rw [← e] at q ⊢; exact ew q, fun q => by rw [← e] at q ⊢; exact en q, fun q => by rw [← e] at q ⊢; exact hp.2 q, fun q => hmTsR_last h q, fun q => ⟨_, e4, hmTsR_next h q⟩, hmTsR_hd h, ?_⟩
  rw [← e, hp.1]
  omega
theorem hm_dec32 : ∀ (l : List Nat) (v : Nat), (∀ c, c ∈ l → 48 ≤ c ∧ c ≤ 57) → l.foldl (fun (v : Int32) (c : Nat) => v * 10 + nI c - 48) (nI v) = nI (l.foldl (fun v c => v * 10 + (c - 48)) v) := by
  intro l
  induction l with
  | nil => intro v _; rfl
  | cons c l ih =>
    intro v h
    have hc := h c List.mem_cons_self
    rw [List.foldl_cons, List.foldl_cons, ← ih _ (fun x hx => h x (List.mem_cons_of_mem _ hx))]
    congr 1
    rw [show (10 : Int32) = nI 10 from rfl, pk_mul, hm_addN, show (48 : Int32) = nI 48 from rfl, pk_sub (by omega), show v * 10 + c - 48 = v * 10 + (c - 48) by omega]
theorem hm_sg8_ref : ∀ c, c < 127 → (hmSg8 c = true ↔ (¬ nI c < 40 ∧ nI c ≤ 43) ∨ nI c = 45 ∨ (¬ nI c < 59 ∧ ¬ 61 < nI c)) := by decide +kernel
set_option maxHeartbeats 4000000 in
theorem mc_nextToken {d : Nat} {sh : xSh} {R : xR} {L : xL} {I : xI} {Q : xQ} {m : Nat} {T : List Nat} (hm : xModel sh R m) (hT : hmTz I m T) (hc : ∀ x, x ∈ T → x < 127) {t : hmTok} {r : List hmTok} {p : Nat} (j4 : I m 4 = nI p) (hts : hmTsR T (t :: r) p) (hQ : ∀ I' L', hmNf m I I' → hmNl m L L' → hmAm I' L' m T t r → Q none 0 sh R L' I') : Ex (d + 1) 0 0 MX9_nextToken 0 sh R L I 0 [some (.ref m), none] [] Q := by
  have h1000 := hT.1
  have hsk := hmEnd_le (f := hmSpc) hts.1
  refine mc_next_skip hm hT hc (p := p) (fun J gJ j4 => ?_) (T.length - p) p I (by have := hts.1; omega) hmNf.rf j4 rfl
  have hTJ := hT.nf gJ
  have jl : J m 3 = nI T.length := hTJ.2.1
  refine Ex_aload_n 53 (i := 0) dX9_nextToken_52 rfl rfl rfl ?_
  refine Ex_aload_n 54 (i := 0) dX9_nextToken_53 rfl rfl rfl ?_
  refine Ex_gI 57 (J m 4) dX9_nextToken_54 fX9_141 (xMs_0 hm) rfl rfl rfl ?_
  rw [j4]
  refine Ex_pI 60 (J m) (va_up J m (va_up (J m) 5 (nI (hmEnd hmSpc T p)))) dX9_nextToken_57 fX9_144 rfl (xMs_0 hm) rfl (fun _ => rfl) rfl rfl rfl rfl ?_
  refine Ex_aload_n 61 (i := 0) dX9_nextToken_60 rfl rfl rfl ?_
  refine Ex_lconst 62 (v := 0) dX9_nextToken_61 rfl rfl ?_
  refine Ex_pL 65 (L m) (va_up L m (va_up (L m) 7 0)) dX9_nextToken_62 fX9_147 rfl (xMs_0 hm) rfl rfl rfl ?_
  refine Ex_aload_n 66 (i := 0) dX9_nextToken_65 rfl rfl rfl ?_
  refine Ex_iconst 67 (v := 0) dX9_nextToken_66 (by decide) rfl ?_
  refine Ex_pI 70 (va_up (J m) 5 (nI (hmEnd hmSpc T p))) (va_up J m (va_up (va_up (J m) 5 (nI (hmEnd hmSpc T p))) 8 0)) dX9_nextToken_67 fX9_151 rfl (xMs_0 hm) rfl (fun _ => rfl) (va_up_self _ _ _) rfl (va_up_up _ _ _ _) rfl ?_
  have gB : hmNf m I (va_up J m (va_up (va_up (J m) 5 (nI (hmEnd hmSpc T p))) 8 0)) := by
    rw [← va_up_up J m (va_up (J m) 5 (nI (hmEnd hmSpc T p)))]
    exact (gJ.up rfl (Or.inr (Or.inl rfl))).up (va_up_self _ _ _) (Or.inr (Or.inr (Or.inr rfl)))
  refine Ex_aload_n 71 (i := 0) dX9_nextToken_70 rfl rfl rfl ?_
  refine Ex_gI 74 (J m 4) dX9_nextToken_71 fX9_141 (xMs_0 hm) rfl (congrFun (va_up_self _ _ _) _) rfl ?_
  rw [j4]
  refine Ex_aload_n 75 (i := 0) dX9_nextToken_74 rfl rfl rfl ?_
  refine Ex_gI 78 (J m 3) dX9_nextToken_75 fX9_138 (xMs_0 hm) rfl (congrFun (va_up_self _ _ _) _) rfl ?_
  rw [jl]
  refine Ex_icmp_ne 81 87 dX9_nextToken_78 (by decide) rfl (fun c1 => ?_) (fun c1 => ?_)
  · have hlt : (hmEnd hmSpc T p) < T.length := by
      have q : ¬ (hmEnd hmSpc T p) = T.length := fun q => c1 (by rw [q])
      omega
    have tb := hm_T_lt hc (hmEnd hmSpc T p)
    have tc := hTJ.2.2 (hmEnd hmSpc T p) hlt
    refine Ex_aload_n 88 (i := 0) dX9_nextToken_87 rfl rfl rfl ?_
    refine Ex_getR 91 dX9_nextToken_88 fX9_7 (xMs_0 hm) rfl (xMr_2 hm) rfl ?_
    refine Ex_aload_n 92 (i := 0) dX9_nextToken_91 rfl rfl rfl ?_
    refine Ex_gI 95 (J m 4) dX9_nextToken_92 fX9_141 (xMs_0 hm) rfl (congrFun (va_up_self _ _ _) _) rfl ?_
    rw [j4]
    refine Ex_aI 96 (hmEnd hmSpc T p) (J (m + 1) (hmEnd hmSpc T p)) dX9_nextToken_95 (xMs_1 hm) rfl (by omega) (by decide) (congrFun (va_up_ne _ _ (by omega)) _) rfl ?_
    rw [tc]
    refine Ex_istore_n 97 (i := 1) (ls' := [some (.ref m), some (.int (nI (T.getD (hmEnd hmSpc T p) 0)))]) dX9_nextToken_96 rfl (Nat.le_of_ble_eq_true rfl) rfl rfl rfl ?_
    refine Ex_iload_n 98 (i := 1) dX9_nextToken_97 rfl rfl rfl ?_
    refine Ex_bipush 100 (v := 97) dX9_nextToken_98 (by decide) rfl ?_
    refine Ex_icmp_lt 103 212 dX9_nextToken_100 (by decide) rfl (fun c2 => ?_) (fun c2 => ?_)
    · refine Ex_iload_n 213 (i := 1) dX9_nextToken_212 rfl rfl rfl ?_
      refine Ex_bipush 215 (v := 48) dX9_nextToken_213 (by decide) rfl ?_
      refine Ex_icmp_lt 218 322 dX9_nextToken_215 (by decide) rfl (fun c3 => ?_) (fun c3 => ?_)
      · refine Ex_aload_n 323 (i := 0) dX9_nextToken_322 rfl rfl rfl ?_
        refine Ex_dup 324 dX9_nextToken_323 rfl rfl ?_
        refine Ex_gI 327 (J m 4) dX9_nextToken_324 fX9_141 (xMs_0 hm) rfl (congrFun (va_up_self _ _ _) _) rfl ?_
        rw [j4]
        refine Ex_iconst 328 (v := 1) dX9_nextToken_327 (by decide) rfl ?_
        refine Ex_iadd 329 dX9_nextToken_328 rfl ?_
        rw [nI_1]
        refine Ex_pI 332 (va_up (va_up (J m) 5 (nI (hmEnd hmSpc T p))) 8 0) (va_up J m (va_up (va_up (va_up (J m) 5 (nI (hmEnd hmSpc T p))) 8 0) 4 (nI ((hmEnd hmSpc T p) + 1)))) dX9_nextToken_329 fX9_141 rfl (xMs_0 hm) rfl (fun _ => rfl) (va_up_self _ _ _) rfl (va_up_up _ _ _ _) rfl ?_
        refine Ex_aload_n 333 (i := 0) dX9_nextToken_332 rfl rfl rfl ?_
        refine Ex_iload_n 334 (i := 1) dX9_nextToken_333 rfl rfl rfl ?_
        refine Ex_bipush 336 (v := 40) dX9_nextToken_334 (by decide) rfl ?_
        refine Ex_icmp_lt 339 345 dX9_nextToken_336 (by decide) rfl (fun c4 => ?_) (fun c4 => ?_)
        · refine Ex_iload_n 346 (i := 1) dX9_nextToken_345 rfl rfl rfl ?_
          refine Ex_bipush 348 (v := 45) dX9_nextToken_346 (by decide) rfl ?_
          refine Ex_icmp_eq 351 363 dX9_nextToken_348 (by decide) rfl (fun c5 => ?_) (fun c5 => ?_)
          · refine Ex_iconst 364 (v := 3) dX9_nextToken_363 (by decide) rfl ?_
            refine Ex_goto 368 dX9_nextToken_364 (by decide) ?_
            refine Ex_pI 371 (va_up (va_up (va_up (J m) 5 (nI (hmEnd hmSpc T p))) 8 0) 4 (nI ((hmEnd hmSpc T p) + 1))) (va_up J m (va_up (va_up (va_up (va_up (J m) 5 (nI (hmEnd hmSpc T p))) 8 0) 4 (nI ((hmEnd hmSpc T p) + 1))) 6 3)) dX9_nextToken_368 fX9_154 rfl (xMs_0 hm) rfl (fun _ => rfl) (va_up_self _ _ _) rfl (va_up_up _ _ _ _) rfl ?_
            refine Ex_ret0 dX9_nextToken_371 rfl (Or.inl rfl) ?_
            have nlet : hmLet (T.getD (hmEnd hmSpc T p) 0) = false := by
              cases e : hmLet (T.getD (hmEnd hmSpc T p) 0) with
              | false => rfl
              | true => exact absurd ((hm_let tb).mp e).1 (Int32.not_le.mpr c2)
            have ndig : hmDig (T.getD (hmEnd hmSpc T p) 0) = false := by
              cases e : hmDig (T.getD (hmEnd hmSpc T p) 0) with
              | false => rfl
              | true => exact absurd ((hm_dig tb).mp e).1 (Int32.not_le.mpr c3)
            have hx := hmLx_sgn hlt nlet ndig
            have gE : hmNf m I (va_up J m (va_up (va_up (va_up (va_up (J m) 5 (nI (hmEnd hmSpc T p))) 8 0) 4 (nI ((hmEnd hmSpc T p) + 1))) 6 3)) := by
              rw [← va_up_up J m (va_up (va_up (va_up (J m) 5 (nI (hmEnd hmSpc T p))) 8 0) 4 (nI ((hmEnd hmSpc T p) + 1)))]
              refine hmNf.up ?_ (va_up_self _ _ _) (Or.inr (Or.inr (Or.inl rfl)))
              rw [← va_up_up J m (va_up (va_up (J m) 5 (nI (hmEnd hmSpc T p))) 8 0)]
              exact gB.up (va_up_self _ _ _) (Or.inl rfl)
            have hs8 : hmSg8 (T.getD (hmEnd hmSpc T p) 0) = true := (hm_sg8_ref _ tb).mpr (Or.inr (Or.inl c5))
            refine hQ _ _ gE (hmNl.rf.up rfl) (hmAm_mk hts (hT.nf gE) ?_ ?_ (fun q => ?_) (fun q => ?_) ?_)
            · rw [hx, va_up_self, va_up_ne _ _ (by omega), va_up_ne _ _ (by omega), va_up_ne _ _ (by omega), va_up_self]
            · rw [hx, va_up_self, va_up_self]
              show _ = nI (hmTcd (if hmSg8 (T.getD (hmEnd hmSpc T p) 0) = true then 4 else 1))
              rw [if_pos hs8]
              rfl
            · rw [hx] at q
              simp only [if_pos hs8] at q
              exact absurd q (by decide)
            · rw [hx] at q
              simp only [if_pos hs8] at q
              exact absurd q (by decide)
            · rw [hx, va_up_self, va_up_ne _ _ (by omega), va_up_self]
          · refine Ex_iload_n 352 (i := 1) dX9_nextToken_351 rfl rfl rfl ?_
            refine Ex_bipush 354 (v := 59) dX9_nextToken_352 (by decide) rfl ?_
            refine Ex_icmp_lt 357 367 dX9_nextToken_354 (by decide) rfl (fun c6 => ?_) (fun c6 => ?_)
            · refine Ex_iconst 368 (v := 4) dX9_nextToken_367 (by decide) rfl ?_
              refine Ex_pI 371 (va_up (va_up (va_up (J m) 5 (nI (hmEnd hmSpc T p))) 8 0) 4 (nI ((hmEnd hmSpc T p) + 1))) (va_up J m (va_up (va_up (va_up (va_up (J m) 5 (nI (hmEnd hmSpc T p))) 8 0) 4 (nI ((hmEnd hmSpc T p) + 1))) 6 4)) dX9_nextToken_368 fX9_154 rfl (xMs_0 hm) rfl (fun _ => rfl) (va_up_self _ _ _) rfl (va_up_up _ _ _ _) rfl ?_
              refine Ex_ret0 dX9_nextToken_371 rfl (Or.inl rfl) ?_
              have nlet : hmLet (T.getD (hmEnd hmSpc T p) 0) = false := by
                cases e : hmLet (T.getD (hmEnd hmSpc T p) 0) with
                | false => rfl
                | true => exact absurd ((hm_let tb).mp e).1 (Int32.not_le.mpr c2)
              have ndig : hmDig (T.getD (hmEnd hmSpc T p) 0) = false := by
                cases e : hmDig (T.getD (hmEnd hmSpc T p) 0) with
                | false => rfl
                | true => exact absurd ((hm_dig tb).mp e).1 (Int32.not_le.mpr c3)
              have hx := hmLx_sgn hlt nlet ndig
              have gE : hmNf m I (va_up J m (va_up (va_up (va_up (va_up (J m) 5 (nI (hmEnd hmSpc T p))) 8 0) 4 (nI ((hmEnd hmSpc T p) + 1))) 6 4)) := by
                rw [← va_up_up J m (va_up (va_up (va_up (J m) 5 (nI (hmEnd hmSpc T p))) 8 0) 4 (nI ((hmEnd hmSpc T p) + 1)))]
                refine hmNf.up ?_ (va_up_self _ _ _) (Or.inr (Or.inr (Or.inl rfl)))
                rw [← va_up_up J m (va_up (va_up (J m) 5 (nI (hmEnd hmSpc T p))) 8 0)]
                exact gB.up (va_up_self _ _ _) (Or.inl rfl)
              have hs8 : ¬ hmSg8 (T.getD (hmEnd hmSpc T p) 0) = true := fun q => by
                rcases (hm_sg8_ref _ tb).mp q with z | z | z
                · exact (fun z => z.1 c4) z
                · exact c5 z
                · exact (fun z => z.1 c6) z
              refine hQ _ _ gE (hmNl.rf.up rfl) (hmAm_mk hts (hT.nf gE) ?_ ?_ (fun q => ?_) (fun q => ?_) ?_)
              · rw [hx, va_up_self, va_up_ne _ _ (by omega), va_up_ne _ _ (by omega), va_up_ne _ _ (by omega), va_up_self]
              · rw [hx, va_up_self, va_up_self]
                show _ = nI (hmTcd (if hmSg8 (T.getD (hmEnd hmSpc T p) 0) = true then 4 else 1))
                rw [if_neg hs8]
                rfl
              · rw [hx] at q
                simp only [if_neg hs8] at q
                exact absurd q (by decide)
              · rw [hx] at q
                simp only [if_neg hs8] at q
                exact absurd q (by decide)
              · rw [hx, va_up_self, va_up_ne _ _ (by omega), va_up_self]
            · refine Ex_iload_n 358 (i := 1) dX9_nextToken_357 rfl rfl rfl ?_
              refine Ex_bipush 360 (v := 61) dX9_nextToken_358 (by decide) rfl ?_
              refine Ex_icmp_gt 363 367 dX9_nextToken_360 (by decide) rfl (fun c7 => ?_) (fun c7 => ?_)
              · refine Ex_iconst 368 (v := 4) dX9_nextToken_367 (by decide) rfl ?_
                refine Ex_pI 371 (va_up (va_up (va_up (J m) 5 (nI (hmEnd hmSpc T p))) 8 0) 4 (nI ((hmEnd hmSpc T p) + 1))) (va_up J m (va_up (va_up (va_up (va_up (J m) 5 (nI (hmEnd hmSpc T p))) 8 0) 4 (nI ((hmEnd hmSpc T p) + 1))) 6 4)) dX9_nextToken_368 fX9_154 rfl (xMs_0 hm) rfl (fun _ => rfl) (va_up_self _ _ _) rfl (va_up_up _ _ _ _) rfl ?_
                refine Ex_ret0 dX9_nextToken_371 rfl (Or.inl rfl) ?_
                have nlet : hmLet (T.getD (hmEnd hmSpc T p) 0) = false := by
                  cases e : hmLet (T.getD (hmEnd hmSpc T p) 0) with
                  | false => rfl
                  | true => exact absurd ((hm_let tb).mp e).1 (Int32.not_le.mpr c2)
                have ndig : hmDig (T.getD (hmEnd hmSpc T p) 0) = false := by
                  cases e : hmDig (T.getD (hmEnd hmSpc T p) 0) with
                  | false => rfl
                  | true => exact absurd ((hm_dig tb).mp e).1 (Int32.not_le.mpr c3)
                have hx := hmLx_sgn hlt nlet ndig
                have gE : hmNf m I (va_up J m (va_up (va_up (va_up (va_up (J m) 5 (nI (hmEnd hmSpc T p))) 8 0) 4 (nI ((hmEnd hmSpc T p) + 1))) 6 4)) := by
                  rw [← va_up_up J m (va_up (va_up (va_up (J m) 5 (nI (hmEnd hmSpc T p))) 8 0) 4 (nI ((hmEnd hmSpc T p) + 1)))]
                  refine hmNf.up ?_ (va_up_self _ _ _) (Or.inr (Or.inr (Or.inl rfl)))
                  rw [← va_up_up J m (va_up (va_up (J m) 5 (nI (hmEnd hmSpc T p))) 8 0)]
                  exact gB.up (va_up_self _ _ _) (Or.inl rfl)
                have hs8 : ¬ hmSg8 (T.getD (hmEnd hmSpc T p) 0) = true := fun q => by
                  rcases (hm_sg8_ref _ tb).mp q with z | z | z
                  · exact (fun z => z.1 c4) z
                  · exact c5 z
                  · exact (fun z => z.2 c7) z
                refine hQ _ _ gE (hmNl.rf.up rfl) (hmAm_mk hts (hT.nf gE) ?_ ?_ (fun q => ?_) (fun q => ?_) ?_)
                · rw [hx, va_up_self, va_up_ne _ _ (by omega), va_up_ne _ _ (by omega), va_up_ne _ _ (by omega), va_up_self]
                · rw [hx, va_up_self, va_up_self]
                  show _ = nI (hmTcd (if hmSg8 (T.getD (hmEnd hmSpc T p) 0) = true then 4 else 1))
                  rw [if_neg hs8]
                  rfl
                · rw [hx] at q
                  simp only [if_neg hs8] at q
                  exact absurd q (by decide)
                · rw [hx] at q
                  simp only [if_neg hs8] at q
                  exact absurd q (by decide)
                · rw [hx, va_up_self, va_up_ne _ _ (by omega), va_up_self]
              · refine Ex_iconst 364 (v := 3) dX9_nextToken_363 (by decide) rfl ?_
                refine Ex_goto 368 dX9_nextToken_364 (by decide) ?_
                refine Ex_pI 371 (va_up (va_up (va_up (J m) 5 (nI (hmEnd hmSpc T p))) 8 0) 4 (nI ((hmEnd hmSpc T p) + 1))) (va_up J m (va_up (va_up (va_up (va_up (J m) 5 (nI (hmEnd hmSpc T p))) 8 0) 4 (nI ((hmEnd hmSpc T p) + 1))) 6 3)) dX9_nextToken_368 fX9_154 rfl (xMs_0 hm) rfl (fun _ => rfl) (va_up_self _ _ _) rfl (va_up_up _ _ _ _) rfl ?_
                refine Ex_ret0 dX9_nextToken_371 rfl (Or.inl rfl) ?_
                have nlet : hmLet (T.getD (hmEnd hmSpc T p) 0) = false := by
                  cases e : hmLet (T.getD (hmEnd hmSpc T p) 0) with
                  | false => rfl
                  | true => exact absurd ((hm_let tb).mp e).1 (Int32.not_le.mpr c2)
                have ndig : hmDig (T.getD (hmEnd hmSpc T p) 0) = false := by
                  cases e : hmDig (T.getD (hmEnd hmSpc T p) 0) with
                  | false => rfl
                  | true => exact absurd ((hm_dig tb).mp e).1 (Int32.not_le.mpr c3)
                have hx := hmLx_sgn hlt nlet ndig
                have gE : hmNf m I (va_up J m (va_up (va_up (va_up (va_up (J m) 5 (nI (hmEnd hmSpc T p))) 8 0) 4 (nI ((hmEnd hmSpc T p) + 1))) 6 3)) := by
                  rw [← va_up_up J m (va_up (va_up (va_up (J m) 5 (nI (hmEnd hmSpc T p))) 8 0) 4 (nI ((hmEnd hmSpc T p) + 1)))]
                  refine hmNf.up ?_ (va_up_self _ _ _) (Or.inr (Or.inr (Or.inl rfl)))
                  rw [← va_up_up J m (va_up (va_up (J m) 5 (nI (hmEnd hmSpc T p))) 8 0)]
                  exact gB.up (va_up_self _ _ _) (Or.inl rfl)
                have hs8 : hmSg8 (T.getD (hmEnd hmSpc T p) 0) = true := (hm_sg8_ref _ tb).mpr (Or.inr (Or.inr ⟨c6, c7⟩))
                refine hQ _ _ gE (hmNl.rf.up rfl) (hmAm_mk hts (hT.nf gE) ?_ ?_ (fun q => ?_) (fun q => ?_) ?_)
                · rw [hx, va_up_self, va_up_ne _ _ (by omega), va_up_ne _ _ (by omega), va_up_ne _ _ (by omega), va_up_self]
                · rw [hx, va_up_self, va_up_self]
                  show _ = nI (hmTcd (if hmSg8 (T.getD (hmEnd hmSpc T p) 0) = true then 4 else 1))
                  rw [if_pos hs8]
                  rfl
                · rw [hx] at q
                  simp only [if_pos hs8] at q
                  exact absurd q (by decide)
                · rw [hx] at q
                  simp only [if_pos hs8] at q
                  exact absurd q (by decide)
                · rw [hx, va_up_self, va_up_ne _ _ (by omega), va_up_self]
        · refine Ex_iload_n 340 (i := 1) dX9_nextToken_339 rfl rfl rfl ?_
          refine Ex_bipush 342 (v := 43) dX9_nextToken_340 (by decide) rfl ?_
          refine Ex_icmp_le 345 363 dX9_nextToken_342 (by decide) rfl (fun c8 => ?_) (fun c8 => ?_)
          · refine Ex_iconst 364 (v := 3) dX9_nextToken_363 (by decide) rfl ?_
            refine Ex_goto 368 dX9_nextToken_364 (by decide) ?_
            refine Ex_pI 371 (va_up (va_up (va_up (J m) 5 (nI (hmEnd hmSpc T p))) 8 0) 4 (nI ((hmEnd hmSpc T p) + 1))) (va_up J m (va_up (va_up (va_up (va_up (J m) 5 (nI (hmEnd hmSpc T p))) 8 0) 4 (nI ((hmEnd hmSpc T p) + 1))) 6 3)) dX9_nextToken_368 fX9_154 rfl (xMs_0 hm) rfl (fun _ => rfl) (va_up_self _ _ _) rfl (va_up_up _ _ _ _) rfl ?_
            refine Ex_ret0 dX9_nextToken_371 rfl (Or.inl rfl) ?_
            have nlet : hmLet (T.getD (hmEnd hmSpc T p) 0) = false := by
              cases e : hmLet (T.getD (hmEnd hmSpc T p) 0) with
              | false => rfl
              | true => exact absurd ((hm_let tb).mp e).1 (Int32.not_le.mpr c2)
            have ndig : hmDig (T.getD (hmEnd hmSpc T p) 0) = false := by
              cases e : hmDig (T.getD (hmEnd hmSpc T p) 0) with
              | false => rfl
              | true => exact absurd ((hm_dig tb).mp e).1 (Int32.not_le.mpr c3)
            have hx := hmLx_sgn hlt nlet ndig
            have gE : hmNf m I (va_up J m (va_up (va_up (va_up (va_up (J m) 5 (nI (hmEnd hmSpc T p))) 8 0) 4 (nI ((hmEnd hmSpc T p) + 1))) 6 3)) := by
              rw [← va_up_up J m (va_up (va_up (va_up (J m) 5 (nI (hmEnd hmSpc T p))) 8 0) 4 (nI ((hmEnd hmSpc T p) + 1)))]
              refine hmNf.up ?_ (va_up_self _ _ _) (Or.inr (Or.inr (Or.inl rfl)))
              rw [← va_up_up J m (va_up (va_up (J m) 5 (nI (hmEnd hmSpc T p))) 8 0)]
              exact gB.up (va_up_self _ _ _) (Or.inl rfl)
            have hs8 : hmSg8 (T.getD (hmEnd hmSpc T p) 0) = true := (hm_sg8_ref _ tb).mpr (Or.inl ⟨c4, c8⟩)
            refine hQ _ _ gE (hmNl.rf.up rfl) (hmAm_mk hts (hT.nf gE) ?_ ?_ (fun q => ?_) (fun q => ?_) ?_)
            · rw [hx, va_up_self, va_up_ne _ _ (by omega), va_up_ne _ _ (by omega), va_up_ne _ _ (by omega), va_up_self]
            · rw [hx, va_up_self, va_up_self]
              show _ = nI (hmTcd (if hmSg8 (T.getD (hmEnd hmSpc T p) 0) = true then 4 else 1))
              rw [if_pos hs8]
              rfl
            · rw [hx] at q
              simp only [if_pos hs8] at q
              exact absurd q (by decide)
            · rw [hx] at q
              simp only [if_pos hs8] at q
              exact absurd q (by decide)
            · rw [hx, va_up_self, va_up_ne _ _ (by omega), va_up_self]
          · refine Ex_iload_n 346 (i := 1) dX9_nextToken_345 rfl rfl rfl ?_
            refine Ex_bipush 348 (v := 45) dX9_nextToken_346 (by decide) rfl ?_
            refine Ex_icmp_eq 351 363 dX9_nextToken_348 (by decide) rfl (fun c9 => ?_) (fun c9 => ?_)
            · refine Ex_iconst 364 (v := 3) dX9_nextToken_363 (by decide) rfl ?_
              refine Ex_goto 368 dX9_nextToken_364 (by decide) ?_
              refine Ex_pI 371 (va_up (va_up (va_up (J m) 5 (nI (hmEnd hmSpc T p))) 8 0) 4 (nI ((hmEnd hmSpc T p) + 1))) (va_up J m (va_up (va_up (va_up (va_up (J m) 5 (nI (hmEnd hmSpc T p))) 8 0) 4 (nI ((hmEnd hmSpc T p) + 1))) 6 3)) dX9_nextToken_368 fX9_154 rfl (xMs_0 hm) rfl (fun _ => rfl) (va_up_self _ _ _) rfl (va_up_up _ _ _ _) rfl ?_
              refine Ex_ret0 dX9_nextToken_371 rfl (Or.inl rfl) ?_
              have nlet : hmLet (T.getD (hmEnd hmSpc T p) 0) = false := by
                cases e : hmLet (T.getD (hmEnd hmSpc T p) 0) with
                | false => rfl
                | true => exact absurd ((hm_let tb).mp e).1 (Int32.not_le.mpr c2)
              have ndig : hmDig (T.getD (hmEnd hmSpc T p) 0) = false := by
                cases e : hmDig (T.getD (hmEnd hmSpc T p) 0) with
                | false => rfl
                | true => exact absurd ((hm_dig tb).mp e).1 (Int32.not_le.mpr c3)
              have hx := hmLx_sgn hlt nlet ndig
              have gE : hmNf m I (va_up J m (va_up (va_up (va_up (va_up (J m) 5 (nI (hmEnd hmSpc T p))) 8 0) 4 (nI ((hmEnd hmSpc T p) + 1))) 6 3)) := by
                rw [← va_up_up J m (va_up (va_up (va_up (J m) 5 (nI (hmEnd hmSpc T p))) 8 0) 4 (nI ((hmEnd hmSpc T p) + 1)))]
                refine hmNf.up ?_ (va_up_self _ _ _) (Or.inr (Or.inr (Or.inl rfl)))
                rw [← va_up_up J m (va_up (va_up (J m) 5 (nI (hmEnd hmSpc T p))) 8 0)]
                exact gB.up (va_up_self _ _ _) (Or.inl rfl)
              have hs8 : hmSg8 (T.getD (hmEnd hmSpc T p) 0) = true := (hm_sg8_ref _ tb).mpr (Or.inr (Or.inl c9))
              refine hQ _ _ gE (hmNl.rf.up rfl) (hmAm_mk hts (hT.nf gE) ?_ ?_ (fun q => ?_) (fun q => ?_) ?_)
              · rw [hx, va_up_self, va_up_ne _ _ (by omega), va_up_ne _ _ (by omega), va_up_ne _ _ (by omega), va_up_self]
              · rw [hx, va_up_self, va_up_self]
                show _ = nI (hmTcd (if hmSg8 (T.getD (hmEnd hmSpc T p) 0) = true then 4 else 1))
                rw [if_pos hs8]
                rfl
              · rw [hx] at q
                simp only [if_pos hs8] at q
                exact absurd q (by decide)
              · rw [hx] at q
                simp only [if_pos hs8] at q
                exact absurd q (by decide)
              · rw [hx, va_up_self, va_up_ne _ _ (by omega), va_up_self]
            · refine Ex_iload_n 352 (i := 1) dX9_nextToken_351 rfl rfl rfl ?_
              refine Ex_bipush 354 (v := 59) dX9_nextToken_352 (by decide) rfl ?_
              refine Ex_icmp_lt 357 367 dX9_nextToken_354 (by decide) rfl (fun c10 => ?_) (fun c10 => ?_)
              · refine Ex_iconst 368 (v := 4) dX9_nextToken_367 (by decide) rfl ?_
                refine Ex_pI 371 (va_up (va_up (va_up (J m) 5 (nI (hmEnd hmSpc T p))) 8 0) 4 (nI ((hmEnd hmSpc T p) + 1))) (va_up J m (va_up (va_up (va_up (va_up (J m) 5 (nI (hmEnd hmSpc T p))) 8 0) 4 (nI ((hmEnd hmSpc T p) + 1))) 6 4)) dX9_nextToken_368 fX9_154 rfl (xMs_0 hm) rfl (fun _ => rfl) (va_up_self _ _ _) rfl (va_up_up _ _ _ _) rfl ?_
                refine Ex_ret0 dX9_nextToken_371 rfl (Or.inl rfl) ?_
                have nlet : hmLet (T.getD (hmEnd hmSpc T p) 0) = false := by
                  cases e : hmLet (T.getD (hmEnd hmSpc T p) 0) with
                  | false => rfl
                  | true => exact absurd ((hm_let tb).mp e).1 (Int32.not_le.mpr c2)
                have ndig : hmDig (T.getD (hmEnd hmSpc T p) 0) = false := by
                  cases e : hmDig (T.getD (hmEnd hmSpc T p) 0) with
                  | false => rfl
                  | true => exact absurd ((hm_dig tb).mp e).1 (Int32.not_le.mpr c3)
                have hx := hmLx_sgn hlt nlet ndig
                have gE : hmNf m I (va_up J m (va_up (va_up (va_up (va_up (J m) 5 (nI (hmEnd hmSpc T p))) 8 0) 4 (nI ((hmEnd hmSpc T p) + 1))) 6 4)) := by
                  rw [← va_up_up J m (va_up (va_up (va_up (J m) 5 (nI (hmEnd hmSpc T p))) 8 0) 4 (nI ((hmEnd hmSpc T p) + 1)))]
                  refine hmNf.up ?_ (va_up_self _ _ _) (Or.inr (Or.inr (Or.inl rfl)))
                  rw [← va_up_up J m (va_up (va_up (J m) 5 (nI (hmEnd hmSpc T p))) 8 0)]
                  exact gB.up (va_up_self _ _ _) (Or.inl rfl)
                have hs8 : ¬ hmSg8 (T.getD (hmEnd hmSpc T p) 0) = true := fun q => by
                  rcases (hm_sg8_ref _ tb).mp q with z | z | z
                  · exact (fun z => c8 z.2) z
                  · exact c9 z
                  · exact (fun z => z.1 c10) z
                refine hQ _ _ gE (hmNl.rf.up rfl) (hmAm_mk hts (hT.nf gE) ?_ ?_ (fun q => ?_) (fun q => ?_) ?_)
                · rw [hx, va_up_self, va_up_ne _ _ (by omega), va_up_ne _ _ (by omega), va_up_ne _ _ (by omega), va_up_self]
                · rw [hx, va_up_self, va_up_self]
                  show _ = nI (hmTcd (if hmSg8 (T.getD (hmEnd hmSpc T p) 0) = true then 4 else 1))
                  rw [if_neg hs8]
                  rfl
                · rw [hx] at q
                  simp only [if_neg hs8] at q
                  exact absurd q (by decide)
                · rw [hx] at q
                  simp only [if_neg hs8] at q
                  exact absurd q (by decide)
                · rw [hx, va_up_self, va_up_ne _ _ (by omega), va_up_self]
              · refine Ex_iload_n 358 (i := 1) dX9_nextToken_357 rfl rfl rfl ?_
                refine Ex_bipush 360 (v := 61) dX9_nextToken_358 (by decide) rfl ?_
                refine Ex_icmp_gt 363 367 dX9_nextToken_360 (by decide) rfl (fun c11 => ?_) (fun c11 => ?_)
                · refine Ex_iconst 368 (v := 4) dX9_nextToken_367 (by decide) rfl ?_
                  refine Ex_pI 371 (va_up (va_up (va_up (J m) 5 (nI (hmEnd hmSpc T p))) 8 0) 4 (nI ((hmEnd hmSpc T p) + 1))) (va_up J m (va_up (va_up (va_up (va_up (J m) 5 (nI (hmEnd hmSpc T p))) 8 0) 4 (nI ((hmEnd hmSpc T p) + 1))) 6 4)) dX9_nextToken_368 fX9_154 rfl (xMs_0 hm) rfl (fun _ => rfl) (va_up_self _ _ _) rfl (va_up_up _ _ _ _) rfl ?_
                  refine Ex_ret0 dX9_nextToken_371 rfl (Or.inl rfl) ?_
                  have nlet : hmLet (T.getD (hmEnd hmSpc T p) 0) = false := by
                    cases e : hmLet (T.getD (hmEnd hmSpc T p) 0) with
                    | false => rfl
                    | true => exact absurd ((hm_let tb).mp e).1 (Int32.not_le.mpr c2)
                  have ndig : hmDig (T.getD (hmEnd hmSpc T p) 0) = false := by
                    cases e : hmDig (T.getD (hmEnd hmSpc T p) 0) with
                    | false => rfl
                    | true => exact absurd ((hm_dig tb).mp e).1 (Int32.not_le.mpr c3)
                  have hx := hmLx_sgn hlt nlet ndig
                  have gE : hmNf m I (va_up J m (va_up (va_up (va_up (va_up (J m) 5 (nI (hmEnd hmSpc T p))) 8 0) 4 (nI ((hmEnd hmSpc T p) + 1))) 6 4)) := by
                    rw [← va_up_up J m (va_up (va_up (va_up (J m) 5 (nI (hmEnd hmSpc T p))) 8 0) 4 (nI ((hmEnd hmSpc T p) + 1)))]
                    refine hmNf.up ?_ (va_up_self _ _ _) (Or.inr (Or.inr (Or.inl rfl)))
                    rw [← va_up_up J m (va_up (va_up (J m) 5 (nI (hmEnd hmSpc T p))) 8 0)]
                    exact gB.up (va_up_self _ _ _) (Or.inl rfl)
                  have hs8 : ¬ hmSg8 (T.getD (hmEnd hmSpc T p) 0) = true := fun q => by
                    rcases (hm_sg8_ref _ tb).mp q with z | z | z
                    · exact (fun z => c8 z.2) z
                    · exact c9 z
                    · exact (fun z => z.2 c11) z
                  refine hQ _ _ gE (hmNl.rf.up rfl) (hmAm_mk hts (hT.nf gE) ?_ ?_ (fun q => ?_) (fun q => ?_) ?_)
                  · rw [hx, va_up_self, va_up_ne _ _ (by omega), va_up_ne _ _ (by omega), va_up_ne _ _ (by omega), va_up_self]
                  · rw [hx, va_up_self, va_up_self]
                    show _ = nI (hmTcd (if hmSg8 (T.getD (hmEnd hmSpc T p) 0) = true then 4 else 1))
                    rw [if_neg hs8]
                    rfl
                  · rw [hx] at q
                    simp only [if_neg hs8] at q
                    exact absurd q (by decide)
                  · rw [hx] at q
                    simp only [if_neg hs8] at q
                    exact absurd q (by decide)
                  · rw [hx, va_up_self, va_up_ne _ _ (by omega), va_up_self]
                · refine Ex_iconst 364 (v := 3) dX9_nextToken_363 (by decide) rfl ?_
                  refine Ex_goto 368 dX9_nextToken_364 (by decide) ?_
                  refine Ex_pI 371 (va_up (va_up (va_up (J m) 5 (nI (hmEnd hmSpc T p))) 8 0) 4 (nI ((hmEnd hmSpc T p) + 1))) (va_up J m (va_up (va_up (va_up (va_up (J m) 5 (nI (hmEnd hmSpc T p))) 8 0) 4 (nI ((hmEnd hmSpc T p) + 1))) 6 3)) dX9_nextToken_368 fX9_154 rfl (xMs_0 hm) rfl (fun _ => rfl) (va_up_self _ _ _) rfl (va_up_up _ _ _ _) rfl ?_
                  refine Ex_ret0 dX9_nextToken_371 rfl (Or.inl rfl) ?_
                  have nlet : hmLet (T.getD (hmEnd hmSpc T p) 0) = false := by
                    cases e : hmLet (T.getD (hmEnd hmSpc T p) 0) with
                    | false => rfl
                    | true => exact absurd ((hm_let tb).mp e).1 (Int32.not_le.mpr c2)
                  have ndig : hmDig (T.getD (hmEnd hmSpc T p) 0) = false := by
                    cases e : hmDig (T.getD (hmEnd hmSpc T p) 0) with
                    | false => rfl
                    | true => exact absurd ((hm_dig tb).mp e).1 (Int32.not_le.mpr c3)
                  have hx := hmLx_sgn hlt nlet ndig
                  have gE : hmNf m I (va_up J m (va_up (va_up (va_up (va_up (J m) 5 (nI (hmEnd hmSpc T p))) 8 0) 4 (nI ((hmEnd hmSpc T p) + 1))) 6 3)) := by
                    rw [← va_up_up J m (va_up (va_up (va_up (J m) 5 (nI (hmEnd hmSpc T p))) 8 0) 4 (nI ((hmEnd hmSpc T p) + 1)))]
                    refine hmNf.up ?_ (va_up_self _ _ _) (Or.inr (Or.inr (Or.inl rfl)))
                    rw [← va_up_up J m (va_up (va_up (J m) 5 (nI (hmEnd hmSpc T p))) 8 0)]
                    exact gB.up (va_up_self _ _ _) (Or.inl rfl)
                  have hs8 : hmSg8 (T.getD (hmEnd hmSpc T p) 0) = true := (hm_sg8_ref _ tb).mpr (Or.inr (Or.inr ⟨c10, c11⟩))
                  refine hQ _ _ gE (hmNl.rf.up rfl) (hmAm_mk hts (hT.nf gE) ?_ ?_ (fun q => ?_) (fun q => ?_) ?_)
                  · rw [hx, va_up_self, va_up_ne _ _ (by omega), va_up_ne _ _ (by omega), va_up_ne _ _ (by omega), va_up_self]
                  · rw [hx, va_up_self, va_up_self]
                    show _ = nI (hmTcd (if hmSg8 (T.getD (hmEnd hmSpc T p) 0) = true then 4 else 1))
                    rw [if_pos hs8]
                    rfl
                  · rw [hx] at q
                    simp only [if_pos hs8] at q
                    exact absurd q (by decide)
                  · rw [hx] at q
                    simp only [if_pos hs8] at q
                    exact absurd q (by decide)
                  · rw [hx, va_up_self, va_up_ne _ _ (by omega), va_up_self]
      · refine Ex_iload_n 219 (i := 1) dX9_nextToken_218 rfl rfl rfl ?_
        refine Ex_bipush 221 (v := 57) dX9_nextToken_219 (by decide) rfl ?_
        refine Ex_icmp_gt 224 322 dX9_nextToken_221 (by decide) rfl (fun c12 => ?_) (fun c12 => ?_)
        · refine Ex_aload_n 323 (i := 0) dX9_nextToken_322 rfl rfl rfl ?_
          refine Ex_dup 324 dX9_nextToken_323 rfl rfl ?_
          refine Ex_gI 327 (J m 4) dX9_nextToken_324 fX9_141 (xMs_0 hm) rfl (congrFun (va_up_self _ _ _) _) rfl ?_
          rw [j4]
          refine Ex_iconst 328 (v := 1) dX9_nextToken_327 (by decide) rfl ?_
          refine Ex_iadd 329 dX9_nextToken_328 rfl ?_
          rw [nI_1]
          refine Ex_pI 332 (va_up (va_up (J m) 5 (nI (hmEnd hmSpc T p))) 8 0) (va_up J m (va_up (va_up (va_up (J m) 5 (nI (hmEnd hmSpc T p))) 8 0) 4 (nI ((hmEnd hmSpc T p) + 1)))) dX9_nextToken_329 fX9_141 rfl (xMs_0 hm) rfl (fun _ => rfl) (va_up_self _ _ _) rfl (va_up_up _ _ _ _) rfl ?_
          refine Ex_aload_n 333 (i := 0) dX9_nextToken_332 rfl rfl rfl ?_
          refine Ex_iload_n 334 (i := 1) dX9_nextToken_333 rfl rfl rfl ?_
          refine Ex_bipush 336 (v := 40) dX9_nextToken_334 (by decide) rfl ?_
          refine Ex_icmp_lt 339 345 dX9_nextToken_336 (by decide) rfl (fun c13 => ?_) (fun c13 => ?_)
          · refine Ex_iload_n 346 (i := 1) dX9_nextToken_345 rfl rfl rfl ?_
            refine Ex_bipush 348 (v := 45) dX9_nextToken_346 (by decide) rfl ?_
            refine Ex_icmp_eq 351 363 dX9_nextToken_348 (by decide) rfl (fun c14 => ?_) (fun c14 => ?_)
            · refine Ex_iconst 364 (v := 3) dX9_nextToken_363 (by decide) rfl ?_
              refine Ex_goto 368 dX9_nextToken_364 (by decide) ?_
              refine Ex_pI 371 (va_up (va_up (va_up (J m) 5 (nI (hmEnd hmSpc T p))) 8 0) 4 (nI ((hmEnd hmSpc T p) + 1))) (va_up J m (va_up (va_up (va_up (va_up (J m) 5 (nI (hmEnd hmSpc T p))) 8 0) 4 (nI ((hmEnd hmSpc T p) + 1))) 6 3)) dX9_nextToken_368 fX9_154 rfl (xMs_0 hm) rfl (fun _ => rfl) (va_up_self _ _ _) rfl (va_up_up _ _ _ _) rfl ?_
              refine Ex_ret0 dX9_nextToken_371 rfl (Or.inl rfl) ?_
              have nlet : hmLet (T.getD (hmEnd hmSpc T p) 0) = false := by
                cases e : hmLet (T.getD (hmEnd hmSpc T p) 0) with
                | false => rfl
                | true => exact absurd ((hm_let tb).mp e).1 (Int32.not_le.mpr c2)
              have ndig : hmDig (T.getD (hmEnd hmSpc T p) 0) = false := by
                cases e : hmDig (T.getD (hmEnd hmSpc T p) 0) with
                | false => rfl
                | true => exact absurd ((hm_dig tb).mp e).2 (Int32.not_le.mpr c12)
              have hx := hmLx_sgn hlt nlet ndig
              have gE : hmNf m I (va_up J m (va_up (va_up (va_up (va_up (J m) 5 (nI (hmEnd hmSpc T p))) 8 0) 4 (nI ((hmEnd hmSpc T p) + 1))) 6 3)) := by
                rw [← va_up_up J m (va_up (va_up (va_up (J m) 5 (nI (hmEnd hmSpc T p))) 8 0) 4 (nI ((hmEnd hmSpc T p) + 1)))]
                refine hmNf.up ?_ (va_up_self _ _ _) (Or.inr (Or.inr (Or.inl rfl)))
                rw [← va_up_up J m (va_up (va_up (J m) 5 (nI (hmEnd hmSpc T p))) 8 0)]
                exact gB.up (va_up_self _ _ _) (Or.inl rfl)
              have hs8 : hmSg8 (T.getD (hmEnd hmSpc T p) 0) = true := (hm_sg8_ref _ tb).mpr (Or.inr (Or.inl c14))
              refine hQ _ _ gE (hmNl.rf.up rfl) (hmAm_mk hts (hT.nf gE) ?_ ?_ (fun q => ?_) (fun q => ?_) ?_)
              · rw [hx, va_up_self, va_up_ne _ _ (by omega), va_up_ne _ _ (by omega), va_up_ne _ _ (by omega), va_up_self]
              · rw [hx, va_up_self, va_up_self]
                show _ = nI (hmTcd (if hmSg8 (T.getD (hmEnd hmSpc T p) 0) = true then 4 else 1))
                rw [if_pos hs8]
                rfl
              · rw [hx] at q
                simp only [if_pos hs8] at q
                exact absurd q (by decide)
              · rw [hx] at q
                simp only [if_pos hs8] at q
                exact absurd q (by decide)
              · rw [hx, va_up_self, va_up_ne _ _ (by omega), va_up_self]
            · refine Ex_iload_n 352 (i := 1) dX9_nextToken_351 rfl rfl rfl ?_
              refine Ex_bipush 354 (v := 59) dX9_nextToken_352 (by decide) rfl ?_
              refine Ex_icmp_lt 357 367 dX9_nextToken_354 (by decide) rfl (fun c15 => ?_) (fun c15 => ?_)
              · refine Ex_iconst 368 (v := 4) dX9_nextToken_367 (by decide) rfl ?_
                refine Ex_pI 371 (va_up (va_up (va_up (J m) 5 (nI (hmEnd hmSpc T p))) 8 0) 4 (nI ((hmEnd hmSpc T p) + 1))) (va_up J m (va_up (va_up (va_up (va_up (J m) 5 (nI (hmEnd hmSpc T p))) 8 0) 4 (nI ((hmEnd hmSpc T p) + 1))) 6 4)) dX9_nextToken_368 fX9_154 rfl (xMs_0 hm) rfl (fun _ => rfl) (va_up_self _ _ _) rfl (va_up_up _ _ _ _) rfl ?_
                refine Ex_ret0 dX9_nextToken_371 rfl (Or.inl rfl) ?_
                have nlet : hmLet (T.getD (hmEnd hmSpc T p) 0) = false := by
                  cases e : hmLet (T.getD (hmEnd hmSpc T p) 0) with
                  | false => rfl
                  | true => exact absurd ((hm_let tb).mp e).1 (Int32.not_le.mpr c2)
                have ndig : hmDig (T.getD (hmEnd hmSpc T p) 0) = false := by
                  cases e : hmDig (T.getD (hmEnd hmSpc T p) 0) with
                  | false => rfl
                  | true => exact absurd ((hm_dig tb).mp e).2 (Int32.not_le.mpr c12)
                have hx := hmLx_sgn hlt nlet ndig
                have gE : hmNf m I (va_up J m (va_up (va_up (va_up (va_up (J m) 5 (nI (hmEnd hmSpc T p))) 8 0) 4 (nI ((hmEnd hmSpc T p) + 1))) 6 4)) := by
                  rw [← va_up_up J m (va_up (va_up (va_up (J m) 5 (nI (hmEnd hmSpc T p))) 8 0) 4 (nI ((hmEnd hmSpc T p) + 1)))]
                  refine hmNf.up ?_ (va_up_self _ _ _) (Or.inr (Or.inr (Or.inl rfl)))
                  rw [← va_up_up J m (va_up (va_up (J m) 5 (nI (hmEnd hmSpc T p))) 8 0)]
                  exact gB.up (va_up_self _ _ _) (Or.inl rfl)
                have hs8 : ¬ hmSg8 (T.getD (hmEnd hmSpc T p) 0) = true := fun q => by
                  rcases (hm_sg8_ref _ tb).mp q with z | z | z
                  · exact (fun z => z.1 c13) z
                  · exact c14 z
                  · exact (fun z => z.1 c15) z
                refine hQ _ _ gE (hmNl.rf.up rfl) (hmAm_mk hts (hT.nf gE) ?_ ?_ (fun q => ?_) (fun q => ?_) ?_)
                · rw [hx, va_up_self, va_up_ne _ _ (by omega), va_up_ne _ _ (by omega), va_up_ne _ _ (by omega), va_up_self]
                · rw [hx, va_up_self, va_up_self]
                  show _ = nI (hmTcd (if hmSg8 (T.getD (hmEnd hmSpc T p) 0) = true then 4 else 1))
                  rw [if_neg hs8]
                  rfl
                · rw [hx] at q
                  simp only [if_neg hs8] at q
                  exact absurd q (by decide)
                · rw [hx] at q
                  simp only [if_neg hs8] at q
                  exact absurd q (by decide)
                · rw [hx, va_up_self, va_up_ne _ _ (by omega), va_up_self]
              · refine Ex_iload_n 358 (i := 1) dX9_nextToken_357 rfl rfl rfl ?_
                refine Ex_bipush 360 (v := 61) dX9_nextToken_358 (by decide) rfl ?_
                refine Ex_icmp_gt 363 367 dX9_nextToken_360 (by decide) rfl (fun c16 => ?_) (fun c16 => ?_)
                · refine Ex_iconst 368 (v := 4) dX9_nextToken_367 (by decide) rfl ?_
                  refine Ex_pI 371 (va_up (va_up (va_up (J m) 5 (nI (hmEnd hmSpc T p))) 8 0) 4 (nI ((hmEnd hmSpc T p) + 1))) (va_up J m (va_up (va_up (va_up (va_up (J m) 5 (nI (hmEnd hmSpc T p))) 8 0) 4 (nI ((hmEnd hmSpc T p) + 1))) 6 4)) dX9_nextToken_368 fX9_154 rfl (xMs_0 hm) rfl (fun _ => rfl) (va_up_self _ _ _) rfl (va_up_up _ _ _ _) rfl ?_
                  refine Ex_ret0 dX9_nextToken_371 rfl (Or.inl rfl) ?_
                  have nlet : hmLet (T.getD (hmEnd hmSpc T p) 0) = false := by
                    cases e : hmLet (T.getD (hmEnd hmSpc T p) 0) with
                    | false => rfl
                    | true => exact absurd ((hm_let tb).mp e).1 (Int32.not_le.mpr c2)
                  have ndig : hmDig (T.getD (hmEnd hmSpc T p) 0) = false := by
                    cases e : hmDig (T.getD (hmEnd hmSpc T p) 0) with
                    | false => rfl
                    | true => exact absurd ((hm_dig tb).mp e).2 (Int32.not_le.mpr c12)
                  have hx := hmLx_sgn hlt nlet ndig
                  have gE : hmNf m I (va_up J m (va_up (va_up (va_up (va_up (J m) 5 (nI (hmEnd hmSpc T p))) 8 0) 4 (nI ((hmEnd hmSpc T p) + 1))) 6 4)) := by
                    rw [← va_up_up J m (va_up (va_up (va_up (J m) 5 (nI (hmEnd hmSpc T p))) 8 0) 4 (nI ((hmEnd hmSpc T p) + 1)))]
                    refine hmNf.up ?_ (va_up_self _ _ _) (Or.inr (Or.inr (Or.inl rfl)))
                    rw [← va_up_up J m (va_up (va_up (J m) 5 (nI (hmEnd hmSpc T p))) 8 0)]
                    exact gB.up (va_up_self _ _ _) (Or.inl rfl)
                  have hs8 : ¬ hmSg8 (T.getD (hmEnd hmSpc T p) 0) = true := fun q => by
                    rcases (hm_sg8_ref _ tb).mp q with z | z | z
                    · exact (fun z => z.1 c13) z
                    · exact c14 z
                    · exact (fun z => z.2 c16) z
                  refine hQ _ _ gE (hmNl.rf.up rfl) (hmAm_mk hts (hT.nf gE) ?_ ?_ (fun q => ?_) (fun q => ?_) ?_)
                  · rw [hx, va_up_self, va_up_ne _ _ (by omega), va_up_ne _ _ (by omega), va_up_ne _ _ (by omega), va_up_self]
                  · rw [hx, va_up_self, va_up_self]
                    show _ = nI (hmTcd (if hmSg8 (T.getD (hmEnd hmSpc T p) 0) = true then 4 else 1))
                    rw [if_neg hs8]
                    rfl
                  · rw [hx] at q
                    simp only [if_neg hs8] at q
                    exact absurd q (by decide)
                  · rw [hx] at q
                    simp only [if_neg hs8] at q
                    exact absurd q (by decide)
                  · rw [hx, va_up_self, va_up_ne _ _ (by omega), va_up_self]
                · refine Ex_iconst 364 (v := 3) dX9_nextToken_363 (by decide) rfl ?_
                  refine Ex_goto 368 dX9_nextToken_364 (by decide) ?_
                  refine Ex_pI 371 (va_up (va_up (va_up (J m) 5 (nI (hmEnd hmSpc T p))) 8 0) 4 (nI ((hmEnd hmSpc T p) + 1))) (va_up J m (va_up (va_up (va_up (va_up (J m) 5 (nI (hmEnd hmSpc T p))) 8 0) 4 (nI ((hmEnd hmSpc T p) + 1))) 6 3)) dX9_nextToken_368 fX9_154 rfl (xMs_0 hm) rfl (fun _ => rfl) (va_up_self _ _ _) rfl (va_up_up _ _ _ _) rfl ?_
                  refine Ex_ret0 dX9_nextToken_371 rfl (Or.inl rfl) ?_
                  have nlet : hmLet (T.getD (hmEnd hmSpc T p) 0) = false := by
                    cases e : hmLet (T.getD (hmEnd hmSpc T p) 0) with
                    | false => rfl
                    | true => exact absurd ((hm_let tb).mp e).1 (Int32.not_le.mpr c2)
                  have ndig : hmDig (T.getD (hmEnd hmSpc T p) 0) = false := by
                    cases e : hmDig (T.getD (hmEnd hmSpc T p) 0) with
                    | false => rfl
                    | true => exact absurd ((hm_dig tb).mp e).2 (Int32.not_le.mpr c12)
                  have hx := hmLx_sgn hlt nlet ndig
                  have gE : hmNf m I (va_up J m (va_up (va_up (va_up (va_up (J m) 5 (nI (hmEnd hmSpc T p))) 8 0) 4 (nI ((hmEnd hmSpc T p) + 1))) 6 3)) := by
                    rw [← va_up_up J m (va_up (va_up (va_up (J m) 5 (nI (hmEnd hmSpc T p))) 8 0) 4 (nI ((hmEnd hmSpc T p) + 1)))]
                    refine hmNf.up ?_ (va_up_self _ _ _) (Or.inr (Or.inr (Or.inl rfl)))
                    rw [← va_up_up J m (va_up (va_up (J m) 5 (nI (hmEnd hmSpc T p))) 8 0)]
                    exact gB.up (va_up_self _ _ _) (Or.inl rfl)
                  have hs8 : hmSg8 (T.getD (hmEnd hmSpc T p) 0) = true := (hm_sg8_ref _ tb).mpr (Or.inr (Or.inr ⟨c15, c16⟩))
                  refine hQ _ _ gE (hmNl.rf.up rfl) (hmAm_mk hts (hT.nf gE) ?_ ?_ (fun q => ?_) (fun q => ?_) ?_)
                  · rw [hx, va_up_self, va_up_ne _ _ (by omega), va_up_ne _ _ (by omega), va_up_ne _ _ (by omega), va_up_self]
                  · rw [hx, va_up_self, va_up_self]
                    show _ = nI (hmTcd (if hmSg8 (T.getD (hmEnd hmSpc T p) 0) = true then 4 else 1))
                    rw [if_pos hs8]
                    rfl
                  · rw [hx] at q
                    simp only [if_pos hs8] at q
                    exact absurd q (by decide)
                  · rw [hx] at q
                    simp only [if_pos hs8] at q
                    exact absurd q (by decide)
                  · rw [hx, va_up_self, va_up_ne _ _ (by omega), va_up_self]
          · refine Ex_iload_n 340 (i := 1) dX9_nextToken_339 rfl rfl rfl ?_
            refine Ex_bipush 342 (v := 43) dX9_nextToken_340 (by decide) rfl ?_
            refine Ex_icmp_le 345 363 dX9_nextToken_342 (by decide) rfl (fun c17 => ?_) (fun c17 => ?_)
            · refine Ex_iconst 364 (v := 3) dX9_nextToken_363 (by decide) rfl ?_
              refine Ex_goto 368 dX9_nextToken_364 (by decide) ?_
              refine Ex_pI 371 (va_up (va_up (va_up (J m) 5 (nI (hmEnd hmSpc T p))) 8 0) 4 (nI ((hmEnd hmSpc T p) + 1))) (va_up J m (va_up (va_up (va_up (va_up (J m) 5 (nI (hmEnd hmSpc T p))) 8 0) 4 (nI ((hmEnd hmSpc T p) + 1))) 6 3)) dX9_nextToken_368 fX9_154 rfl (xMs_0 hm) rfl (fun _ => rfl) (va_up_self _ _ _) rfl (va_up_up _ _ _ _) rfl ?_
              refine Ex_ret0 dX9_nextToken_371 rfl (Or.inl rfl) ?_
              have nlet : hmLet (T.getD (hmEnd hmSpc T p) 0) = false := by
                cases e : hmLet (T.getD (hmEnd hmSpc T p) 0) with
                | false => rfl
                | true => exact absurd ((hm_let tb).mp e).1 (Int32.not_le.mpr c2)
              have ndig : hmDig (T.getD (hmEnd hmSpc T p) 0) = false := by
                cases e : hmDig (T.getD (hmEnd hmSpc T p) 0) with
                | false => rfl
                | true => exact absurd ((hm_dig tb).mp e).2 (Int32.not_le.mpr c12)
              have hx := hmLx_sgn hlt nlet ndig
              have gE : hmNf m I (va_up J m (va_up (va_up (va_up (va_up (J m) 5 (nI (hmEnd hmSpc T p))) 8 0) 4 (nI ((hmEnd hmSpc T p) + 1))) 6 3)) := by
                rw [← va_up_up J m (va_up (va_up (va_up (J m) 5 (nI (hmEnd hmSpc T p))) 8 0) 4 (nI ((hmEnd hmSpc T p) + 1)))]
                refine hmNf.up ?_ (va_up_self _ _ _) (Or.inr (Or.inr (Or.inl rfl)))
                rw [← va_up_up J m (va_up (va_up (J m) 5 (nI (hmEnd hmSpc T p))) 8 0)]
                exact gB.up (va_up_self _ _ _) (Or.inl rfl)
              have hs8 : hmSg8 (T.getD (hmEnd hmSpc T p) 0) = true := (hm_sg8_ref _ tb).mpr (Or.inl ⟨c13, c17⟩)
              refine hQ _ _ gE (hmNl.rf.up rfl) (hmAm_mk hts (hT.nf gE) ?_ ?_ (fun q => ?_) (fun q => ?_) ?_)
              · rw [hx, va_up_self, va_up_ne _ _ (by omega), va_up_ne _ _ (by omega), va_up_ne _ _ (by omega), va_up_self]
              · rw [hx, va_up_self, va_up_self]
                show _ = nI (hmTcd (if hmSg8 (T.getD (hmEnd hmSpc T p) 0) = true then 4 else 1))
                rw [if_pos hs8]
                rfl
              · rw [hx] at q
                simp only [if_pos hs8] at q
                exact absurd q (by decide)
              · rw [hx] at q
                simp only [if_pos hs8] at q
                exact absurd q (by decide)
              · rw [hx, va_up_self, va_up_ne _ _ (by omega), va_up_self]
            · refine Ex_iload_n 346 (i := 1) dX9_nextToken_345 rfl rfl rfl ?_
              refine Ex_bipush 348 (v := 45) dX9_nextToken_346 (by decide) rfl ?_
              refine Ex_icmp_eq 351 363 dX9_nextToken_348 (by decide) rfl (fun c18 => ?_) (fun c18 => ?_)
              · refine Ex_iconst 364 (v := 3) dX9_nextToken_363 (by decide) rfl ?_
                refine Ex_goto 368 dX9_nextToken_364 (by decide) ?_
                refine Ex_pI 371 (va_up (va_up (va_up (J m) 5 (nI (hmEnd hmSpc T p))) 8 0) 4 (nI ((hmEnd hmSpc T p) + 1))) (va_up J m (va_up (va_up (va_up (va_up (J m) 5 (nI (hmEnd hmSpc T p))) 8 0) 4 (nI ((hmEnd hmSpc T p) + 1))) 6 3)) dX9_nextToken_368 fX9_154 rfl (xMs_0 hm) rfl (fun _ => rfl) (va_up_self _ _ _) rfl (va_up_up _ _ _ _) rfl ?_
                refine Ex_ret0 dX9_nextToken_371 rfl (Or.inl rfl) ?_
                have nlet : hmLet (T.getD (hmEnd hmSpc T p) 0) = false := by
                  cases e : hmLet (T.getD (hmEnd hmSpc T p) 0) with
                  | false => rfl
                  | true => exact absurd ((hm_let tb).mp e).1 (Int32.not_le.mpr c2)
                have ndig : hmDig (T.getD (hmEnd hmSpc T p) 0) = false := by
                  cases e : hmDig (T.getD (hmEnd hmSpc T p) 0) with
                  | false => rfl
                  | true => exact absurd ((hm_dig tb).mp e).2 (Int32.not_le.mpr c12)
                have hx := hmLx_sgn hlt nlet ndig
                have gE : hmNf m I (va_up J m (va_up (va_up (va_up (va_up (J m) 5 (nI (hmEnd hmSpc T p))) 8 0) 4 (nI ((hmEnd hmSpc T p) + 1))) 6 3)) := by
                  rw [← va_up_up J m (va_up (va_up (va_up (J m) 5 (nI (hmEnd hmSpc T p))) 8 0) 4 (nI ((hmEnd hmSpc T p) + 1)))]
                  refine hmNf.up ?_ (va_up_self _ _ _) (Or.inr (Or.inr (Or.inl rfl)))
                  rw [← va_up_up J m (va_up (va_up (J m) 5 (nI (hmEnd hmSpc T p))) 8 0)]
                  exact gB.up (va_up_self _ _ _) (Or.inl rfl)
                have hs8 : hmSg8 (T.getD (hmEnd hmSpc T p) 0) = true := (hm_sg8_ref _ tb).mpr (Or.inr (Or.inl c18))
                refine hQ _ _ gE (hmNl.rf.up rfl) (hmAm_mk hts (hT.nf gE) ?_ ?_ (fun q => ?_) (fun q => ?_) ?_)
                · rw [hx, va_up_self, va_up_ne _ _ (by omega), va_up_ne _ _ (by omega), va_up_ne _ _ (by omega), va_up_self]
                · rw [hx, va_up_self, va_up_self]
                  show _ = nI (hmTcd (if hmSg8 (T.getD (hmEnd hmSpc T p) 0) = true then 4 else 1))
                  rw [if_pos hs8]
                  rfl
                · rw [hx] at q
                  simp only [if_pos hs8] at q
                  exact absurd q (by decide)
                · rw [hx] at q
                  simp only [if_pos hs8] at q
                  exact absurd q (by decide)
                · rw [hx, va_up_self, va_up_ne _ _ (by omega), va_up_self]
              · refine Ex_iload_n 352 (i := 1) dX9_nextToken_351 rfl rfl rfl ?_
                refine Ex_bipush 354 (v := 59) dX9_nextToken_352 (by decide) rfl ?_
                refine Ex_icmp_lt 357 367 dX9_nextToken_354 (by decide) rfl (fun c19 => ?_) (fun c19 => ?_)
                · refine Ex_iconst 368 (v := 4) dX9_nextToken_367 (by decide) rfl ?_
                  refine Ex_pI 371 (va_up (va_up (va_up (J m) 5 (nI (hmEnd hmSpc T p))) 8 0) 4 (nI ((hmEnd hmSpc T p) + 1))) (va_up J m (va_up (va_up (va_up (va_up (J m) 5 (nI (hmEnd hmSpc T p))) 8 0) 4 (nI ((hmEnd hmSpc T p) + 1))) 6 4)) dX9_nextToken_368 fX9_154 rfl (xMs_0 hm) rfl (fun _ => rfl) (va_up_self _ _ _) rfl (va_up_up _ _ _ _) rfl ?_
                  refine Ex_ret0 dX9_nextToken_371 rfl (Or.inl rfl) ?_
                  have nlet : hmLet (T.getD (hmEnd hmSpc T p) 0) = false := by
                    cases e : hmLet (T.getD (hmEnd hmSpc T p) 0) with
                    | false => rfl
                    | true => exact absurd ((hm_let tb).mp e).1 (Int32.not_le.mpr c2)
                  have ndig : hmDig (T.getD (hmEnd hmSpc T p) 0) = false := by
                    cases e : hmDig (T.getD (hmEnd hmSpc T p) 0) with
                    | false => rfl
                    | true => exact absurd ((hm_dig tb).mp e).2 (Int32.not_le.mpr c12)
                  have hx := hmLx_sgn hlt nlet ndig
                  have gE : hmNf m I (va_up J m (va_up (va_up (va_up (va_up (J m) 5 (nI (hmEnd hmSpc T p))) 8 0) 4 (nI ((hmEnd hmSpc T p) + 1))) 6 4)) := by
                    rw [← va_up_up J m (va_up (va_up (va_up (J m) 5 (nI (hmEnd hmSpc T p))) 8 0) 4 (nI ((hmEnd hmSpc T p) + 1)))]
                    refine hmNf.up ?_ (va_up_self _ _ _) (Or.inr (Or.inr (Or.inl rfl)))
                    rw [← va_up_up J m (va_up (va_up (J m) 5 (nI (hmEnd hmSpc T p))) 8 0)]
                    exact gB.up (va_up_self _ _ _) (Or.inl rfl)
                  have hs8 : ¬ hmSg8 (T.getD (hmEnd hmSpc T p) 0) = true := fun q => by
                    rcases (hm_sg8_ref _ tb).mp q with z | z | z
                    · exact (fun z => c17 z.2) z
                    · exact c18 z
                    · exact (fun z => z.1 c19) z
                  refine hQ _ _ gE (hmNl.rf.up rfl) (hmAm_mk hts (hT.nf gE) ?_ ?_ (fun q => ?_) (fun q => ?_) ?_)
                  · rw [hx, va_up_self, va_up_ne _ _ (by omega), va_up_ne _ _ (by omega), va_up_ne _ _ (by omega), va_up_self]
                  · rw [hx, va_up_self, va_up_self]
                    show _ = nI (hmTcd (if hmSg8 (T.getD (hmEnd hmSpc T p) 0) = true then 4 else 1))
                    rw [if_neg hs8]
                    rfl
                  · rw [hx] at q
                    simp only [if_neg hs8] at q
                    exact absurd q (by decide)
                  · rw [hx] at q
                    simp only [if_neg hs8] at q
                    exact absurd q (by decide)
                  · rw [hx, va_up_self, va_up_ne _ _ (by omega), va_up_self]
                · refine Ex_iload_n 358 (i := 1) dX9_nextToken_357 rfl rfl rfl ?_
                  refine Ex_bipush 360 (v := 61) dX9_nextToken_358 (by decide) rfl ?_
                  refine Ex_icmp_gt 363 367 dX9_nextToken_360 (by decide) rfl (fun c20 => ?_) (fun c20 => ?_)
                  · refine Ex_iconst 368 (v := 4) dX9_nextToken_367 (by decide) rfl ?_
                    refine Ex_pI 371 (va_up (va_up (va_up (J m) 5 (nI (hmEnd hmSpc T p))) 8 0) 4 (nI ((hmEnd hmSpc T p) + 1))) (va_up J m (va_up (va_up (va_up (va_up (J m) 5 (nI (hmEnd hmSpc T p))) 8 0) 4 (nI ((hmEnd hmSpc T p) + 1))) 6 4)) dX9_nextToken_368 fX9_154 rfl (xMs_0 hm) rfl (fun _ => rfl) (va_up_self _ _ _) rfl (va_up_up _ _ _ _) rfl ?_
                    refine Ex_ret0 dX9_nextToken_371 rfl (Or.inl rfl) ?_
                    have nlet : hmLet (T.getD (hmEnd hmSpc T p) 0) = false := by
                      cases e : hmLet (T.getD (hmEnd hmSpc T p) 0) with
                      | false => rfl
                      | true => exact absurd ((hm_let tb).mp e).1 (Int32.not_le.mpr c2)
                    have ndig : hmDig (T.getD (hmEnd hmSpc T p) 0) = false := by
                      cases e : hmDig (T.getD (hmEnd hmSpc T p) 0) with
                      | false => rfl
                      | true => exact absurd ((hm_dig tb).mp e).2 (Int32.not_le.mpr c12)
                    have hx := hmLx_sgn hlt nlet ndig
                    have gE : hmNf m I (va_up J m (va_up (va_up (va_up (va_up (J m) 5 (nI (hmEnd hmSpc T p))) 8 0) 4 (nI ((hmEnd hmSpc T p) + 1))) 6 4)) := by
                      rw [← va_up_up J m (va_up (va_up (va_up (J m) 5 (nI (hmEnd hmSpc T p))) 8 0) 4 (nI ((hmEnd hmSpc T p) + 1)))]
                      refine hmNf.up ?_ (va_up_self _ _ _) (Or.inr (Or.inr (Or.inl rfl)))
                      rw [← va_up_up J m (va_up (va_up (J m) 5 (nI (hmEnd hmSpc T p))) 8 0)]
                      exact gB.up (va_up_self _ _ _) (Or.inl rfl)
                    have hs8 : ¬ hmSg8 (T.getD (hmEnd hmSpc T p) 0) = true := fun q => by
                      rcases (hm_sg8_ref _ tb).mp q with z | z | z
                      · exact (fun z => c17 z.2) z
                      · exact c18 z
                      · exact (fun z => z.2 c20) z
                    refine hQ _ _ gE (hmNl.rf.up rfl) (hmAm_mk hts (hT.nf gE) ?_ ?_ (fun q => ?_) (fun q => ?_) ?_)
                    · rw [hx, va_up_self, va_up_ne _ _ (by omega), va_up_ne _ _ (by omega), va_up_ne _ _ (by omega), va_up_self]
                    · rw [hx, va_up_self, va_up_self]
                      show _ = nI (hmTcd (if hmSg8 (T.getD (hmEnd hmSpc T p) 0) = true then 4 else 1))
                      rw [if_neg hs8]
                      rfl
                    · rw [hx] at q
                      simp only [if_neg hs8] at q
                      exact absurd q (by decide)
                    · rw [hx] at q
                      simp only [if_neg hs8] at q
                      exact absurd q (by decide)
                    · rw [hx, va_up_self, va_up_ne _ _ (by omega), va_up_self]
                  · refine Ex_iconst 364 (v := 3) dX9_nextToken_363 (by decide) rfl ?_
                    refine Ex_goto 368 dX9_nextToken_364 (by decide) ?_
                    refine Ex_pI 371 (va_up (va_up (va_up (J m) 5 (nI (hmEnd hmSpc T p))) 8 0) 4 (nI ((hmEnd hmSpc T p) + 1))) (va_up J m (va_up (va_up (va_up (va_up (J m) 5 (nI (hmEnd hmSpc T p))) 8 0) 4 (nI ((hmEnd hmSpc T p) + 1))) 6 3)) dX9_nextToken_368 fX9_154 rfl (xMs_0 hm) rfl (fun _ => rfl) (va_up_self _ _ _) rfl (va_up_up _ _ _ _) rfl ?_
                    refine Ex_ret0 dX9_nextToken_371 rfl (Or.inl rfl) ?_
                    have nlet : hmLet (T.getD (hmEnd hmSpc T p) 0) = false := by
                      cases e : hmLet (T.getD (hmEnd hmSpc T p) 0) with
                      | false => rfl
                      | true => exact absurd ((hm_let tb).mp e).1 (Int32.not_le.mpr c2)
                    have ndig : hmDig (T.getD (hmEnd hmSpc T p) 0) = false := by
                      cases e : hmDig (T.getD (hmEnd hmSpc T p) 0) with
                      | false => rfl
                      | true => exact absurd ((hm_dig tb).mp e).2 (Int32.not_le.mpr c12)
                    have hx := hmLx_sgn hlt nlet ndig
                    have gE : hmNf m I (va_up J m (va_up (va_up (va_up (va_up (J m) 5 (nI (hmEnd hmSpc T p))) 8 0) 4 (nI ((hmEnd hmSpc T p) + 1))) 6 3)) := by
                      rw [← va_up_up J m (va_up (va_up (va_up (J m) 5 (nI (hmEnd hmSpc T p))) 8 0) 4 (nI ((hmEnd hmSpc T p) + 1)))]
                      refine hmNf.up ?_ (va_up_self _ _ _) (Or.inr (Or.inr (Or.inl rfl)))
                      rw [← va_up_up J m (va_up (va_up (J m) 5 (nI (hmEnd hmSpc T p))) 8 0)]
                      exact gB.up (va_up_self _ _ _) (Or.inl rfl)
                    have hs8 : hmSg8 (T.getD (hmEnd hmSpc T p) 0) = true := (hm_sg8_ref _ tb).mpr (Or.inr (Or.inr ⟨c19, c20⟩))
                    refine hQ _ _ gE (hmNl.rf.up rfl) (hmAm_mk hts (hT.nf gE) ?_ ?_ (fun q => ?_) (fun q => ?_) ?_)
                    · rw [hx, va_up_self, va_up_ne _ _ (by omega), va_up_ne _ _ (by omega), va_up_ne _ _ (by omega), va_up_self]
                    · rw [hx, va_up_self, va_up_self]
                      show _ = nI (hmTcd (if hmSg8 (T.getD (hmEnd hmSpc T p) 0) = true then 4 else 1))
                      rw [if_pos hs8]
                      rfl
                    · rw [hx] at q
                      simp only [if_pos hs8] at q
                      exact absurd q (by decide)
                    · rw [hx] at q
                      simp only [if_pos hs8] at q
                      exact absurd q (by decide)
                    · rw [hx, va_up_self, va_up_ne _ _ (by omega), va_up_self]
        · refine Ex_fgt (ls' := [some (.ref m), none]) (by simp [xsub]) ?_
          have nlet : hmLet (T.getD (hmEnd hmSpc T p) 0) = false := by
            cases e : hmLet (T.getD (hmEnd hmSpc T p) 0) with
            | false => rfl
            | true => exact absurd ((hm_let tb).mp e).1 (Int32.not_le.mpr c2)
          have ydig : hmDig (T.getD (hmEnd hmSpc T p) 0) = true := (hm_dig tb).mpr ⟨Int32.not_lt.mp c3, Int32.not_lt.mp c12⟩
          have hx := hmLx_num hlt nlet ydig
          have hcl : hmEnd hmDig T (hmEnd hmSpc T p) - (hmEnd hmSpc T p) = (hmCut hmDig T (hmEnd hmSpc T p)).length := by unfold hmEnd; omega
          refine mc_next_num hm hT hc (pl := (hmEnd hmSpc T p)) (T.length - (hmEnd hmSpc T p)) (hmEnd hmSpc T p) 0 _ _ (by omega) (Nat.le_refl _) gB (hmNl.rf.up rfl) (by rw [va_up_self, va_up_ne _ _ (by omega), va_up_ne _ _ (by omega)]; exact j4) (by rw [va_up_self, va_up_ne _ _ (by omega), va_up_self]) (fun _ => by rw [va_up_self, va_up_self]) (fun I1 L1 k1 k2 k3 k4 k5 k6 => hQ I1 L1 k1 k2 (hmAm_mk hts (hT.nf k1) ?_ ?_ (fun q => ?_) (fun q => ?_) ?_))
          · rw [hx, k4]
          · rw [hx, k6, hcl]
            show nI _ = nI (hmTcd (if (hmCut hmDig T (hmEnd hmSpc T p)).length ≤ 4 then 3 else 1))
            by_cases c : (hmCut hmDig T (hmEnd hmSpc T p)).length ≤ 4
            · rw [if_pos c, if_pos c]
              rfl
            · rw [if_neg c, if_neg c]
              rfl
          · rw [hx] at q
            by_cases c : (hmCut hmDig T (hmEnd hmSpc T p)).length ≤ 4
            · simp only [if_pos c] at q
              exact absurd q (by decide)
            · simp only [if_neg c] at q
              exact absurd q (by decide)
          · rw [hx] at q ⊢
            by_cases c : (hmCut hmDig T (hmEnd hmSpc T p)).length ≤ 4
            · rw [k5 (by omega)]
              exact hm_dec32 _ 0 (fun x hx => of_decide_eq_true (hmCut_all x hx))
            · simp only [if_neg c] at q
              exact absurd q (by decide)
          · rw [hx, k3]
    · refine Ex_iload_n 104 (i := 1) dX9_nextToken_103 rfl rfl rfl ?_
      refine Ex_bipush 106 (v := 122) dX9_nextToken_104 (by decide) rfl ?_
      refine Ex_icmp_gt 109 212 dX9_nextToken_106 (by decide) rfl (fun c21 => ?_) (fun c21 => ?_)
      · refine Ex_iload_n 213 (i := 1) dX9_nextToken_212 rfl rfl rfl ?_
        refine Ex_bipush 215 (v := 48) dX9_nextToken_213 (by decide) rfl ?_
        refine Ex_icmp_lt 218 322 dX9_nextToken_215 (by decide) rfl (fun c22 => ?_) (fun c22 => ?_)
        · refine Ex_aload_n 323 (i := 0) dX9_nextToken_322 rfl rfl rfl ?_
          refine Ex_dup 324 dX9_nextToken_323 rfl rfl ?_
          refine Ex_gI 327 (J m 4) dX9_nextToken_324 fX9_141 (xMs_0 hm) rfl (congrFun (va_up_self _ _ _) _) rfl ?_
          rw [j4]
          refine Ex_iconst 328 (v := 1) dX9_nextToken_327 (by decide) rfl ?_
          refine Ex_iadd 329 dX9_nextToken_328 rfl ?_
          rw [nI_1]
          refine Ex_pI 332 (va_up (va_up (J m) 5 (nI (hmEnd hmSpc T p))) 8 0) (va_up J m (va_up (va_up (va_up (J m) 5 (nI (hmEnd hmSpc T p))) 8 0) 4 (nI ((hmEnd hmSpc T p) + 1)))) dX9_nextToken_329 fX9_141 rfl (xMs_0 hm) rfl (fun _ => rfl) (va_up_self _ _ _) rfl (va_up_up _ _ _ _) rfl ?_
          refine Ex_aload_n 333 (i := 0) dX9_nextToken_332 rfl rfl rfl ?_
          refine Ex_iload_n 334 (i := 1) dX9_nextToken_333 rfl rfl rfl ?_
          refine Ex_bipush 336 (v := 40) dX9_nextToken_334 (by decide) rfl ?_
          refine Ex_icmp_lt 339 345 dX9_nextToken_336 (by decide) rfl (fun c23 => ?_) (fun c23 => ?_)
          · refine Ex_iload_n 346 (i := 1) dX9_nextToken_345 rfl rfl rfl ?_
            refine Ex_bipush 348 (v := 45) dX9_nextToken_346 (by decide) rfl ?_
            refine Ex_icmp_eq 351 363 dX9_nextToken_348 (by decide) rfl (fun c24 => ?_) (fun c24 => ?_)
            · refine Ex_iconst 364 (v := 3) dX9_nextToken_363 (by decide) rfl ?_
              refine Ex_goto 368 dX9_nextToken_364 (by decide) ?_
              refine Ex_pI 371 (va_up (va_up (va_up (J m) 5 (nI (hmEnd hmSpc T p))) 8 0) 4 (nI ((hmEnd hmSpc T p) + 1))) (va_up J m (va_up (va_up (va_up (va_up (J m) 5 (nI (hmEnd hmSpc T p))) 8 0) 4 (nI ((hmEnd hmSpc T p) + 1))) 6 3)) dX9_nextToken_368 fX9_154 rfl (xMs_0 hm) rfl (fun _ => rfl) (va_up_self _ _ _) rfl (va_up_up _ _ _ _) rfl ?_
              refine Ex_ret0 dX9_nextToken_371 rfl (Or.inl rfl) ?_
              have nlet : hmLet (T.getD (hmEnd hmSpc T p) 0) = false := by
                cases e : hmLet (T.getD (hmEnd hmSpc T p) 0) with
                | false => rfl
                | true => exact absurd ((hm_let tb).mp e).2 (Int32.not_le.mpr c21)
              have ndig : hmDig (T.getD (hmEnd hmSpc T p) 0) = false := by
                cases e : hmDig (T.getD (hmEnd hmSpc T p) 0) with
                | false => rfl
                | true => exact absurd ((hm_dig tb).mp e).1 (Int32.not_le.mpr c22)
              have hx := hmLx_sgn hlt nlet ndig
              have gE : hmNf m I (va_up J m (va_up (va_up (va_up (va_up (J m) 5 (nI (hmEnd hmSpc T p))) 8 0) 4 (nI ((hmEnd hmSpc T p) + 1))) 6 3)) := by
                rw [← va_up_up J m (va_up (va_up (va_up (J m) 5 (nI (hmEnd hmSpc T p))) 8 0) 4 (nI ((hmEnd hmSpc T p) + 1)))]
                refine hmNf.up ?_ (va_up_self _ _ _) (Or.inr (Or.inr (Or.inl rfl)))
                rw [← va_up_up J m (va_up (va_up (J m) 5 (nI (hmEnd hmSpc T p))) 8 0)]
                exact gB.up (va_up_self _ _ _) (Or.inl rfl)
              have hs8 : hmSg8 (T.getD (hmEnd hmSpc T p) 0) = true := (hm_sg8_ref _ tb).mpr (Or.inr (Or.inl c24))
              refine hQ _ _ gE (hmNl.rf.up rfl) (hmAm_mk hts (hT.nf gE) ?_ ?_ (fun q => ?_) (fun q => ?_) ?_)
              · rw [hx, va_up_self, va_up_ne _ _ (by omega), va_up_ne _ _ (by omega), va_up_ne _ _ (by omega), va_up_self]
              · rw [hx, va_up_self, va_up_self]
                show _ = nI (hmTcd (if hmSg8 (T.getD (hmEnd hmSpc T p) 0) = true then 4 else 1))
                rw [if_pos hs8]
                rfl
              · rw [hx] at q
                simp only [if_pos hs8] at q
                exact absurd q (by decide)
              · rw [hx] at q
                simp only [if_pos hs8] at q
                exact absurd q (by decide)
              · rw [hx, va_up_self, va_up_ne _ _ (by omega), va_up_self]
            · refine Ex_iload_n 352 (i := 1) dX9_nextToken_351 rfl rfl rfl ?_
              refine Ex_bipush 354 (v := 59) dX9_nextToken_352 (by decide) rfl ?_
              refine Ex_icmp_lt 357 367 dX9_nextToken_354 (by decide) rfl (fun c25 => ?_) (fun c25 => ?_)
              · refine Ex_iconst 368 (v := 4) dX9_nextToken_367 (by decide) rfl ?_
                refine Ex_pI 371 (va_up (va_up (va_up (J m) 5 (nI (hmEnd hmSpc T p))) 8 0) 4 (nI ((hmEnd hmSpc T p) + 1))) (va_up J m (va_up (va_up (va_up (va_up (J m) 5 (nI (hmEnd hmSpc T p))) 8 0) 4 (nI ((hmEnd hmSpc T p) + 1))) 6 4)) dX9_nextToken_368 fX9_154 rfl (xMs_0 hm) rfl (fun _ => rfl) (va_up_self _ _ _) rfl (va_up_up _ _ _ _) rfl ?_
                refine Ex_ret0 dX9_nextToken_371 rfl (Or.inl rfl) ?_
                have nlet : hmLet (T.getD (hmEnd hmSpc T p) 0) = false := by
                  cases e : hmLet (T.getD (hmEnd hmSpc T p) 0) with
                  | false => rfl
                  | true => exact absurd ((hm_let tb).mp e).2 (Int32.not_le.mpr c21)
                have ndig : hmDig (T.getD (hmEnd hmSpc T p) 0) = false := by
                  cases e : hmDig (T.getD (hmEnd hmSpc T p) 0) with
                  | false => rfl
                  | true => exact absurd ((hm_dig tb).mp e).1 (Int32.not_le.mpr c22)
                have hx := hmLx_sgn hlt nlet ndig
                have gE : hmNf m I (va_up J m (va_up (va_up (va_up (va_up (J m) 5 (nI (hmEnd hmSpc T p))) 8 0) 4 (nI ((hmEnd hmSpc T p) + 1))) 6 4)) := by
                  rw [← va_up_up J m (va_up (va_up (va_up (J m) 5 (nI (hmEnd hmSpc T p))) 8 0) 4 (nI ((hmEnd hmSpc T p) + 1)))]
                  refine hmNf.up ?_ (va_up_self _ _ _) (Or.inr (Or.inr (Or.inl rfl)))
                  rw [← va_up_up J m (va_up (va_up (J m) 5 (nI (hmEnd hmSpc T p))) 8 0)]
                  exact gB.up (va_up_self _ _ _) (Or.inl rfl)
                have hs8 : ¬ hmSg8 (T.getD (hmEnd hmSpc T p) 0) = true := fun q => by
                  rcases (hm_sg8_ref _ tb).mp q with z | z | z
                  · exact (fun z => z.1 c23) z
                  · exact c24 z
                  · exact (fun z => z.1 c25) z
                refine hQ _ _ gE (hmNl.rf.up rfl) (hmAm_mk hts (hT.nf gE) ?_ ?_ (fun q => ?_) (fun q => ?_) ?_)
                · rw [hx, va_up_self, va_up_ne _ _ (by omega), va_up_ne _ _ (by omega), va_up_ne _ _ (by omega), va_up_self]
                · rw [hx, va_up_self, va_up_self]
                  show _ = nI (hmTcd (if hmSg8 (T.getD (hmEnd hmSpc T p) 0) = true then 4 else 1))
                  rw [if_neg hs8]
                  rfl
                · rw [hx] at q
                  simp only [if_neg hs8] at q
                  exact absurd q (by decide)
                · rw [hx] at q
                  simp only [if_neg hs8] at q
                  exact absurd q (by decide)
                · rw [hx, va_up_self, va_up_ne _ _ (by omega), va_up_self]
              · refine Ex_iload_n 358 (i := 1) dX9_nextToken_357 rfl rfl rfl ?_
                refine Ex_bipush 360 (v := 61) dX9_nextToken_358 (by decide) rfl ?_
                refine Ex_icmp_gt 363 367 dX9_nextToken_360 (by decide) rfl (fun c26 => ?_) (fun c26 => ?_)
                · refine Ex_iconst 368 (v := 4) dX9_nextToken_367 (by decide) rfl ?_
                  refine Ex_pI 371 (va_up (va_up (va_up (J m) 5 (nI (hmEnd hmSpc T p))) 8 0) 4 (nI ((hmEnd hmSpc T p) + 1))) (va_up J m (va_up (va_up (va_up (va_up (J m) 5 (nI (hmEnd hmSpc T p))) 8 0) 4 (nI ((hmEnd hmSpc T p) + 1))) 6 4)) dX9_nextToken_368 fX9_154 rfl (xMs_0 hm) rfl (fun _ => rfl) (va_up_self _ _ _) rfl (va_up_up _ _ _ _) rfl ?_
                  refine Ex_ret0 dX9_nextToken_371 rfl (Or.inl rfl) ?_
                  have nlet : hmLet (T.getD (hmEnd hmSpc T p) 0) = false := by
                    cases e : hmLet (T.getD (hmEnd hmSpc T p) 0) with
                    | false => rfl
                    | true => exact absurd ((hm_let tb).mp e).2 (Int32.not_le.mpr c21)
                  have ndig : hmDig (T.getD (hmEnd hmSpc T p) 0) = false := by
                    cases e : hmDig (T.getD (hmEnd hmSpc T p) 0) with
                    | false => rfl
                    | true => exact absurd ((hm_dig tb).mp e).1 (Int32.not_le.mpr c22)
                  have hx := hmLx_sgn hlt nlet ndig
                  have gE : hmNf m I (va_up J m (va_up (va_up (va_up (va_up (J m) 5 (nI (hmEnd hmSpc T p))) 8 0) 4 (nI ((hmEnd hmSpc T p) + 1))) 6 4)) := by
                    rw [← va_up_up J m (va_up (va_up (va_up (J m) 5 (nI (hmEnd hmSpc T p))) 8 0) 4 (nI ((hmEnd hmSpc T p) + 1)))]
                    refine hmNf.up ?_ (va_up_self _ _ _) (Or.inr (Or.inr (Or.inl rfl)))
                    rw [← va_up_up J m (va_up (va_up (J m) 5 (nI (hmEnd hmSpc T p))) 8 0)]
                    exact gB.up (va_up_self _ _ _) (Or.inl rfl)
                  have hs8 : ¬ hmSg8 (T.getD (hmEnd hmSpc T p) 0) = true := fun q => by
                    rcases (hm_sg8_ref _ tb).mp q with z | z | z
                    · exact (fun z => z.1 c23) z
                    · exact c24 z
                    · exact (fun z => z.2 c26) z
                  refine hQ _ _ gE (hmNl.rf.up rfl) (hmAm_mk hts (hT.nf gE) ?_ ?_ (fun q => ?_) (fun q => ?_) ?_)
                  · rw [hx, va_up_self, va_up_ne _ _ (by omega), va_up_ne _ _ (by omega), va_up_ne _ _ (by omega), va_up_self]
                  · rw [hx, va_up_self, va_up_self]
                    show _ = nI (hmTcd (if hmSg8 (T.getD (hmEnd hmSpc T p) 0) = true then 4 else 1))
                    rw [if_neg hs8]
                    rfl
                  · rw [hx] at q
                    simp only [if_neg hs8] at q
                    exact absurd q (by decide)
                  · rw [hx] at q
                    simp only [if_neg hs8] at q
                    exact absurd q (by decide)
                  · rw [hx, va_up_self, va_up_ne _ _ (by omega), va_up_self]
                · refine Ex_iconst 364 (v := 3) dX9_nextToken_363 (by decide) rfl ?_
                  refine Ex_goto 368 dX9_nextToken_364 (by decide) ?_
                  refine Ex_pI 371 (va_up (va_up (va_up (J m) 5 (nI (hmEnd hmSpc T p))) 8 0) 4 (nI ((hmEnd hmSpc T p) + 1))) (va_up J m (va_up (va_up (va_up (va_up (J m) 5 (nI (hmEnd hmSpc T p))) 8 0) 4 (nI ((hmEnd hmSpc T p) + 1))) 6 3)) dX9_nextToken_368 fX9_154 rfl (xMs_0 hm) rfl (fun _ => rfl) (va_up_self _ _ _) rfl (va_up_up _ _ _ _) rfl ?_
                  refine Ex_ret0 dX9_nextToken_371 rfl (Or.inl rfl) ?_
                  have nlet : hmLet (T.getD (hmEnd hmSpc T p) 0) = false := by
                    cases e : hmLet (T.getD (hmEnd hmSpc T p) 0) with
                    | false => rfl
                    | true => exact absurd ((hm_let tb).mp e).2 (Int32.not_le.mpr c21)
                  have ndig : hmDig (T.getD (hmEnd hmSpc T p) 0) = false := by
                    cases e : hmDig (T.getD (hmEnd hmSpc T p) 0) with
                    | false => rfl
                    | true => exact absurd ((hm_dig tb).mp e).1 (Int32.not_le.mpr c22)
                  have hx := hmLx_sgn hlt nlet ndig
                  have gE : hmNf m I (va_up J m (va_up (va_up (va_up (va_up (J m) 5 (nI (hmEnd hmSpc T p))) 8 0) 4 (nI ((hmEnd hmSpc T p) + 1))) 6 3)) := by
                    rw [← va_up_up J m (va_up (va_up (va_up (J m) 5 (nI (hmEnd hmSpc T p))) 8 0) 4 (nI ((hmEnd hmSpc T p) + 1)))]
                    refine hmNf.up ?_ (va_up_self _ _ _) (Or.inr (Or.inr (Or.inl rfl)))
                    rw [← va_up_up J m (va_up (va_up (J m) 5 (nI (hmEnd hmSpc T p))) 8 0)]
                    exact gB.up (va_up_self _ _ _) (Or.inl rfl)
                  have hs8 : hmSg8 (T.getD (hmEnd hmSpc T p) 0) = true := (hm_sg8_ref _ tb).mpr (Or.inr (Or.inr ⟨c25, c26⟩))
                  refine hQ _ _ gE (hmNl.rf.up rfl) (hmAm_mk hts (hT.nf gE) ?_ ?_ (fun q => ?_) (fun q => ?_) ?_)
                  · rw [hx, va_up_self, va_up_ne _ _ (by omega), va_up_ne _ _ (by omega), va_up_ne _ _ (by omega), va_up_self]
                  · rw [hx, va_up_self, va_up_self]
                    show _ = nI (hmTcd (if hmSg8 (T.getD (hmEnd hmSpc T p) 0) = true then 4 else 1))
                    rw [if_pos hs8]
                    rfl
                  · rw [hx] at q
                    simp only [if_pos hs8] at q
                    exact absurd q (by decide)
                  · rw [hx] at q
                    simp only [if_pos hs8] at q
                    exact absurd q (by decide)
                  · rw [hx, va_up_self, va_up_ne _ _ (by omega), va_up_self]
          · refine Ex_iload_n 340 (i := 1) dX9_nextToken_339 rfl rfl rfl ?_
            refine Ex_bipush 342 (v := 43) dX9_nextToken_340 (by decide) rfl ?_
            refine Ex_icmp_le 345 363 dX9_nextToken_342 (by decide) rfl (fun c27 => ?_) (fun c27 => ?_)
            · refine Ex_iconst 364 (v := 3) dX9_nextToken_363 (by decide) rfl ?_
              refine Ex_goto 368 dX9_nextToken_364 (by decide) ?_
              refine Ex_pI 371 (va_up (va_up (va_up (J m) 5 (nI (hmEnd hmSpc T p))) 8 0) 4 (nI ((hmEnd hmSpc T p) + 1))) (va_up J m (va_up (va_up (va_up (va_up (J m) 5 (nI (hmEnd hmSpc T p))) 8 0) 4 (nI ((hmEnd hmSpc T p) + 1))) 6 3)) dX9_nextToken_368 fX9_154 rfl (xMs_0 hm) rfl (fun _ => rfl) (va_up_self _ _ _) rfl (va_up_up _ _ _ _) rfl ?_
              refine Ex_ret0 dX9_nextToken_371 rfl (Or.inl rfl) ?_
              have nlet : hmLet (T.getD (hmEnd hmSpc T p) 0) = false := by
                cases e : hmLet (T.getD (hmEnd hmSpc T p) 0) with
                | false => rfl
                | true => exact absurd ((hm_let tb).mp e).2 (Int32.not_le.mpr c21)
              have ndig : hmDig (T.getD (hmEnd hmSpc T p) 0) = false := by
                cases e : hmDig (T.getD (hmEnd hmSpc T p) 0) with
                | false => rfl
                | true => exact absurd ((hm_dig tb).mp e).1 (Int32.not_le.mpr c22)
              have hx := hmLx_sgn hlt nlet ndig
              have gE : hmNf m I (va_up J m (va_up (va_up (va_up (va_up (J m) 5 (nI (hmEnd hmSpc T p))) 8 0) 4 (nI ((hmEnd hmSpc T p) + 1))) 6 3)) := by
                rw [← va_up_up J m (va_up (va_up (va_up (J m) 5 (nI (hmEnd hmSpc T p))) 8 0) 4 (nI ((hmEnd hmSpc T p) + 1)))]
                refine hmNf.up ?_ (va_up_self _ _ _) (Or.inr (Or.inr (Or.inl rfl)))
                rw [← va_up_up J m (va_up (va_up (J m) 5 (nI (hmEnd hmSpc T p))) 8 0)]
                exact gB.up (va_up_self _ _ _) (Or.inl rfl)
              have hs8 : hmSg8 (T.getD (hmEnd hmSpc T p) 0) = true := (hm_sg8_ref _ tb).mpr (Or.inl ⟨c23, c27⟩)
              refine hQ _ _ gE (hmNl.rf.up rfl) (hmAm_mk hts (hT.nf gE) ?_ ?_ (fun q => ?_) (fun q => ?_) ?_)
              · rw [hx, va_up_self, va_up_ne _ _ (by omega), va_up_ne _ _ (by omega), va_up_ne _ _ (by omega), va_up_self]
              · rw [hx, va_up_self, va_up_self]
                show _ = nI (hmTcd (if hmSg8 (T.getD (hmEnd hmSpc T p) 0) = true then 4 else 1))
                rw [if_pos hs8]
                rfl
              · rw [hx] at q
                simp only [if_pos hs8] at q
                exact absurd q (by decide)
              · rw [hx] at q
                simp only [if_pos hs8] at q
                exact absurd q (by decide)
              · rw [hx, va_up_self, va_up_ne _ _ (by omega), va_up_self]
            · refine Ex_iload_n 346 (i := 1) dX9_nextToken_345 rfl rfl rfl ?_
              refine Ex_bipush 348 (v := 45) dX9_nextToken_346 (by decide) rfl ?_
              refine Ex_icmp_eq 351 363 dX9_nextToken_348 (by decide) rfl (fun c28 => ?_) (fun c28 => ?_)
              · refine Ex_iconst 364 (v := 3) dX9_nextToken_363 (by decide) rfl ?_
                refine Ex_goto 368 dX9_nextToken_364 (by decide) ?_
                refine Ex_pI 371 (va_up (va_up (va_up (J m) 5 (nI (hmEnd hmSpc T p))) 8 0) 4 (nI ((hmEnd hmSpc T p) + 1))) (va_up J m (va_up (va_up (va_up (va_up (J m) 5 (nI (hmEnd hmSpc T p))) 8 0) 4 (nI ((hmEnd hmSpc T p) + 1))) 6 3)) dX9_nextToken_368 fX9_154 rfl (xMs_0 hm) rfl (fun _ => rfl) (va_up_self _ _ _) rfl (va_up_up _ _ _ _) rfl ?_
                refine Ex_ret0 dX9_nextToken_371 rfl (Or.inl rfl) ?_
                have nlet : hmLet (T.getD (hmEnd hmSpc T p) 0) = false := by
                  cases e : hmLet (T.getD (hmEnd hmSpc T p) 0) with
                  | false => rfl
                  | true => exact absurd ((hm_let tb).mp e).2 (Int32.not_le.mpr c21)
                have ndig : hmDig (T.getD (hmEnd hmSpc T p) 0) = false := by
                  cases e : hmDig (T.getD (hmEnd hmSpc T p) 0) with
                  | false => rfl
                  | true => exact absurd ((hm_dig tb).mp e).1 (Int32.not_le.mpr c22)
                have hx := hmLx_sgn hlt nlet ndig
                have gE : hmNf m I (va_up J m (va_up (va_up (va_up (va_up (J m) 5 (nI (hmEnd hmSpc T p))) 8 0) 4 (nI ((hmEnd hmSpc T p) + 1))) 6 3)) := by
                  rw [← va_up_up J m (va_up (va_up (va_up (J m) 5 (nI (hmEnd hmSpc T p))) 8 0) 4 (nI ((hmEnd hmSpc T p) + 1)))]
                  refine hmNf.up ?_ (va_up_self _ _ _) (Or.inr (Or.inr (Or.inl rfl)))
                  rw [← va_up_up J m (va_up (va_up (J m) 5 (nI (hmEnd hmSpc T p))) 8 0)]
                  exact gB.up (va_up_self _ _ _) (Or.inl rfl)
                have hs8 : hmSg8 (T.getD (hmEnd hmSpc T p) 0) = true := (hm_sg8_ref _ tb).mpr (Or.inr (Or.inl c28))
                refine hQ _ _ gE (hmNl.rf.up rfl) (hmAm_mk hts (hT.nf gE) ?_ ?_ (fun q => ?_) (fun q => ?_) ?_)
                · rw [hx, va_up_self, va_up_ne _ _ (by omega), va_up_ne _ _ (by omega), va_up_ne _ _ (by omega), va_up_self]
                · rw [hx, va_up_self, va_up_self]
                  show _ = nI (hmTcd (if hmSg8 (T.getD (hmEnd hmSpc T p) 0) = true then 4 else 1))
                  rw [if_pos hs8]
                  rfl
                · rw [hx] at q
                  simp only [if_pos hs8] at q
                  exact absurd q (by decide)
                · rw [hx] at q
                  simp only [if_pos hs8] at q
                  exact absurd q (by decide)
                · rw [hx, va_up_self, va_up_ne _ _ (by omega), va_up_self]
              · refine Ex_iload_n 352 (i := 1) dX9_nextToken_351 rfl rfl rfl ?_
                refine Ex_bipush 354 (v := 59) dX9_nextToken_352 (by decide) rfl ?_
                refine Ex_icmp_lt 357 367 dX9_nextToken_354 (by decide) rfl (fun c29 => ?_) (fun c29 => ?_)
                · refine Ex_iconst 368 (v := 4) dX9_nextToken_367 (by decide) rfl ?_
                  refine Ex_pI 371 (va_up (va_up (va_up (J m) 5 (nI (hmEnd hmSpc T p))) 8 0) 4 (nI ((hmEnd hmSpc T p) + 1))) (va_up J m (va_up (va_up (va_up (va_up (J m) 5 (nI (hmEnd hmSpc T p))) 8 0) 4 (nI ((hmEnd hmSpc T p) + 1))) 6 4)) dX9_nextToken_368 fX9_154 rfl (xMs_0 hm) rfl (fun _ => rfl) (va_up_self _ _ _) rfl (va_up_up _ _ _ _) rfl ?_
                  refine Ex_ret0 dX9_nextToken_371 rfl (Or.inl rfl) ?_
                  have nlet : hmLet (T.getD (hmEnd hmSpc T p) 0) = false := by
                    cases e : hmLet (T.getD (hmEnd hmSpc T p) 0) with
                    | false => rfl
                    | true => exact absurd ((hm_let tb).mp e).2 (Int32.not_le.mpr c21)
                  have ndig : hmDig (T.getD (hmEnd hmSpc T p) 0) = false := by
                    cases e : hmDig (T.getD (hmEnd hmSpc T p) 0) with
                    | false => rfl
                    | true => exact absurd ((hm_dig tb).mp e).1 (Int32.not_le.mpr c22)
                  have hx := hmLx_sgn hlt nlet ndig
                  have gE : hmNf m I (va_up J m (va_up (va_up (va_up (va_up (J m) 5 (nI (hmEnd hmSpc T p))) 8 0) 4 (nI ((hmEnd hmSpc T p) + 1))) 6 4)) := by
                    rw [← va_up_up J m (va_up (va_up (va_up (J m) 5 (nI (hmEnd hmSpc T p))) 8 0) 4 (nI ((hmEnd hmSpc T p) + 1)))]
                    refine hmNf.up ?_ (va_up_self _ _ _) (Or.inr (Or.inr (Or.inl rfl)))
                    rw [← va_up_up J m (va_up (va_up (J m) 5 (nI (hmEnd hmSpc T p))) 8 0)]
                    exact gB.up (va_up_self _ _ _) (Or.inl rfl)
                  have hs8 : ¬ hmSg8 (T.getD (hmEnd hmSpc T p) 0) = true := fun q => by
                    rcases (hm_sg8_ref _ tb).mp q with z | z | z
                    · exact (fun z => c27 z.2) z
                    · exact c28 z
                    · exact (fun z => z.1 c29) z
                  refine hQ _ _ gE (hmNl.rf.up rfl) (hmAm_mk hts (hT.nf gE) ?_ ?_ (fun q => ?_) (fun q => ?_) ?_)
                  · rw [hx, va_up_self, va_up_ne _ _ (by omega), va_up_ne _ _ (by omega), va_up_ne _ _ (by omega), va_up_self]
                  · rw [hx, va_up_self, va_up_self]
                    show _ = nI (hmTcd (if hmSg8 (T.getD (hmEnd hmSpc T p) 0) = true then 4 else 1))
                    rw [if_neg hs8]
                    rfl
                  · rw [hx] at q
                    simp only [if_neg hs8] at q
                    exact absurd q (by decide)
                  · rw [hx] at q
                    simp only [if_neg hs8] at q
                    exact absurd q (by decide)
                  · rw [hx, va_up_self, va_up_ne _ _ (by omega), va_up_self]
                · refine Ex_iload_n 358 (i := 1) dX9_nextToken_357 rfl rfl rfl ?_
                  refine Ex_bipush 360 (v := 61) dX9_nextToken_358 (by decide) rfl ?_
                  refine Ex_icmp_gt 363 367 dX9_nextToken_360 (by decide) rfl (fun c30 => ?_) (fun c30 => ?_)
                  · refine Ex_iconst 368 (v := 4) dX9_nextToken_367 (by decide) rfl ?_
                    refine Ex_pI 371 (va_up (va_up (va_up (J m) 5 (nI (hmEnd hmSpc T p))) 8 0) 4 (nI ((hmEnd hmSpc T p) + 1))) (va_up J m (va_up (va_up (va_up (va_up (J m) 5 (nI (hmEnd hmSpc T p))) 8 0) 4 (nI ((hmEnd hmSpc T p) + 1))) 6 4)) dX9_nextToken_368 fX9_154 rfl (xMs_0 hm) rfl (fun _ => rfl) (va_up_self _ _ _) rfl (va_up_up _ _ _ _) rfl ?_
                    refine Ex_ret0 dX9_nextToken_371 rfl (Or.inl rfl) ?_
                    have nlet : hmLet (T.getD (hmEnd hmSpc T p) 0) = false := by
                      cases e : hmLet (T.getD (hmEnd hmSpc T p) 0) with
                      | false => rfl
                      | true => exact absurd ((hm_let tb).mp e).2 (Int32.not_le.mpr c21)
                    have ndig : hmDig (T.getD (hmEnd hmSpc T p) 0) = false := by
                      cases e : hmDig (T.getD (hmEnd hmSpc T p) 0) with
                      | false => rfl
                      | true => exact absurd ((hm_dig tb).mp e).1 (Int32.not_le.mpr c22)
                    have hx := hmLx_sgn hlt nlet ndig
                    have gE : hmNf m I (va_up J m (va_up (va_up (va_up (va_up (J m) 5 (nI (hmEnd hmSpc T p))) 8 0) 4 (nI ((hmEnd hmSpc T p) + 1))) 6 4)) := by
                      rw [← va_up_up J m (va_up (va_up (va_up (J m) 5 (nI (hmEnd hmSpc T p))) 8 0) 4 (nI ((hmEnd hmSpc T p) + 1)))]
                      refine hmNf.up ?_ (va_up_self _ _ _) (Or.inr (Or.inr (Or.inl rfl)))
                      rw [← va_up_up J m (va_up (va_up (J m) 5 (nI (hmEnd hmSpc T p))) 8 0)]
                      exact gB.up (va_up_self _ _ _) (Or.inl rfl)
                    have hs8 : ¬ hmSg8 (T.getD (hmEnd hmSpc T p) 0) = true := fun q => by
                      rcases (hm_sg8_ref _ tb).mp q with z | z | z
                      · exact (fun z => c27 z.2) z
                      · exact c28 z
                      · exact (fun z => z.2 c30) z
                    refine hQ _ _ gE (hmNl.rf.up rfl) (hmAm_mk hts (hT.nf gE) ?_ ?_ (fun q => ?_) (fun q => ?_) ?_)
                    · rw [hx, va_up_self, va_up_ne _ _ (by omega), va_up_ne _ _ (by omega), va_up_ne _ _ (by omega), va_up_self]
                    · rw [hx, va_up_self, va_up_self]
                      show _ = nI (hmTcd (if hmSg8 (T.getD (hmEnd hmSpc T p) 0) = true then 4 else 1))
                      rw [if_neg hs8]
                      rfl
                    · rw [hx] at q
                      simp only [if_neg hs8] at q
                      exact absurd q (by decide)
                    · rw [hx] at q
                      simp only [if_neg hs8] at q
                      exact absurd q (by decide)
                    · rw [hx, va_up_self, va_up_ne _ _ (by omega), va_up_self]
                  · refine Ex_iconst 364 (v := 3) dX9_nextToken_363 (by decide) rfl ?_
                    refine Ex_goto 368 dX9_nextToken_364 (by decide) ?_
                    refine Ex_pI 371 (va_up (va_up (va_up (J m) 5 (nI (hmEnd hmSpc T p))) 8 0) 4 (nI ((hmEnd hmSpc T p) + 1))) (va_up J m (va_up (va_up (va_up (va_up (J m) 5 (nI (hmEnd hmSpc T p))) 8 0) 4 (nI ((hmEnd hmSpc T p) + 1))) 6 3)) dX9_nextToken_368 fX9_154 rfl (xMs_0 hm) rfl (fun _ => rfl) (va_up_self _ _ _) rfl (va_up_up _ _ _ _) rfl ?_
                    refine Ex_ret0 dX9_nextToken_371 rfl (Or.inl rfl) ?_
                    have nlet : hmLet (T.getD (hmEnd hmSpc T p) 0) = false := by
                      cases e : hmLet (T.getD (hmEnd hmSpc T p) 0) with
                      | false => rfl
                      | true => exact absurd ((hm_let tb).mp e).2 (Int32.not_le.mpr c21)
                    have ndig : hmDig (T.getD (hmEnd hmSpc T p) 0) = false := by
                      cases e : hmDig (T.getD (hmEnd hmSpc T p) 0) with
                      | false => rfl
                      | true => exact absurd ((hm_dig tb).mp e).1 (Int32.not_le.mpr c22)
                    have hx := hmLx_sgn hlt nlet ndig
                    have gE : hmNf m I (va_up J m (va_up (va_up (va_up (va_up (J m) 5 (nI (hmEnd hmSpc T p))) 8 0) 4 (nI ((hmEnd hmSpc T p) + 1))) 6 3)) := by
                      rw [← va_up_up J m (va_up (va_up (va_up (J m) 5 (nI (hmEnd hmSpc T p))) 8 0) 4 (nI ((hmEnd hmSpc T p) + 1)))]
                      refine hmNf.up ?_ (va_up_self _ _ _) (Or.inr (Or.inr (Or.inl rfl)))
                      rw [← va_up_up J m (va_up (va_up (J m) 5 (nI (hmEnd hmSpc T p))) 8 0)]
                      exact gB.up (va_up_self _ _ _) (Or.inl rfl)
                    have hs8 : hmSg8 (T.getD (hmEnd hmSpc T p) 0) = true := (hm_sg8_ref _ tb).mpr (Or.inr (Or.inr ⟨c29, c30⟩))
                    refine hQ _ _ gE (hmNl.rf.up rfl) (hmAm_mk hts (hT.nf gE) ?_ ?_ (fun q => ?_) (fun q => ?_) ?_)
                    · rw [hx, va_up_self, va_up_ne _ _ (by omega), va_up_ne _ _ (by omega), va_up_ne _ _ (by omega), va_up_self]
                    · rw [hx, va_up_self, va_up_self]
                      show _ = nI (hmTcd (if hmSg8 (T.getD (hmEnd hmSpc T p) 0) = true then 4 else 1))
                      rw [if_pos hs8]
                      rfl
                    · rw [hx] at q
                      simp only [if_pos hs8] at q
                      exact absurd q (by decide)
                    · rw [hx] at q
                      simp only [if_pos hs8] at q
                      exact absurd q (by decide)
                    · rw [hx, va_up_self, va_up_ne _ _ (by omega), va_up_self]
        · refine Ex_iload_n 219 (i := 1) dX9_nextToken_218 rfl rfl rfl ?_
          refine Ex_bipush 221 (v := 57) dX9_nextToken_219 (by decide) rfl ?_
          refine Ex_icmp_gt 224 322 dX9_nextToken_221 (by decide) rfl (fun c31 => ?_) (fun c31 => ?_)
          · refine Ex_aload_n 323 (i := 0) dX9_nextToken_322 rfl rfl rfl ?_
            refine Ex_dup 324 dX9_nextToken_323 rfl rfl ?_
            refine Ex_gI 327 (J m 4) dX9_nextToken_324 fX9_141 (xMs_0 hm) rfl (congrFun (va_up_self _ _ _) _) rfl ?_
            rw [j4]
            refine Ex_iconst 328 (v := 1) dX9_nextToken_327 (by decide) rfl ?_
            refine Ex_iadd 329 dX9_nextToken_328 rfl ?_
            rw [nI_1]
            refine Ex_pI 332 (va_up (va_up (J m) 5 (nI (hmEnd hmSpc T p))) 8 0) (va_up J m (va_up (va_up (va_up (J m) 5 (nI (hmEnd hmSpc T p))) 8 0) 4 (nI ((hmEnd hmSpc T p) + 1)))) dX9_nextToken_329 fX9_141 rfl (xMs_0 hm) rfl (fun _ => rfl) (va_up_self _ _ _) rfl (va_up_up _ _ _ _) rfl ?_
            refine Ex_aload_n 333 (i := 0) dX9_nextToken_332 rfl rfl rfl ?_
            refine Ex_iload_n 334 (i := 1) dX9_nextToken_333 rfl rfl rfl ?_
            refine Ex_bipush 336 (v := 40) dX9_nextToken_334 (by decide) rfl ?_
            refine Ex_icmp_lt 339 345 dX9_nextToken_336 (by decide) rfl (fun c32 => ?_) (fun c32 => ?_)
            · refine Ex_iload_n 346 (i := 1) dX9_nextToken_345 rfl rfl rfl ?_
              refine Ex_bipush 348 (v := 45) dX9_nextToken_346 (by decide) rfl ?_
              refine Ex_icmp_eq 351 363 dX9_nextToken_348 (by decide) rfl (fun c33 => ?_) (fun c33 => ?_)
              · refine Ex_iconst 364 (v := 3) dX9_nextToken_363 (by decide) rfl ?_
                refine Ex_goto 368 dX9_nextToken_364 (by decide) ?_
                refine Ex_pI 371 (va_up (va_up (va_up (J m) 5 (nI (hmEnd hmSpc T p))) 8 0) 4 (nI ((hmEnd hmSpc T p) + 1))) (va_up J m (va_up (va_up (va_up (va_up (J m) 5 (nI (hmEnd hmSpc T p))) 8 0) 4 (nI ((hmEnd hmSpc T p) + 1))) 6 3)) dX9_nextToken_368 fX9_154 rfl (xMs_0 hm) rfl (fun _ => rfl) (va_up_self _ _ _) rfl (va_up_up _ _ _ _) rfl ?_
                refine Ex_ret0 dX9_nextToken_371 rfl (Or.inl rfl) ?_
                have nlet : hmLet (T.getD (hmEnd hmSpc T p) 0) = false := by
                  cases e : hmLet (T.getD (hmEnd hmSpc T p) 0) with
                  | false => rfl
                  | true => exact absurd ((hm_let tb).mp e).2 (Int32.not_le.mpr c21)
                have ndig : hmDig (T.getD (hmEnd hmSpc T p) 0) = false := by
                  cases e : hmDig (T.getD (hmEnd hmSpc T p) 0) with
                  | false => rfl
                  | true => exact absurd ((hm_dig tb).mp e).2 (Int32.not_le.mpr c31)
                have hx := hmLx_sgn hlt nlet ndig
                have gE : hmNf m I (va_up J m (va_up (va_up (va_up (va_up (J m) 5 (nI (hmEnd hmSpc T p))) 8 0) 4 (nI ((hmEnd hmSpc T p) + 1))) 6 3)) := by
                  rw [← va_up_up J m (va_up (va_up (va_up (J m) 5 (nI (hmEnd hmSpc T p))) 8 0) 4 (nI ((hmEnd hmSpc T p) + 1)))]
                  refine hmNf.up ?_ (va_up_self _ _ _) (Or.inr (Or.inr (Or.inl rfl)))
                  rw [← va_up_up J m (va_up (va_up (J m) 5 (nI (hmEnd hmSpc T p))) 8 0)]
                  exact gB.up (va_up_self _ _ _) (Or.inl rfl)
                have hs8 : hmSg8 (T.getD (hmEnd hmSpc T p) 0) = true := (hm_sg8_ref _ tb).mpr (Or.inr (Or.inl c33))
                refine hQ _ _ gE (hmNl.rf.up rfl) (hmAm_mk hts (hT.nf gE) ?_ ?_ (fun q => ?_) (fun q => ?_) ?_)
                · rw [hx, va_up_self, va_up_ne _ _ (by omega), va_up_ne _ _ (by omega), va_up_ne _ _ (by omega), va_up_self]
                · rw [hx, va_up_self, va_up_self]
                  show _ = nI (hmTcd (if hmSg8 (T.getD (hmEnd hmSpc T p) 0) = true then 4 else 1))
                  rw [if_pos hs8]
                  rfl
                · rw [hx] at q
                  simp only [if_pos hs8] at q
                  exact absurd q (by decide)
                · rw [hx] at q
                  simp only [if_pos hs8] at q
                  exact absurd q (by decide)
                · rw [hx, va_up_self, va_up_ne _ _ (by omega), va_up_self]
              · refine Ex_iload_n 352 (i := 1) dX9_nextToken_351 rfl rfl rfl ?_
                refine Ex_bipush 354 (v := 59) dX9_nextToken_352 (by decide) rfl ?_
                refine Ex_icmp_lt 357 367 dX9_nextToken_354 (by decide) rfl (fun c34 => ?_) (fun c34 => ?_)
                · refine Ex_iconst 368 (v := 4) dX9_nextToken_367 (by decide) rfl ?_
                  refine Ex_pI 371 (va_up (va_up (va_up (J m) 5 (nI (hmEnd hmSpc T p))) 8 0) 4 (nI ((hmEnd hmSpc T p) + 1))) (va_up J m (va_up (va_up (va_up (va_up (J m) 5 (nI (hmEnd hmSpc T p))) 8 0) 4 (nI ((hmEnd hmSpc T p) + 1))) 6 4)) dX9_nextToken_368 fX9_154 rfl (xMs_0 hm) rfl (fun _ => rfl) (va_up_self _ _ _) rfl (va_up_up _ _ _ _) rfl ?_
                  refine Ex_ret0 dX9_nextToken_371 rfl (Or.inl rfl) ?_
                  have nlet : hmLet (T.getD (hmEnd hmSpc T p) 0) = false := by
                    cases e : hmLet (T.getD (hmEnd hmSpc T p) 0) with
                    | false => rfl
                    | true => exact absurd ((hm_let tb).mp e).2 (Int32.not_le.mpr c21)
                  have ndig : hmDig (T.getD (hmEnd hmSpc T p) 0) = false := by
                    cases e : hmDig (T.getD (hmEnd hmSpc T p) 0) with
                    | false => rfl
                    | true => exact absurd ((hm_dig tb).mp e).2 (Int32.not_le.mpr c31)
                  have hx := hmLx_sgn hlt nlet ndig
                  have gE : hmNf m I (va_up J m (va_up (va_up (va_up (va_up (J m) 5 (nI (hmEnd hmSpc T p))) 8 0) 4 (nI ((hmEnd hmSpc T p) + 1))) 6 4)) := by
                    rw [← va_up_up J m (va_up (va_up (va_up (J m) 5 (nI (hmEnd hmSpc T p))) 8 0) 4 (nI ((hmEnd hmSpc T p) + 1)))]
                    refine hmNf.up ?_ (va_up_self _ _ _) (Or.inr (Or.inr (Or.inl rfl)))
                    rw [← va_up_up J m (va_up (va_up (J m) 5 (nI (hmEnd hmSpc T p))) 8 0)]
                    exact gB.up (va_up_self _ _ _) (Or.inl rfl)
                  have hs8 : ¬ hmSg8 (T.getD (hmEnd hmSpc T p) 0) = true := fun q => by
                    rcases (hm_sg8_ref _ tb).mp q with z | z | z
                    · exact (fun z => z.1 c32) z
                    · exact c33 z
                    · exact (fun z => z.1 c34) z
                  refine hQ _ _ gE (hmNl.rf.up rfl) (hmAm_mk hts (hT.nf gE) ?_ ?_ (fun q => ?_) (fun q => ?_) ?_)
                  · rw [hx, va_up_self, va_up_ne _ _ (by omega), va_up_ne _ _ (by omega), va_up_ne _ _ (by omega), va_up_self]
                  · rw [hx, va_up_self, va_up_self]
                    show _ = nI (hmTcd (if hmSg8 (T.getD (hmEnd hmSpc T p) 0) = true then 4 else 1))
                    rw [if_neg hs8]
                    rfl
                  · rw [hx] at q
                    simp only [if_neg hs8] at q
                    exact absurd q (by decide)
                  · rw [hx] at q
                    simp only [if_neg hs8] at q
                    exact absurd q (by decide)
                  · rw [hx, va_up_self, va_up_ne _ _ (by omega), va_up_self]
                · refine Ex_iload_n 358 (i := 1) dX9_nextToken_357 rfl rfl rfl ?_
                  refine Ex_bipush 360 (v := 61) dX9_nextToken_358 (by decide) rfl ?_
                  refine Ex_icmp_gt 363 367 dX9_nextToken_360 (by decide) rfl (fun c35 => ?_) (fun c35 => ?_)
                  · refine Ex_iconst 368 (v := 4) dX9_nextToken_367 (by decide) rfl ?_
                    refine Ex_pI 371 (va_up (va_up (va_up (J m) 5 (nI (hmEnd hmSpc T p))) 8 0) 4 (nI ((hmEnd hmSpc T p) + 1))) (va_up J m (va_up (va_up (va_up (va_up (J m) 5 (nI (hmEnd hmSpc T p))) 8 0) 4 (nI ((hmEnd hmSpc T p) + 1))) 6 4)) dX9_nextToken_368 fX9_154 rfl (xMs_0 hm) rfl (fun _ => rfl) (va_up_self _ _ _) rfl (va_up_up _ _ _ _) rfl ?_
                    refine Ex_ret0 dX9_nextToken_371 rfl (Or.inl rfl) ?_
                    have nlet : hmLet (T.getD (hmEnd hmSpc T p) 0) = false := by
                      cases e : hmLet (T.getD (hmEnd hmSpc T p) 0) with
                      | false => rfl
                      | true => exact absurd ((hm_let tb).mp e).2 (Int32.not_le.mpr c21)
                    have ndig : hmDig (T.getD (hmEnd hmSpc T p) 0) = false := by
                      cases e : hmDig (T.getD (hmEnd hmSpc T p) 0) with
                      | false => rfl
                      | true => exact absurd ((hm_dig tb).mp e).2 (Int32.not_le.mpr c31)
                    have hx := hmLx_sgn hlt nlet ndig
                    have gE : hmNf m I (va_up J m (va_up (va_up (va_up (va_up (J m) 5 (nI (hmEnd hmSpc T p))) 8 0) 4 (nI ((hmEnd hmSpc T p) + 1))) 6 4)) := by
                      rw [← va_up_up J m (va_up (va_up (va_up (J m) 5 (nI (hmEnd hmSpc T p))) 8 0) 4 (nI ((hmEnd hmSpc T p) + 1)))]
                      refine hmNf.up ?_ (va_up_self _ _ _) (Or.inr (Or.inr (Or.inl rfl)))
                      rw [← va_up_up J m (va_up (va_up (J m) 5 (nI (hmEnd hmSpc T p))) 8 0)]
                      exact gB.up (va_up_self _ _ _) (Or.inl rfl)
                    have hs8 : ¬ hmSg8 (T.getD (hmEnd hmSpc T p) 0) = true := fun q => by
                      rcases (hm_sg8_ref _ tb).mp q with z | z | z
                      · exact (fun z => z.1 c32) z
                      · exact c33 z
                      · exact (fun z => z.2 c35) z
                    refine hQ _ _ gE (hmNl.rf.up rfl) (hmAm_mk hts (hT.nf gE) ?_ ?_ (fun q => ?_) (fun q => ?_) ?_)
                    · rw [hx, va_up_self, va_up_ne _ _ (by omega), va_up_ne _ _ (by omega), va_up_ne _ _ (by omega), va_up_self]
                    · rw [hx, va_up_self, va_up_self]
                      show _ = nI (hmTcd (if hmSg8 (T.getD (hmEnd hmSpc T p) 0) = true then 4 else 1))
                      rw [if_neg hs8]
                      rfl
                    · rw [hx] at q
                      simp only [if_neg hs8] at q
                      exact absurd q (by decide)
                    · rw [hx] at q
                      simp only [if_neg hs8] at q
                      exact absurd q (by decide)
                    · rw [hx, va_up_self, va_up_ne _ _ (by omega), va_up_self]
                  · refine Ex_iconst 364 (v := 3) dX9_nextToken_363 (by decide) rfl ?_
                    refine Ex_goto 368 dX9_nextToken_364 (by decide) ?_
                    refine Ex_pI 371 (va_up (va_up (va_up (J m) 5 (nI (hmEnd hmSpc T p))) 8 0) 4 (nI ((hmEnd hmSpc T p) + 1))) (va_up J m (va_up (va_up (va_up (va_up (J m) 5 (nI (hmEnd hmSpc T p))) 8 0) 4 (nI ((hmEnd hmSpc T p) + 1))) 6 3)) dX9_nextToken_368 fX9_154 rfl (xMs_0 hm) rfl (fun _ => rfl) (va_up_self _ _ _) rfl (va_up_up _ _ _ _) rfl ?_
                    refine Ex_ret0 dX9_nextToken_371 rfl (Or.inl rfl) ?_
                    have nlet : hmLet (T.getD (hmEnd hmSpc T p) 0) = false := by
                      cases e : hmLet (T.getD (hmEnd hmSpc T p) 0) with
                      | false => rfl
                      | true => exact absurd ((hm_let tb).mp e).2 (Int32.not_le.mpr c21)
                    have ndig : hmDig (T.getD (hmEnd hmSpc T p) 0) = false := by
                      cases e : hmDig (T.getD (hmEnd hmSpc T p) 0) with
                      | false => rfl
                      | true => exact absurd ((hm_dig tb).mp e).2 (Int32.not_le.mpr c31)
                    have hx := hmLx_sgn hlt nlet ndig
                    have gE : hmNf m I (va_up J m (va_up (va_up (va_up (va_up (J m) 5 (nI (hmEnd hmSpc T p))) 8 0) 4 (nI ((hmEnd hmSpc T p) + 1))) 6 3)) := by
                      rw [← va_up_up J m (va_up (va_up (va_up (J m) 5 (nI (hmEnd hmSpc T p))) 8 0) 4 (nI ((hmEnd hmSpc T p) + 1)))]
                      refine hmNf.up ?_ (va_up_self _ _ _) (Or.inr (Or.inr (Or.inl rfl)))
                      rw [← va_up_up J m (va_up (va_up (J m) 5 (nI (hmEnd hmSpc T p))) 8 0)]
                      exact gB.up (va_up_self _ _ _) (Or.inl rfl)
                    have hs8 : hmSg8 (T.getD (hmEnd hmSpc T p) 0) = true := (hm_sg8_ref _ tb).mpr (Or.inr (Or.inr ⟨c34, c35⟩))
                    refine hQ _ _ gE (hmNl.rf.up rfl) (hmAm_mk hts (hT.nf gE) ?_ ?_ (fun q => ?_) (fun q => ?_) ?_)
                    · rw [hx, va_up_self, va_up_ne _ _ (by omega), va_up_ne _ _ (by omega), va_up_ne _ _ (by omega), va_up_self]
                    · rw [hx, va_up_self, va_up_self]
                      show _ = nI (hmTcd (if hmSg8 (T.getD (hmEnd hmSpc T p) 0) = true then 4 else 1))
                      rw [if_pos hs8]
                      rfl
                    · rw [hx] at q
                      simp only [if_pos hs8] at q
                      exact absurd q (by decide)
                    · rw [hx] at q
                      simp only [if_pos hs8] at q
                      exact absurd q (by decide)
                    · rw [hx, va_up_self, va_up_ne _ _ (by omega), va_up_self]
            · refine Ex_iload_n 340 (i := 1) dX9_nextToken_339 rfl rfl rfl ?_
              refine Ex_bipush 342 (v := 43) dX9_nextToken_340 (by decide) rfl ?_
              refine Ex_icmp_le 345 363 dX9_nextToken_342 (by decide) rfl (fun c36 => ?_) (fun c36 => ?_)
              · refine Ex_iconst 364 (v := 3) dX9_nextToken_363 (by decide) rfl ?_
                refine Ex_goto 368 dX9_nextToken_364 (by decide) ?_
                refine Ex_pI 371 (va_up (va_up (va_up (J m) 5 (nI (hmEnd hmSpc T p))) 8 0) 4 (nI ((hmEnd hmSpc T p) + 1))) (va_up J m (va_up (va_up (va_up (va_up (J m) 5 (nI (hmEnd hmSpc T p))) 8 0) 4 (nI ((hmEnd hmSpc T p) + 1))) 6 3)) dX9_nextToken_368 fX9_154 rfl (xMs_0 hm) rfl (fun _ => rfl) (va_up_self _ _ _) rfl (va_up_up _ _ _ _) rfl ?_
                refine Ex_ret0 dX9_nextToken_371 rfl (Or.inl rfl) ?_
                have nlet : hmLet (T.getD (hmEnd hmSpc T p) 0) = false := by
                  cases e : hmLet (T.getD (hmEnd hmSpc T p) 0) with
                  | false => rfl
                  | true => exact absurd ((hm_let tb).mp e).2 (Int32.not_le.mpr c21)
                have ndig : hmDig (T.getD (hmEnd hmSpc T p) 0) = false := by
                  cases e : hmDig (T.getD (hmEnd hmSpc T p) 0) with
                  | false => rfl
                  | true => exact absurd ((hm_dig tb).mp e).2 (Int32.not_le.mpr c31)
                have hx := hmLx_sgn hlt nlet ndig
                have gE : hmNf m I (va_up J m (va_up (va_up (va_up (va_up (J m) 5 (nI (hmEnd hmSpc T p))) 8 0) 4 (nI ((hmEnd hmSpc T p) + 1))) 6 3)) := by
                  rw [← va_up_up J m (va_up (va_up (va_up (J m) 5 (nI (hmEnd hmSpc T p))) 8 0) 4 (nI ((hmEnd hmSpc T p) + 1)))]
                  refine hmNf.up ?_ (va_up_self _ _ _) (Or.inr (Or.inr (Or.inl rfl)))
                  rw [← va_up_up J m (va_up (va_up (J m) 5 (nI (hmEnd hmSpc T p))) 8 0)]
                  exact gB.up (va_up_self _ _ _) (Or.inl rfl)
                have hs8 : hmSg8 (T.getD (hmEnd hmSpc T p) 0) = true := (hm_sg8_ref _ tb).mpr (Or.inl ⟨c32, c36⟩)
                refine hQ _ _ gE (hmNl.rf.up rfl) (hmAm_mk hts (hT.nf gE) ?_ ?_ (fun q => ?_) (fun q => ?_) ?_)
                · rw [hx, va_up_self, va_up_ne _ _ (by omega), va_up_ne _ _ (by omega), va_up_ne _ _ (by omega), va_up_self]
                · rw [hx, va_up_self, va_up_self]
                  show _ = nI (hmTcd (if hmSg8 (T.getD (hmEnd hmSpc T p) 0) = true then 4 else 1))
                  rw [if_pos hs8]
                  rfl
                · rw [hx] at q
                  simp only [if_pos hs8] at q
                  exact absurd q (by decide)
                · rw [hx] at q
                  simp only [if_pos hs8] at q
                  exact absurd q (by decide)
                · rw [hx, va_up_self, va_up_ne _ _ (by omega), va_up_self]
              · refine Ex_iload_n 346 (i := 1) dX9_nextToken_345 rfl rfl rfl ?_
                refine Ex_bipush 348 (v := 45) dX9_nextToken_346 (by decide) rfl ?_
                refine Ex_icmp_eq 351 363 dX9_nextToken_348 (by decide) rfl (fun c37 => ?_) (fun c37 => ?_)
                · refine Ex_iconst 364 (v := 3) dX9_nextToken_363 (by decide) rfl ?_
                  refine Ex_goto 368 dX9_nextToken_364 (by decide) ?_
                  refine Ex_pI 371 (va_up (va_up (va_up (J m) 5 (nI (hmEnd hmSpc T p))) 8 0) 4 (nI ((hmEnd hmSpc T p) + 1))) (va_up J m (va_up (va_up (va_up (va_up (J m) 5 (nI (hmEnd hmSpc T p))) 8 0) 4 (nI ((hmEnd hmSpc T p) + 1))) 6 3)) dX9_nextToken_368 fX9_154 rfl (xMs_0 hm) rfl (fun _ => rfl) (va_up_self _ _ _) rfl (va_up_up _ _ _ _) rfl ?_
                  refine Ex_ret0 dX9_nextToken_371 rfl (Or.inl rfl) ?_
                  have nlet : hmLet (T.getD (hmEnd hmSpc T p) 0) = false := by
                    cases e : hmLet (T.getD (hmEnd hmSpc T p) 0) with
                    | false => rfl
                    | true => exact absurd ((hm_let tb).mp e).2 (Int32.not_le.mpr c21)
                  have ndig : hmDig (T.getD (hmEnd hmSpc T p) 0) = false := by
                    cases e : hmDig (T.getD (hmEnd hmSpc T p) 0) with
                    | false => rfl
                    | true => exact absurd ((hm_dig tb).mp e).2 (Int32.not_le.mpr c31)
                  have hx := hmLx_sgn hlt nlet ndig
                  have gE : hmNf m I (va_up J m (va_up (va_up (va_up (va_up (J m) 5 (nI (hmEnd hmSpc T p))) 8 0) 4 (nI ((hmEnd hmSpc T p) + 1))) 6 3)) := by
                    rw [← va_up_up J m (va_up (va_up (va_up (J m) 5 (nI (hmEnd hmSpc T p))) 8 0) 4 (nI ((hmEnd hmSpc T p) + 1)))]
                    refine hmNf.up ?_ (va_up_self _ _ _) (Or.inr (Or.inr (Or.inl rfl)))
                    rw [← va_up_up J m (va_up (va_up (J m) 5 (nI (hmEnd hmSpc T p))) 8 0)]
                    exact gB.up (va_up_self _ _ _) (Or.inl rfl)
                  have hs8 : hmSg8 (T.getD (hmEnd hmSpc T p) 0) = true := (hm_sg8_ref _ tb).mpr (Or.inr (Or.inl c37))
                  refine hQ _ _ gE (hmNl.rf.up rfl) (hmAm_mk hts (hT.nf gE) ?_ ?_ (fun q => ?_) (fun q => ?_) ?_)
                  · rw [hx, va_up_self, va_up_ne _ _ (by omega), va_up_ne _ _ (by omega), va_up_ne _ _ (by omega), va_up_self]
                  · rw [hx, va_up_self, va_up_self]
                    show _ = nI (hmTcd (if hmSg8 (T.getD (hmEnd hmSpc T p) 0) = true then 4 else 1))
                    rw [if_pos hs8]
                    rfl
                  · rw [hx] at q
                    simp only [if_pos hs8] at q
                    exact absurd q (by decide)
                  · rw [hx] at q
                    simp only [if_pos hs8] at q
                    exact absurd q (by decide)
                  · rw [hx, va_up_self, va_up_ne _ _ (by omega), va_up_self]
                · refine Ex_iload_n 352 (i := 1) dX9_nextToken_351 rfl rfl rfl ?_
                  refine Ex_bipush 354 (v := 59) dX9_nextToken_352 (by decide) rfl ?_
                  refine Ex_icmp_lt 357 367 dX9_nextToken_354 (by decide) rfl (fun c38 => ?_) (fun c38 => ?_)
                  · refine Ex_iconst 368 (v := 4) dX9_nextToken_367 (by decide) rfl ?_
                    refine Ex_pI 371 (va_up (va_up (va_up (J m) 5 (nI (hmEnd hmSpc T p))) 8 0) 4 (nI ((hmEnd hmSpc T p) + 1))) (va_up J m (va_up (va_up (va_up (va_up (J m) 5 (nI (hmEnd hmSpc T p))) 8 0) 4 (nI ((hmEnd hmSpc T p) + 1))) 6 4)) dX9_nextToken_368 fX9_154 rfl (xMs_0 hm) rfl (fun _ => rfl) (va_up_self _ _ _) rfl (va_up_up _ _ _ _) rfl ?_
                    refine Ex_ret0 dX9_nextToken_371 rfl (Or.inl rfl) ?_
                    have nlet : hmLet (T.getD (hmEnd hmSpc T p) 0) = false := by
                      cases e : hmLet (T.getD (hmEnd hmSpc T p) 0) with
                      | false => rfl
                      | true => exact absurd ((hm_let tb).mp e).2 (Int32.not_le.mpr c21)
                    have ndig : hmDig (T.getD (hmEnd hmSpc T p) 0) = false := by
                      cases e : hmDig (T.getD (hmEnd hmSpc T p) 0) with
                      | false => rfl
                      | true => exact absurd ((hm_dig tb).mp e).2 (Int32.not_le.mpr c31)
                    have hx := hmLx_sgn hlt nlet ndig
                    have gE : hmNf m I (va_up J m (va_up (va_up (va_up (va_up (J m) 5 (nI (hmEnd hmSpc T p))) 8 0) 4 (nI ((hmEnd hmSpc T p) + 1))) 6 4)) := by
                      rw [← va_up_up J m (va_up (va_up (va_up (J m) 5 (nI (hmEnd hmSpc T p))) 8 0) 4 (nI ((hmEnd hmSpc T p) + 1)))]
                      refine hmNf.up ?_ (va_up_self _ _ _) (Or.inr (Or.inr (Or.inl rfl)))
                      rw [← va_up_up J m (va_up (va_up (J m) 5 (nI (hmEnd hmSpc T p))) 8 0)]
                      exact gB.up (va_up_self _ _ _) (Or.inl rfl)
                    have hs8 : ¬ hmSg8 (T.getD (hmEnd hmSpc T p) 0) = true := fun q => by
                      rcases (hm_sg8_ref _ tb).mp q with z | z | z
                      · exact (fun z => c36 z.2) z
                      · exact c37 z
                      · exact (fun z => z.1 c38) z
                    refine hQ _ _ gE (hmNl.rf.up rfl) (hmAm_mk hts (hT.nf gE) ?_ ?_ (fun q => ?_) (fun q => ?_) ?_)
                    · rw [hx, va_up_self, va_up_ne _ _ (by omega), va_up_ne _ _ (by omega), va_up_ne _ _ (by omega), va_up_self]
                    · rw [hx, va_up_self, va_up_self]
                      show _ = nI (hmTcd (if hmSg8 (T.getD (hmEnd hmSpc T p) 0) = true then 4 else 1))
                      rw [if_neg hs8]
                      rfl
                    · rw [hx] at q
                      simp only [if_neg hs8] at q
                      exact absurd q (by decide)
                    · rw [hx] at q
                      simp only [if_neg hs8] at q
                      exact absurd q (by decide)
                    · rw [hx, va_up_self, va_up_ne _ _ (by omega), va_up_self]
                  · refine Ex_iload_n 358 (i := 1) dX9_nextToken_357 rfl rfl rfl ?_
                    refine Ex_bipush 360 (v := 61) dX9_nextToken_358 (by decide) rfl ?_
                    refine Ex_icmp_gt 363 367 dX9_nextToken_360 (by decide) rfl (fun c39 => ?_) (fun c39 => ?_)
                    · refine Ex_iconst 368 (v := 4) dX9_nextToken_367 (by decide) rfl ?_
                      refine Ex_pI 371 (va_up (va_up (va_up (J m) 5 (nI (hmEnd hmSpc T p))) 8 0) 4 (nI ((hmEnd hmSpc T p) + 1))) (va_up J m (va_up (va_up (va_up (va_up (J m) 5 (nI (hmEnd hmSpc T p))) 8 0) 4 (nI ((hmEnd hmSpc T p) + 1))) 6 4)) dX9_nextToken_368 fX9_154 rfl (xMs_0 hm) rfl (fun _ => rfl) (va_up_self _ _ _) rfl (va_up_up _ _ _ _) rfl ?_
                      refine Ex_ret0 dX9_nextToken_371 rfl (Or.inl rfl) ?_
                      have nlet : hmLet (T.getD (hmEnd hmSpc T p) 0) = false := by
                        cases e : hmLet (T.getD (hmEnd hmSpc T p) 0) with
                        | false => rfl
                        | true => exact absurd ((hm_let tb).mp e).2 (Int32.not_le.mpr c21)
                      have ndig : hmDig (T.getD (hmEnd hmSpc T p) 0) = false := by
                        cases e : hmDig (T.getD (hmEnd hmSpc T p) 0) with
                        | false => rfl
                        | true => exact absurd ((hm_dig tb).mp e).2 (Int32.not_le.mpr c31)
                      have hx := hmLx_sgn hlt nlet ndig
                      have gE : hmNf m I (va_up J m (va_up (va_up (va_up (va_up (J m) 5 (nI (hmEnd hmSpc T p))) 8 0) 4 (nI ((hmEnd hmSpc T p) + 1))) 6 4)) := by
                        rw [← va_up_up J m (va_up (va_up (va_up (J m) 5 (nI (hmEnd hmSpc T p))) 8 0) 4 (nI ((hmEnd hmSpc T p) + 1)))]
                        refine hmNf.up ?_ (va_up_self _ _ _) (Or.inr (Or.inr (Or.inl rfl)))
                        rw [← va_up_up J m (va_up (va_up (J m) 5 (nI (hmEnd hmSpc T p))) 8 0)]
                        exact gB.up (va_up_self _ _ _) (Or.inl rfl)
                      have hs8 : ¬ hmSg8 (T.getD (hmEnd hmSpc T p) 0) = true := fun q => by
                        rcases (hm_sg8_ref _ tb).mp q with z | z | z
                        · exact (fun z => c36 z.2) z
                        · exact c37 z
                        · exact (fun z => z.2 c39) z
                      refine hQ _ _ gE (hmNl.rf.up rfl) (hmAm_mk hts (hT.nf gE) ?_ ?_ (fun q => ?_) (fun q => ?_) ?_)
                      · rw [hx, va_up_self, va_up_ne _ _ (by omega), va_up_ne _ _ (by omega), va_up_ne _ _ (by omega), va_up_self]
                      · rw [hx, va_up_self, va_up_self]
                        show _ = nI (hmTcd (if hmSg8 (T.getD (hmEnd hmSpc T p) 0) = true then 4 else 1))
                        rw [if_neg hs8]
                        rfl
                      · rw [hx] at q
                        simp only [if_neg hs8] at q
                        exact absurd q (by decide)
                      · rw [hx] at q
                        simp only [if_neg hs8] at q
                        exact absurd q (by decide)
                      · rw [hx, va_up_self, va_up_ne _ _ (by omega), va_up_self]
                    · refine Ex_iconst 364 (v := 3) dX9_nextToken_363 (by decide) rfl ?_
                      refine Ex_goto 368 dX9_nextToken_364 (by decide) ?_
                      refine Ex_pI 371 (va_up (va_up (va_up (J m) 5 (nI (hmEnd hmSpc T p))) 8 0) 4 (nI ((hmEnd hmSpc T p) + 1))) (va_up J m (va_up (va_up (va_up (va_up (J m) 5 (nI (hmEnd hmSpc T p))) 8 0) 4 (nI ((hmEnd hmSpc T p) + 1))) 6 3)) dX9_nextToken_368 fX9_154 rfl (xMs_0 hm) rfl (fun _ => rfl) (va_up_self _ _ _) rfl (va_up_up _ _ _ _) rfl ?_
                      refine Ex_ret0 dX9_nextToken_371 rfl (Or.inl rfl) ?_
                      have nlet : hmLet (T.getD (hmEnd hmSpc T p) 0) = false := by
                        cases e : hmLet (T.getD (hmEnd hmSpc T p) 0) with
                        | false => rfl
                        | true => exact absurd ((hm_let tb).mp e).2 (Int32.not_le.mpr c21)
                      have ndig : hmDig (T.getD (hmEnd hmSpc T p) 0) = false := by
                        cases e : hmDig (T.getD (hmEnd hmSpc T p) 0) with
                        | false => rfl
                        | true => exact absurd ((hm_dig tb).mp e).2 (Int32.not_le.mpr c31)
                      have hx := hmLx_sgn hlt nlet ndig
                      have gE : hmNf m I (va_up J m (va_up (va_up (va_up (va_up (J m) 5 (nI (hmEnd hmSpc T p))) 8 0) 4 (nI ((hmEnd hmSpc T p) + 1))) 6 3)) := by
                        rw [← va_up_up J m (va_up (va_up (va_up (J m) 5 (nI (hmEnd hmSpc T p))) 8 0) 4 (nI ((hmEnd hmSpc T p) + 1)))]
                        refine hmNf.up ?_ (va_up_self _ _ _) (Or.inr (Or.inr (Or.inl rfl)))
                        rw [← va_up_up J m (va_up (va_up (J m) 5 (nI (hmEnd hmSpc T p))) 8 0)]
                        exact gB.up (va_up_self _ _ _) (Or.inl rfl)
                      have hs8 : hmSg8 (T.getD (hmEnd hmSpc T p) 0) = true := (hm_sg8_ref _ tb).mpr (Or.inr (Or.inr ⟨c38, c39⟩))
                      refine hQ _ _ gE (hmNl.rf.up rfl) (hmAm_mk hts (hT.nf gE) ?_ ?_ (fun q => ?_) (fun q => ?_) ?_)
                      · rw [hx, va_up_self, va_up_ne _ _ (by omega), va_up_ne _ _ (by omega), va_up_ne _ _ (by omega), va_up_self]
                      · rw [hx, va_up_self, va_up_self]
                        show _ = nI (hmTcd (if hmSg8 (T.getD (hmEnd hmSpc T p) 0) = true then 4 else 1))
                        rw [if_pos hs8]
                        rfl
                      · rw [hx] at q
                        simp only [if_pos hs8] at q
                        exact absurd q (by decide)
                      · rw [hx] at q
                        simp only [if_pos hs8] at q
                        exact absurd q (by decide)
                      · rw [hx, va_up_self, va_up_ne _ _ (by omega), va_up_self]
          · refine Ex_fgt (ls' := [some (.ref m), none]) (by simp [xsub]) ?_
            have nlet : hmLet (T.getD (hmEnd hmSpc T p) 0) = false := by
              cases e : hmLet (T.getD (hmEnd hmSpc T p) 0) with
              | false => rfl
              | true => exact absurd ((hm_let tb).mp e).2 (Int32.not_le.mpr c21)
            have ydig : hmDig (T.getD (hmEnd hmSpc T p) 0) = true := (hm_dig tb).mpr ⟨Int32.not_lt.mp c22, Int32.not_lt.mp c31⟩
            have hx := hmLx_num hlt nlet ydig
            have hcl : hmEnd hmDig T (hmEnd hmSpc T p) - (hmEnd hmSpc T p) = (hmCut hmDig T (hmEnd hmSpc T p)).length := by unfold hmEnd; omega
            refine mc_next_num hm hT hc (pl := (hmEnd hmSpc T p)) (T.length - (hmEnd hmSpc T p)) (hmEnd hmSpc T p) 0 _ _ (by omega) (Nat.le_refl _) gB (hmNl.rf.up rfl) (by rw [va_up_self, va_up_ne _ _ (by omega), va_up_ne _ _ (by omega)]; exact j4) (by rw [va_up_self, va_up_ne _ _ (by omega), va_up_self]) (fun _ => by rw [va_up_self, va_up_self]) (fun I1 L1 k1 k2 k3 k4 k5 k6 => hQ I1 L1 k1 k2 (hmAm_mk hts (hT.nf k1) ?_ ?_ (fun q => ?_) (fun q => ?_) ?_))
            · rw [hx, k4]
            · rw [hx, k6, hcl]
              show nI _ = nI (hmTcd (if (hmCut hmDig T (hmEnd hmSpc T p)).length ≤ 4 then 3 else 1))
              by_cases c : (hmCut hmDig T (hmEnd hmSpc T p)).length ≤ 4
              · rw [if_pos c, if_pos c]
                rfl
              · rw [if_neg c, if_neg c]
                rfl
            · rw [hx] at q
              by_cases c : (hmCut hmDig T (hmEnd hmSpc T p)).length ≤ 4
              · simp only [if_pos c] at q
                exact absurd q (by decide)
              · simp only [if_neg c] at q
                exact absurd q (by decide)
            · rw [hx] at q ⊢
              by_cases c : (hmCut hmDig T (hmEnd hmSpc T p)).length ≤ 4
              · rw [k5 (by omega)]
                exact hm_dec32 _ 0 (fun x hx => of_decide_eq_true (hmCut_all x hx))
              · simp only [if_neg c] at q
                exact absurd q (by decide)
            · rw [hx, k3]
      · refine Ex_fgt (ls' := [some (.ref m), none]) (by simp [xsub]) ?_
        have ylet : hmLet (T.getD (hmEnd hmSpc T p) 0) = true := (hm_let tb).mpr ⟨Int32.not_lt.mp c2, Int32.not_lt.mp c21⟩
        have hx := hmLx_word hlt ylet
        have hcl : hmEnd hmLet T (hmEnd hmSpc T p) - (hmEnd hmSpc T p) = (hmCut hmLet T (hmEnd hmSpc T p)).length := by unfold hmEnd; omega
        refine mc_next_word hm hT hc (pl := (hmEnd hmSpc T p)) (T.length - (hmEnd hmSpc T p)) (hmEnd hmSpc T p) 0 _ _ (by omega) (Nat.le_refl _) gB (hmNl.rf.up rfl) (by rw [va_up_self, va_up_ne _ _ (by omega), va_up_ne _ _ (by omega)]; exact j4) (by rw [va_up_self, va_up_ne _ _ (by omega), va_up_self]) (fun _ => by rw [va_up_self, va_up_self]) (fun I1 L1 k1 k2 k3 k4 k5 k6 => hQ I1 L1 k1 k2 (hmAm_mk hts (hT.nf k1) ?_ ?_ (fun q => ?_) (fun q => ?_) ?_))
        · rw [hx, k4]
        · rw [hx, k6, hcl]
          show nI _ = nI (hmTcd (if (hmCut hmLet T (hmEnd hmSpc T p)).length ≤ 8 then 2 else 1))
          by_cases c : (hmCut hmLet T (hmEnd hmSpc T p)).length ≤ 8
          · rw [if_pos c, if_pos c]
            rfl
          · rw [if_neg c, if_neg c]
            rfl
        · rw [hx] at q ⊢
          by_cases c : (hmCut hmLet T (hmEnd hmSpc T p)).length ≤ 8
          · exact k5 (by omega)
          · simp only [if_neg c] at q
            exact absurd q (by decide)
        · rw [hx] at q
          by_cases c : (hmCut hmLet T (hmEnd hmSpc T p)).length ≤ 8
          · simp only [if_pos c] at q
            exact absurd q (by decide)
          · simp only [if_neg c] at q
            exact absurd q (by decide)
        · rw [hx, k3]
  · refine Ex_aload_n 82 (i := 0) dX9_nextToken_81 rfl rfl rfl ?_
    refine Ex_iconst 83 (v := 0) dX9_nextToken_82 (by decide) rfl ?_
    refine Ex_pI 86 (va_up (va_up (J m) 5 (nI (hmEnd hmSpc T p))) 8 0) (va_up J m (va_up (va_up (va_up (J m) 5 (nI (hmEnd hmSpc T p))) 8 0) 6 0)) dX9_nextToken_83 fX9_154 rfl (xMs_0 hm) rfl (fun _ => rfl) (va_up_self _ _ _) rfl (va_up_up _ _ _ _) rfl ?_
    refine Ex_ret0 dX9_nextToken_86 rfl (Or.inl rfl) ?_
    have hge : (hmEnd hmSpc T p) = T.length := (nI_eq (by omega) (by omega)).mp c1
    have hx := hmLx_fin (T := T) (p := p) (by omega)
    have gE : hmNf m I (va_up J m (va_up (va_up (va_up (J m) 5 (nI (hmEnd hmSpc T p))) 8 0) 6 0)) := by
      rw [← va_up_up J m (va_up (va_up (J m) 5 (nI (hmEnd hmSpc T p))) 8 0)]
      exact gB.up (va_up_self _ _ _) (Or.inr (Or.inr (Or.inl rfl)))
    refine hQ _ _ gE (hmNl.rf.up rfl) (hmAm_mk hts (hT.nf gE) ?_ ?_ (fun q => ?_) (fun q => ?_) ?_)
    · rw [hx, va_up_self, va_up_ne _ _ (by omega), va_up_ne _ _ (by omega), va_up_self]
    · rw [hx, va_up_self, va_up_self]
      rfl
    · rw [hx] at q
      exact absurd (show (0 : Nat) = 2 from q) (by decide)
    · rw [hx] at q
      exact absurd (show (0 : Nat) = 3 from q) (by decide)
    · rw [hx, va_up_self, va_up_ne _ _ (by omega), va_up_ne _ _ (by omega), va_up_ne _ _ (by omega)]
      exact j4
