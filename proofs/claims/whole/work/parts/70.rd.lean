/-- the reader's tape stands at a token -/
def hmCx (I : xI) (L : xL) (a : Nat) (T : List Nat) (t : hmTok) (r : List hmTok) : Prop := hmTp I (a + 1) T ∧ hmAt I L (a + 1) T t r
theorem xR_t {sh : xSh} {R : xR} {a : Nat} (h : xReader sh R a) : xTape sh R (a + 1) := ⟨h.2.1, h.2.2.1, h.2.2.2.2⟩
theorem hmCx.kept {I I' : xI} {L L' : xL} {a : Nat} {T : List Nat} {t : hmTok} {r : List hmTok} (h : hmCx I L a T t r) (e1 : I' (a + 1) = I (a + 1)) (e2 : I' (a + 2) = I (a + 2)) (e3 : L' (a + 1) = L (a + 1)) : hmCx I' L' a T t r := by
  refine ⟨⟨h.1.1, by rw [e1]; exact h.1.2.1, fun i hi => ?_⟩, h.2.kept e1 e3⟩
  show I' (a + 2) i = _
  rw [e2]
  exact h.1.2.2 i hi
/-- what reading tokens may change -/
def hmTf (a : Nat) (I I' : xI) : Prop := (∀ x, x ≠ a → x ≠ a + 1 → I' x = I x) ∧ I' (a + 1) 1 = I (a + 1) 1 ∧ ∀ k, k ≠ 1 → k ≠ 2 → I' a k = I a k
theorem hmTf.rf {a : Nat} {I : xI} : hmTf a I I := ⟨fun _ _ _ => rfl, rfl, fun _ _ _ => rfl⟩
theorem hmTf.tr {a : Nat} {I J K : xI} (h1 : hmTf a I J) (h2 : hmTf a J K) : hmTf a I K := ⟨fun x p q => (h2.1 x p q).trans (h1.1 x p q), h2.2.1.trans h1.2.1, fun k p q => (h2.2.2 k p q).trans (h1.2.2 k p q)⟩
theorem hmTf.sp {a : Nat} {I J : xI} (h : hmSp (a + 1) I J) : hmTf a I J := ⟨fun x _ q => h.1 x q, h.2 1 (by omega) (by omega) (by omega), fun k _ _ => by rw [h.1 a (by omega)]⟩
theorem hmTf.up {a : Nat} {I : xI} {k : Nat} {v : Int32} (hk : k = 1 ∨ k = 2) : hmTf a I (va_up I a (va_up (I a) k v)) := ⟨fun x p _ => va_up_ne _ _ p, by rw [va_up_ne _ _ (by omega)], fun q p1 p2 => by rw [va_up_self, va_up_ne _ _ (by omega)]⟩
theorem hmCx_next {I : xI} {L : xL} {a : Nat} {T : List Nat} {t : hmTok} {r : List hmTok} (h : hmCx I L a T t r) (ht : ¬ t.1 = 0) : ∃ t' r' q, r = t' :: r' ∧ I (a + 1) 5 = nI q ∧ hmTsR T (t' :: r') q := by
  obtain ⟨q, h5, h6⟩ := h.2.2.2.2.2.1 ht
  cases r with
  | nil => exact absurd h6 (by simp [hmTsR])
  | cons t' r' => exact ⟨t', r', q, rfl, h5, h6⟩
/-- the fault k at a token -/
def hmFl (k : Nat) (t : hmTok) : Nat := k + 16 * t.2.2
set_option maxHeartbeats 4000000 in
theorem c_rstep {d : Nat} {sh : xSh} {R : xR} {L : xL} {I : xI} {Q : xQ} {a : Nat} {T : List Nat} {t : hmTok} {r : List hmTok} (ha : xReader sh R a) (hc : ∀ x, x ∈ T → x < 127) (hC : hmCx I L a T t r) (ht : ¬ t.1 = 0) (hQ : ∀ t' r' I' L', r = t' :: r' → hmSp (a + 1) I I' → hmSl (a + 1) L L' → hmCx I' L' a T t' r' → Q none 0 sh R L' I') : Ex (d + 5) 0 0 MX7_step 0 sh R L I 0 [some (.ref (a + 1)), none] [] Q := by
  obtain ⟨t', r', q, e, h5, h6⟩ := hmCx_next hC ht
  exact c_step (xR_t ha) hC.1 hc h5 h6 (fun I' L' g1 g2 g3 => hQ t' r' I' L' e g1 g2 ⟨hC.1.sp g1, g3⟩)
theorem hm_addN (a b : Nat) : nI a + nI b = nI (a + b) := (Int32.ofNat_add a b).symm
set_option maxHeartbeats 4000000 in
theorem c_fail {d : Nat} {sh : xSh} {R : xR} {L : xL} {I : xI} {Q : xQ} {a : Nat} {T : List Nat} {t : hmTok} {r : List hmTok} (ha : xReader sh R a) (hC : hmCx I L a T t r) {k : Nat} (hQ : Q (some (.int 0)) 0 sh R L (va_up I a (va_up (I a) 1 (nI (hmFl k t))))) : Ex d 0 0 MX5_fail 0 sh R L I 0 [some (.ref a), some (.int (nI k))] [] Q := by
  obtain ⟨s2, s3, sv, s0, s5, sk, sp⟩ := id hC.2
  refine Ex_aload_n 1 (i := 0) dX5_fail_0 rfl rfl rfl ?_
  refine Ex_iload_n 2 (i := 1) dX5_fail_1 rfl rfl rfl ?_
  refine Ex_bipush 4 (v := 16) dX5_fail_2 (by decide) rfl ?_
  refine Ex_aload_n 5 (i := 0) dX5_fail_4 rfl rfl rfl ?_
  refine Ex_getR 8 dX5_fail_5 fX5_12 ha.1 rfl ha.2.2.2.1 rfl ?_
  refine Ex_gI 11 (I (a + 1) 3) dX5_fail_8 fX5_54 ha.2.1 rfl rfl rfl ?_
  rw [s3]
  refine Ex_imul 12 dX5_fail_11 rfl ?_
  rw [show (16 : Int32) = nI 16 from rfl, pk_mul]
  refine Ex_iadd 13 dX5_fail_12 rfl ?_
  rw [hm_addN]
  refine Ex_pI 16 (I a) (va_up I a (va_up (I a) 1 (nI (hmFl k t)))) dX5_fail_13 fX5_30 rfl ha.1 rfl (fun _ => rfl) rfl rfl rfl rfl ?_
  refine Ex_iconst 17 (v := 0) dX5_fail_16 (by decide) rfl ?_
  refine Ex_iret dX5_fail_17 rfl (by decide) (Or.inl rfl) ?_
  exact hQ
set_option maxHeartbeats 4000000 in
theorem c_passWord {d : Nat} {sh : xSh} {R : xR} {L : xL} {I : xI} {Q : xQ} {a : Nat} {T : List Nat} {t : hmTok} {r : List hmTok} (ha : xReader sh R a) (hc : ∀ x, x ∈ T → x < 127) (hC : hmCx I L a T t r) {wv : Int64} {l : List Nat} (hw : wv = hmE256 l) (hl : hmWd l) (hF : hmIsW t l = false → Q (some (.int 0)) 0 sh R L (va_up I a (va_up (I a) 1 (nI (hmFl 1 t))))) (hQ : hmIsW t l = true → ∀ t' r' I' L', r = t' :: r' → hmSp (a + 1) I I' → hmSl (a + 1) L L' → hmCx I' L' a T t' r' → Q (some (.int 1)) 0 sh R L' I') : Ex (d + 6) 0 0 MX5_passWord 0 sh R L I 0 [some (.ref a), some (.long wv), none] [] Q := by
  refine Ex_aload_n 1 (i := 0) dX5_passWord_0 rfl rfl rfl ?_
  refine Ex_getR 4 dX5_passWord_1 fX5_12 ha.1 rfl ha.2.2.2.1 rfl ?_
  refine Ex_lload_n 5 (i := 1) dX5_passWord_4 rfl rfl rfl ?_
  refine Ex_callV (M' := MX7_isWord) 8 [.long wv] (rest := []) dX5_passWord_5 lX5_57 mX7_isWord rfl ha.2.1 rfl (Nat.le_of_ble_eq_true rfl) (Nat.le_of_ble_eq_true rfl) rfl ?_
  refine c_isWord (xR_t ha) hC.2 hw hl ?_
  simp only [Option.toList, List.cons_append, List.nil_append]
  refine Ex_if_ne 11 17 dX5_passWord_8 (by decide) rfl (fun c1 => ?_) (fun c1 => ?_)
  · refine Ex_aload_n 18 (i := 0) dX5_passWord_17 rfl rfl rfl ?_
    refine Ex_getR 21 dX5_passWord_18 fX5_12 ha.1 rfl ha.2.2.2.1 rfl ?_
    refine Ex_callV (M' := MX7_step) 24 [] (rest := []) dX5_passWord_21 lX5_65 mX7_step rfl ha.2.1 rfl (Nat.le_of_ble_eq_true rfl) (Nat.le_of_ble_eq_true rfl) rfl ?_
    refine c_rstep ha hc hC (fun q => by have h := hmB_ne c1; simp [hmIsW, q] at h) (fun t' r' I1 L1 er g1 g2 hC1 => ?_)
    simp only [Option.toList, List.nil_append, List.cons_append]
    refine Ex_iconst 25 (v := 1) dX5_passWord_24 (by decide) rfl ?_
    refine Ex_iret dX5_passWord_25 rfl (by decide) (Or.inl rfl) ?_
    exact hQ (hmB_ne c1) t' r' I1 L1 er g1 g2 hC1
  · refine Ex_aload_n 12 (i := 0) dX5_passWord_11 rfl rfl rfl ?_
    refine Ex_iconst 13 (v := 1) dX5_passWord_12 (by decide) rfl ?_
    refine Ex_callV (M' := MX5_fail) 16 [.int 1] (rest := []) dX5_passWord_13 lX5_61 mX5_fail rfl ha.1 rfl (Nat.le_of_ble_eq_true rfl) (Nat.le_of_ble_eq_true rfl) rfl ?_
    refine c_fail (k := 1) ha hC ?_
    simp only [Option.toList, List.nil_append, List.cons_append]
    refine Ex_iret dX5_passWord_16 rfl (by decide) (Or.inl rfl) ?_
    exact hF (hmB_eq c1)
set_option maxHeartbeats 4000000 in
theorem c_passSign {d : Nat} {sh : xSh} {R : xR} {L : xL} {I : xI} {Q : xQ} {a : Nat} {T : List Nat} {t : hmTok} {r : List hmTok} (ha : xReader sh R a) (hc : ∀ x, x ∈ T → x < 127) (hC : hmCx I L a T t r) {c : Nat} (hcc : c < 128) (hF : hmIsS t c = false → Q (some (.int 0)) 0 sh R L (va_up I a (va_up (I a) 1 (nI (hmFl 1 t))))) (hQ : hmIsS t c = true → ∀ t' r' I' L', r = t' :: r' → hmSp (a + 1) I I' → hmSl (a + 1) L L' → hmCx I' L' a T t' r' → Q (some (.int 1)) 0 sh R L' I') : Ex (d + 6) 0 0 MX5_passSign 0 sh R L I 0 [some (.ref a), some (.int (nI c))] [] Q := by
  refine Ex_aload_n 1 (i := 0) dX5_passSign_0 rfl rfl rfl ?_
  refine Ex_getR 4 dX5_passSign_1 fX5_12 ha.1 rfl ha.2.2.2.1 rfl ?_
  refine Ex_iload_n 5 (i := 1) dX5_passSign_4 rfl rfl rfl ?_
  refine Ex_callV (M' := MX7_isSign) 8 [.int (nI c)] (rest := []) dX5_passSign_5 lX5_68 mX7_isSign rfl ha.2.1 rfl (Nat.le_of_ble_eq_true rfl) (Nat.le_of_ble_eq_true rfl) rfl ?_
  refine c_isSign (xR_t ha) hC.2 hcc ?_
  simp only [Option.toList, List.cons_append, List.nil_append]
  refine Ex_if_ne 11 17 dX5_passSign_8 (by decide) rfl (fun c1 => ?_) (fun c1 => ?_)
  · refine Ex_aload_n 18 (i := 0) dX5_passSign_17 rfl rfl rfl ?_
    refine Ex_getR 21 dX5_passSign_18 fX5_12 ha.1 rfl ha.2.2.2.1 rfl ?_
    refine Ex_callV (M' := MX7_step) 24 [] (rest := []) dX5_passSign_21 lX5_65 mX7_step rfl ha.2.1 rfl (Nat.le_of_ble_eq_true rfl) (Nat.le_of_ble_eq_true rfl) rfl ?_
    refine c_rstep ha hc hC (fun q => by have h := hmB_ne c1; simp [hmIsS, q] at h) (fun t' r' I1 L1 er g1 g2 hC1 => ?_)
    simp only [Option.toList, List.nil_append, List.cons_append]
    refine Ex_iconst 25 (v := 1) dX5_passSign_24 (by decide) rfl ?_
    refine Ex_iret dX5_passSign_25 rfl (by decide) (Or.inl rfl) ?_
    exact hQ (hmB_ne c1) t' r' I1 L1 er g1 g2 hC1
  · refine Ex_aload_n 12 (i := 0) dX5_passSign_11 rfl rfl rfl ?_
    refine Ex_iconst 13 (v := 1) dX5_passSign_12 (by decide) rfl ?_
    refine Ex_callV (M' := MX5_fail) 16 [.int 1] (rest := []) dX5_passSign_13 lX5_61 mX5_fail rfl ha.1 rfl (Nat.le_of_ble_eq_true rfl) (Nat.le_of_ble_eq_true rfl) rfl ?_
    refine c_fail (k := 1) ha hC ?_
    simp only [Option.toList, List.nil_append, List.cons_append]
    refine Ex_iret dX5_passSign_16 rfl (by decide) (Or.inl rfl) ?_
    exact hF (hmB_eq c1)
theorem hm_lglt {x y : Int64} : (lg_cmp x y < 0 ↔ x < y) := by
  unfold lg_cmp
  by_cases h1 : y < x
  · rw [if_pos h1]
    exact ⟨fun q => absurd q (by decide), fun q => absurd (Int64.lt_trans h1 q) (fun z => Int64.lt_irrefl z)⟩
  · rw [if_neg h1]
    by_cases h2 : x = y
    · rw [if_pos h2]
      exact ⟨fun q => absurd q (by decide), fun q => by rw [h2] at q; exact absurd q (fun z => Int64.lt_irrefl z)⟩
    · rw [if_neg h2]
      exact ⟨fun _ => Int64.lt_of_le_of_ne (Int64.not_lt.mp h1) h2, fun _ => by decide⟩
theorem hm_lgle {x y : Int64} : (lg_cmp x y ≤ 0 ↔ ¬ y < x) := by
  unfold lg_cmp
  by_cases h1 : y < x
  · rw [if_pos h1]
    exact ⟨fun q => absurd q (by decide), fun q => absurd h1 q⟩
  · rw [if_neg h1]
    by_cases h2 : x = y
    · rw [if_pos h2]
      exact ⟨fun _ => h1, fun _ => by decide⟩
    · rw [if_neg h2]
      exact ⟨fun _ => h1, fun _ => by decide⟩
theorem nL_lt {x y : Nat} (hx : x < 2 ^ 63) (hy : y < 2 ^ 63) : (nL x < nL y ↔ x < y) := by
  rw [Int64.lt_iff_toInt_lt, nL_toInt hx, nL_toInt hy]
  omega
set_option maxHeartbeats 4000000 in
theorem c_passNumber {d : Nat} {sh : xSh} {R : xR} {L : xL} {I : xI} {Q : xQ} {a : Nat} {T : List Nat} {t : hmTok} {r : List hmTok} (ha : xReader sh R a) (hc : ∀ x, x ∈ T → x < 127) (hC : hmCx I L a T t r) {lo hi : Nat} (hlo : lo < 10000) (hhi : hi < 10000) (hF1 : ¬ t.1 = 3 → Q (some (.int 0)) 0 sh R L (va_up I a (va_up (I a) 1 (nI (hmFl 1 t))))) (hF4 : t.1 = 3 → (hmDec t.2.1 < lo ∨ hi < hmDec t.2.1) → Q (some (.int 0)) 0 sh R L (va_up I a (va_up (I a) 1 (nI (hmFl 4 t))))) (hQ : t.1 = 3 → lo ≤ hmDec t.2.1 → hmDec t.2.1 ≤ hi → ∀ t' r' I' L', r = t' :: r' → hmTf a I I' → I' a 2 = nI (hmDec t.2.1) → I' a 1 = I a 1 → hmSl (a + 1) L L' → hmCx I' L' a T t' r' → Q (some (.int 1)) 0 sh R L' I') : Ex (d + 6) 0 0 MX5_passNumber 0 sh R L I 0 [some (.ref a), some (.int (nI lo)), some (.int (nI hi))] [] Q := by
  obtain ⟨s2, s3, sv, s0, s5, sk, sp⟩ := id hC.2
  have k4 := sk.2.2.2
  refine Ex_aload_n 1 (i := 0) dX5_passNumber_0 rfl rfl rfl ?_
  refine Ex_getR 4 dX5_passNumber_1 fX5_12 ha.1 rfl ha.2.2.2.1 rfl ?_
  refine Ex_gI 7 (I (a + 1) 2) dX5_passNumber_4 fX5_37 ha.2.1 rfl rfl rfl ?_
  rw [s2]
  refine Ex_iconst 8 (v := 3) dX5_passNumber_7 (by decide) rfl ?_
  refine Ex_icmp_eq 11 17 dX5_passNumber_8 (by decide) rfl (fun c1 => ?_) (fun c1 => ?_)
  · have t3 : t.1 = 3 := (nI_eq (by omega) (by omega)).mp c1
    have hv := sv.2.1 t3
    have hd4 := sk.2.1 t3
    refine Ex_aload_n 18 (i := 0) dX5_passNumber_17 rfl rfl rfl ?_
    refine Ex_getR 21 dX5_passNumber_18 fX5_12 ha.1 rfl ha.2.2.2.1 rfl ?_
    refine Ex_gL 24 (L (a + 1) 4) dX5_passNumber_21 fX5_72 ha.2.1 rfl rfl ?_
    rw [hv]
    refine Ex_iload_n 25 (i := 1) dX5_passNumber_24 rfl rfl rfl ?_
    refine Ex_i2l 26 dX5_passNumber_25 rfl ?_
    rw [hm_i2l (by omega)]
    refine Ex_lcmp 27 dX5_passNumber_26 rfl ?_
    refine Ex_if_lt 30 43 dX5_passNumber_27 (by decide) rfl (fun c2 => ?_) (fun c2 => ?_)
    · refine Ex_aload_n 44 (i := 0) dX5_passNumber_43 rfl rfl rfl ?_
      refine Ex_iconst 45 (v := 4) dX5_passNumber_44 (by decide) rfl ?_
      refine Ex_callV (M' := MX5_fail) 48 [.int 4] (rest := []) dX5_passNumber_45 lX5_61 mX5_fail rfl ha.1 rfl (Nat.le_of_ble_eq_true rfl) (Nat.le_of_ble_eq_true rfl) rfl ?_
      refine c_fail (k := 4) ha hC ?_
      simp only [Option.toList, List.nil_append, List.cons_append]
      refine Ex_iret dX5_passNumber_48 rfl (by decide) (Or.inl rfl) ?_
      exact hF4 t3 (Or.inl ((nL_lt (by omega) (by omega)).mp (hm_lglt.mp c2)))
    · refine Ex_aload_n 31 (i := 0) dX5_passNumber_30 rfl rfl rfl ?_
      refine Ex_getR 34 dX5_passNumber_31 fX5_12 ha.1 rfl ha.2.2.2.1 rfl ?_
      refine Ex_gL 37 (L (a + 1) 4) dX5_passNumber_34 fX5_72 ha.2.1 rfl rfl ?_
      rw [hv]
      refine Ex_iload_n 38 (i := 2) dX5_passNumber_37 rfl rfl rfl ?_
      refine Ex_i2l 39 dX5_passNumber_38 rfl ?_
      rw [hm_i2l (by omega)]
      refine Ex_lcmp 40 dX5_passNumber_39 rfl ?_
      refine Ex_if_le 43 49 dX5_passNumber_40 (by decide) rfl (fun c3 => ?_) (fun c3 => ?_)
      · refine Ex_aload_n 50 (i := 0) dX5_passNumber_49 rfl rfl rfl ?_
        refine Ex_aload_n 51 (i := 0) dX5_passNumber_50 rfl rfl rfl ?_
        refine Ex_getR 54 dX5_passNumber_51 fX5_12 ha.1 rfl ha.2.2.2.1 rfl ?_
        refine Ex_gL 57 (L (a + 1) 4) dX5_passNumber_54 fX5_72 ha.2.1 rfl rfl ?_
        rw [hv]
        refine Ex_l2i 58 dX5_passNumber_57 rfl ?_
        rw [hm_l2i (by omega)]
        refine Ex_pI 61 (I a) (va_up I a (va_up (I a) 2 (nI (hmDec t.2.1)))) dX5_passNumber_58 fX5_76 rfl ha.1 rfl (fun _ => rfl) rfl rfl rfl rfl ?_
        have hC2 : hmCx (va_up I a (va_up (I a) 2 (nI (hmDec t.2.1)))) L a T t r := hC.kept (va_up_ne _ _ (by omega)) (va_up_ne _ _ (by omega)) rfl
        refine Ex_aload_n 62 (i := 0) dX5_passNumber_61 rfl rfl rfl ?_
        refine Ex_getR 65 dX5_passNumber_62 fX5_12 ha.1 rfl ha.2.2.2.1 rfl ?_
        refine Ex_callV (M' := MX7_step) 68 [] (rest := []) dX5_passNumber_65 lX5_65 mX7_step rfl ha.2.1 rfl (Nat.le_of_ble_eq_true rfl) (Nat.le_of_ble_eq_true rfl) rfl ?_
        refine c_rstep ha hc hC2 (by omega) (fun t' r' I1 L1 er g1 g2 hC1 => ?_)
        simp only [Option.toList, List.nil_append, List.cons_append]
        refine Ex_iconst 69 (v := 1) dX5_passNumber_68 (by decide) rfl ?_
        refine Ex_iret dX5_passNumber_69 rfl (by decide) (Or.inl rfl) ?_
        have q1 : ¬ hmDec t.2.1 < lo := fun q => c2 (hm_lglt.mpr ((nL_lt (by omega) (by omega)).mpr q))
        have q2 : ¬ hi < hmDec t.2.1 := fun q => hm_lgle.mp c3 ((nL_lt (by omega) (by omega)).mpr q)
        exact hQ t3 (by omega) (by omega) t' r' I1 L1 er ((hmTf.up (Or.inr rfl)).tr (hmTf.sp g1)) (by rw [g1.1 a (by omega), va_up_self, va_up_self]) (by rw [g1.1 a (by omega), va_up_self, va_up_ne _ _ (by omega)]) g2 hC1
      · refine Ex_aload_n 44 (i := 0) dX5_passNumber_43 rfl rfl rfl ?_
        refine Ex_iconst 45 (v := 4) dX5_passNumber_44 (by decide) rfl ?_
        refine Ex_callV (M' := MX5_fail) 48 [.int 4] (rest := []) dX5_passNumber_45 lX5_61 mX5_fail rfl ha.1 rfl (Nat.le_of_ble_eq_true rfl) (Nat.le_of_ble_eq_true rfl) rfl ?_
        refine c_fail (k := 4) ha hC ?_
        simp only [Option.toList, List.nil_append, List.cons_append]
        refine Ex_iret dX5_passNumber_48 rfl (by decide) (Or.inl rfl) ?_
        exact hF4 t3 (Or.inr ((nL_lt (by omega) (by omega)).mp (Classical.byContradiction (fun q => c3 (hm_lgle.mpr q)))))
  · refine Ex_aload_n 12 (i := 0) dX5_passNumber_11 rfl rfl rfl ?_
    refine Ex_iconst 13 (v := 1) dX5_passNumber_12 (by decide) rfl ?_
    refine Ex_callV (M' := MX5_fail) 16 [.int 1] (rest := []) dX5_passNumber_13 lX5_61 mX5_fail rfl ha.1 rfl (Nat.le_of_ble_eq_true rfl) (Nat.le_of_ble_eq_true rfl) rfl ?_
    refine c_fail (k := 1) ha hC ?_
    simp only [Option.toList, List.nil_append, List.cons_append]
    refine Ex_iret dX5_passNumber_16 rfl (by decide) (Or.inl rfl) ?_
    exact hF1 (fun q => c1 (by rw [q]; rfl))
set_option maxHeartbeats 4000000 in
theorem c_isJoin {d : Nat} {sh : xSh} {R : xR} {L : xL} {I : xI} {Q : xQ} {a : Nat} {T : List Nat} {t : hmTok} {r : List hmTok} (ha : xReader sh R a) (hC : hmCx I L a T t r) (hQ : Q (some (.int (hmB (decide (hmKd t = 10 ∨ hmKd t = 11))))) 0 sh R L I) : Ex (d + 1) 0 0 MX5_isJoin 0 sh R L I 0 [some (.ref a)] [] Q := by
  have kA := hm_kW (t := t) hC.2.2.2.2.2.2.1 (l := wAnd) (k := 10) (by decide) (by decide)
  have kO := hm_kW (t := t) hC.2.2.2.2.2.2.1 (l := wOr) (k := 11) (by decide) (by decide)
  refine Ex_aload_n 1 (i := 0) dX5_isJoin_0 rfl rfl rfl ?_
  refine Ex_getR 4 dX5_isJoin_1 fX5_12 ha.1 rfl ha.2.2.2.1 rfl ?_
  refine Ex_ldc2 7 (v := 6385252) dX5_isJoin_4 kX5_147 rfl ?_
  refine Ex_callV (M' := MX7_isWord) 10 [.long 6385252] (rest := []) dX5_isJoin_7 lX5_57 mX7_isWord rfl ha.2.1 rfl (Nat.le_of_ble_eq_true rfl) (Nat.le_of_ble_eq_true rfl) rfl ?_
  refine c_isWord (xR_t ha) hC.2 (l := wAnd) (by decide +kernel) (by unfold hmWd; decide) ?_
  simp only [Option.toList, List.cons_append, List.nil_append]
  refine Ex_if_ne 13 26 dX5_isJoin_10 (by decide) rfl (fun c1 => ?_) (fun c1 => ?_)
  · refine Ex_iconst 27 (v := 1) dX5_isJoin_26 (by decide) rfl ?_
    refine Ex_goto 31 dX5_isJoin_27 (by decide) ?_
    refine Ex_iret dX5_isJoin_31 rfl (by decide) (Or.inl rfl) ?_
    have e : hmB (decide (hmKd t = 10 ∨ hmKd t = 11)) = 1 := by
      have h := hmB_ne c1
      rw [kA] at h
      rw [hmB_1]
      exact decide_eq_true (Or.inl (of_decide_eq_true h))
    rw [← e]
    exact hQ
  · refine Ex_aload_n 14 (i := 0) dX5_isJoin_13 rfl rfl rfl ?_
    refine Ex_getR 17 dX5_isJoin_14 fX5_12 ha.1 rfl ha.2.2.2.1 rfl ?_
    refine Ex_ldc2 20 (v := 28530) dX5_isJoin_17 kX5_149 rfl ?_
    refine Ex_callV (M' := MX7_isWord) 23 [.long 28530] (rest := []) dX5_isJoin_20 lX5_57 mX7_isWord rfl ha.2.1 rfl (Nat.le_of_ble_eq_true rfl) (Nat.le_of_ble_eq_true rfl) rfl ?_
    refine c_isWord (xR_t ha) hC.2 (l := wOr) (by decide +kernel) (by unfold hmWd; decide) ?_
    simp only [Option.toList, List.cons_append, List.nil_append]
    refine Ex_if_eq 26 30 dX5_isJoin_23 (by decide) rfl (fun c2 => ?_) (fun c2 => ?_)
    · refine Ex_iconst 31 (v := 0) dX5_isJoin_30 (by decide) rfl ?_
      refine Ex_iret dX5_isJoin_31 rfl (by decide) (Or.inl rfl) ?_
      have e : hmB (decide (hmKd t = 10 ∨ hmKd t = 11)) = 0 := by
        have h := hmB_eq c1
        have h2 := hmB_eq c2
        rw [kA] at h
        rw [kO] at h2
        rw [hmB_0]
        exact decide_eq_false (fun q => q.elim (of_decide_eq_false h) (of_decide_eq_false h2))
      rw [← e]
      exact hQ
    · refine Ex_iconst 27 (v := 1) dX5_isJoin_26 (by decide) rfl ?_
      refine Ex_goto 31 dX5_isJoin_27 (by decide) ?_
      refine Ex_iret dX5_isJoin_31 rfl (by decide) (Or.inl rfl) ?_
      have e : hmB (decide (hmKd t = 10 ∨ hmKd t = 11)) = 1 := by
        have h2 := hmB_ne c2
        rw [kO] at h2
        rw [hmB_1]
        exact decide_eq_true (Or.inr (of_decide_eq_true h2))
      rw [← e]
      exact hQ
/-- the step of a number or a fact, or that there is none -/
def hmGv (t : hmTok) : Int32 := if 12 ≤ hmKd t then hmVp (hmKd t) else -13
set_option maxHeartbeats 4000000 in
theorem c_givenPart {d : Nat} {sh : xSh} {R : xR} {L : xL} {I : xI} {Q : xQ} {a : Nat} {T : List Nat} {t : hmTok} {r : List hmTok} (ha : xReader sh R a) (hC : hmCx I L a T t r) (hQ : Q (some (.int (hmGv t))) 0 sh R L I) : Ex (d + 1) 0 0 MX5_givenPart 0 sh R L I 0 [some (.ref a)] [] Q := by
  have sk := hC.2.2.2.2.2.2.1
  obtain ⟨s2, s3, sv, s0, s5, -, sp⟩ := id hC.2
  have k4 := sk.2.2.2
  have kN := hm_kN (t := t)
  have k12 := hm_kW (t := t) sk (l := wHeld) (k := 12) (by decide) (by decide)
  have k13 := hm_kW (t := t) sk (l := wMet) (k := 13) (by decide) (by decide)
  have k14 := hm_kW (t := t) sk (l := wOwn) (k := 14) (by decide) (by decide)
  have k15 := hm_kW (t := t) sk (l := wTheirs) (k := 15) (by decide) (by decide)
  refine Ex_aload_n 1 (i := 0) dX5_givenPart_0 rfl rfl rfl ?_
  refine Ex_getR 4 dX5_givenPart_1 fX5_12 ha.1 rfl ha.2.2.2.1 rfl ?_
  refine Ex_gI 7 (I (a + 1) 2) dX5_givenPart_4 fX5_37 ha.2.1 rfl rfl rfl ?_
  rw [s2]
  refine Ex_iconst 8 (v := 3) dX5_givenPart_7 (by decide) rfl ?_
  refine Ex_icmp_ne 11 20 dX5_givenPart_8 (by decide) rfl (fun c1 => ?_) (fun c1 => ?_)
  · refine Ex_aload_n 21 (i := 0) dX5_givenPart_20 rfl rfl rfl ?_
    refine Ex_getR 24 dX5_givenPart_21 fX5_12 ha.1 rfl ha.2.2.2.1 rfl ?_
    refine Ex_ldc2 27 (v := 1751477348) dX5_givenPart_24 kX5_221 rfl ?_
    refine Ex_callV (M' := MX7_isWord) 30 [.long 1751477348] (rest := []) dX5_givenPart_27 lX5_57 mX7_isWord rfl ha.2.1 rfl (Nat.le_of_ble_eq_true rfl) (Nat.le_of_ble_eq_true rfl) rfl ?_
    refine c_isWord (xR_t ha) hC.2 (l := wHeld) (by decide +kernel) (by unfold hmWd; decide) ?_
    simp only [Option.toList, List.cons_append, List.nil_append]
    refine Ex_if_eq 33 35 dX5_givenPart_30 (by decide) rfl (fun c2 => ?_) (fun c2 => ?_)
    · refine Ex_aload_n 36 (i := 0) dX5_givenPart_35 rfl rfl rfl ?_
      refine Ex_getR 39 dX5_givenPart_36 fX5_12 ha.1 rfl ha.2.2.2.1 rfl ?_
      refine Ex_ldc2 42 (v := 7169396) dX5_givenPart_39 kX5_223 rfl ?_
      refine Ex_callV (M' := MX7_isWord) 45 [.long 7169396] (rest := []) dX5_givenPart_42 lX5_57 mX7_isWord rfl ha.2.1 rfl (Nat.le_of_ble_eq_true rfl) (Nat.le_of_ble_eq_true rfl) rfl ?_
      refine c_isWord (xR_t ha) hC.2 (l := wMet) (by decide +kernel) (by unfold hmWd; decide) ?_
      simp only [Option.toList, List.cons_append, List.nil_append]
      refine Ex_if_eq 48 51 dX5_givenPart_45 (by decide) rfl (fun c3 => ?_) (fun c3 => ?_)
      · refine Ex_aload_n 52 (i := 0) dX5_givenPart_51 rfl rfl rfl ?_
        refine Ex_getR 55 dX5_givenPart_52 fX5_12 ha.1 rfl ha.2.2.2.1 rfl ?_
        refine Ex_ldc2 58 (v := 7305070) dX5_givenPart_55 kX5_225 rfl ?_
        refine Ex_callV (M' := MX7_isWord) 61 [.long 7305070] (rest := []) dX5_givenPart_58 lX5_57 mX7_isWord rfl ha.2.1 rfl (Nat.le_of_ble_eq_true rfl) (Nat.le_of_ble_eq_true rfl) rfl ?_
        refine c_isWord (xR_t ha) hC.2 (l := wOwn) (by decide +kernel) (by unfold hmWd; decide) ?_
        simp only [Option.toList, List.cons_append, List.nil_append]
        refine Ex_if_eq 64 67 dX5_givenPart_61 (by decide) rfl (fun c4 => ?_) (fun c4 => ?_)
        · refine Ex_aload_n 68 (i := 0) dX5_givenPart_67 rfl rfl rfl ?_
          refine Ex_getR 71 dX5_givenPart_68 fX5_12 ha.1 rfl ha.2.2.2.1 rfl ?_
          refine Ex_ldc2 74 (v := 127991726830195) dX5_givenPart_71 kX5_227 rfl ?_
          refine Ex_callV (M' := MX7_isWord) 77 [.long 127991726830195] (rest := []) dX5_givenPart_74 lX5_57 mX7_isWord rfl ha.2.1 rfl (Nat.le_of_ble_eq_true rfl) (Nat.le_of_ble_eq_true rfl) rfl ?_
          refine c_isWord (xR_t ha) hC.2 (l := wTheirs) (by decide +kernel) (by unfold hmWd; decide) ?_
          simp only [Option.toList, List.cons_append, List.nil_append]
          refine Ex_if_eq 80 85 dX5_givenPart_77 (by decide) rfl (fun c5 => ?_) (fun c5 => ?_)
          · refine Ex_bipush 87 (v := (-13)) dX5_givenPart_85 (by decide) rfl ?_
            refine Ex_iret dX5_givenPart_87 rfl rfl (Or.inl rfl) ?_
            have e : hmGv t = -13 := by
              have n12 := hmB_eq c2
              have n13 := hmB_eq c3
              have n14 := hmB_eq c4
              have n15 := hmB_eq c5
              rw [k12] at n12
              rw [k13] at n13
              rw [k14] at n14
              rw [k15] at n15
              have m12 := of_decide_eq_false n12
              have m13 := of_decide_eq_false n13
              have m14 := of_decide_eq_false n14
              have m15 := of_decide_eq_false n15
              have m16 : ¬ 16 ≤ hmKd t := fun q => c1 (by rw [kN.1.mpr q]; rfl)
              unfold hmGv
              rw [if_neg (by omega)]
            rw [← e]
            exact hQ
          · refine Ex_bipush 82 (v := (-4)) dX5_givenPart_80 (by decide) rfl ?_
            refine Ex_goto 87 dX5_givenPart_82 (by decide) ?_
            refine Ex_iret dX5_givenPart_87 rfl rfl (Or.inl rfl) ?_
            have e : hmGv t = -4 := by
              have h := hmB_ne c5
              rw [k15] at h
              have h2 := of_decide_eq_true h
              unfold hmGv
              rw [h2]
              decide
            rw [← e]
            exact hQ
        · refine Ex_bipush 66 (v := (-3)) dX5_givenPart_64 (by decide) rfl ?_
          refine Ex_iret dX5_givenPart_66 rfl rfl (Or.inl rfl) ?_
          have e : hmGv t = -3 := by
            have h := hmB_ne c4
            rw [k14] at h
            have h2 := of_decide_eq_true h
            unfold hmGv
            rw [h2]
            decide
          rw [← e]
          exact hQ
      · refine Ex_bipush 50 (v := (-2)) dX5_givenPart_48 (by decide) rfl ?_
        refine Ex_iret dX5_givenPart_50 rfl rfl (Or.inl rfl) ?_
        have e : hmGv t = -2 := by
          have h := hmB_ne c3
          rw [k13] at h
          have h2 := of_decide_eq_true h
          unfold hmGv
          rw [h2]
          decide
        rw [← e]
        exact hQ
    · refine Ex_iconst 34 (v := (-1)) dX5_givenPart_33 (by decide) rfl ?_
      refine Ex_iret dX5_givenPart_34 rfl rfl (Or.inl rfl) ?_
      have e : hmGv t = -1 := by
        have h := hmB_ne c2
        rw [k12] at h
        have h2 := of_decide_eq_true h
        unfold hmGv
        rw [h2]
        decide
      rw [← e]
      exact hQ
  · refine Ex_aload_n 12 (i := 0) dX5_givenPart_11 rfl rfl rfl ?_
    refine Ex_getR 15 dX5_givenPart_12 fX5_12 ha.1 rfl ha.2.2.2.1 rfl ?_
    refine Ex_gL 18 (L (a + 1) 4) dX5_givenPart_15 fX5_72 ha.2.1 rfl rfl ?_
    have t3 : t.1 = 3 := (nI_eq (by omega) (by omega)).mp c1
    have hd4 := sk.2.1 t3
    rw [sv.2.1 t3]
    refine Ex_l2i 19 dX5_givenPart_18 rfl ?_
    rw [hm_l2i (by omega)]
    refine Ex_iret dX5_givenPart_19 rfl rfl (Or.inl rfl) ?_
    have e : hmGv t = nI (hmDec t.2.1) := by
      have h2 := kN.2 t3
      unfold hmGv
      rw [h2, if_pos (by omega)]
      unfold hmVp
      rw [if_neg (by omega), if_neg (by omega), if_neg (by omega), if_neg (by omega), show 16 + hmDec t.2.1 - 16 = hmDec t.2.1 by omega]
    rw [← e]
    exact hQ
