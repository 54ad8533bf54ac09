set_option maxHeartbeats 4000000 in
theorem c_newName {d : Nat} {sh : xSh} {R : xR} {L : xL} {I : xI} {Q : xQ} {a dd n : Nat} {T : List Nat} {t : hmTok} {r : List hmTok} (ha : xReader sh R a) (hdd : xDesk sh R dd) (hdis : a + 3 ≤ dd ∨ dd + 9 ≤ a) (hc : ∀ x, x ∈ T → x < 127) (hn6 : n < 6) (hC : hmCx I L a T t r) {nms : List (List Nat)} (hnl : nms.length ≤ 6) (h6 : I dd 6 = nI nms.length) (hnm : ∀ i, i < nms.length → L (dd + 1) i = hmE256 (nms.getD i []) ∧ hmWd (nms.getD i [])) (hF1 : hmNm t = false → Q (some (.int 0)) 0 sh R L (va_up I a (va_up (I a) 1 (nI (hmFl 1 t))))) (hF3 : hmNm t = true → t.2.1 ∈ nms → Q (some (.int 0)) 0 sh R L (va_up I a (va_up (I a) 1 (nI (hmFl 3 t))))) (hQ : hmNm t = true → ¬ t.2.1 ∈ nms → ∀ t' r' I' L', r = t' :: r' → hmSp (a + 1) I I' → hmSl (a + 1) (va_up L (dd + 1) (va_up (L (dd + 1)) n (hmE256 t.2.1))) L' → hmCx I' L' a T t' r' → Q (some (.int 1)) 0 sh R L' I') : Ex (d + 6) 0 0 MX5_newName 0 sh R L I 0 [some (.ref a), some (.ref dd), some (.int (nI n))] [] Q := by
  obtain ⟨s2, s3, sv, s0, s5, sk, sp⟩ := id hC.2
  refine Ex_aload_n 1 (i := 0) dX5_newName_0 rfl rfl rfl ?_
  refine Ex_callV (M' := MX5_isName) 4 [] (rest := []) dX5_newName_1 lX5_167 mX5_isName rfl ha.1 rfl (Nat.le_of_ble_eq_true rfl) (Nat.le_of_ble_eq_true rfl) rfl ?_
  refine c_isName ha hC ?_
  simp only [Option.toList, List.cons_append, List.nil_append]
  refine Ex_if_ne 7 13 dX5_newName_4 (by decide) rfl (fun c1 => ?_) (fun c1 => ?_)
  · have hnt := hmB_ne c1
    have t2 : t.1 = 2 := (of_decide_eq_true hnt).1
    have hv := sv.1 t2
    have hl : hmWd t.2.1 := ⟨(sk.1 t2).1, (sk.1 t2).2.1⟩
    refine Ex_aload_n 14 (i := 1) dX5_newName_13 rfl rfl rfl ?_
    refine Ex_aload_n 15 (i := 0) dX5_newName_14 rfl rfl rfl ?_
    refine Ex_getR 18 dX5_newName_15 fX5_12 ha.1 rfl ha.2.2.2.1 rfl ?_
    refine Ex_gL 21 (L (a + 1) 4) dX5_newName_18 fX5_72 ha.2.1 rfl rfl ?_
    rw [hv]
    refine Ex_callV (M' := MX0_callerNamed) 24 [.long (hmE256 t.2.1)] (rest := []) dX5_newName_21 lX5_171 mX0_callerNamed rfl hdd.1 rfl (Nat.le_of_ble_eq_true rfl) (Nat.le_of_ble_eq_true rfl) rfl ?_
    refine c_callerNamed hdd hnl h6 hnm rfl hl ?_
    simp only [Option.toList, List.cons_append, List.nil_append]
    refine Ex_iconst 25 (v := (-1)) dX5_newName_24 (by decide) rfl ?_
    refine Ex_icmp_eq 28 34 dX5_newName_25 (by decide) rfl (fun c2 => ?_) (fun c2 => ?_)
    · refine Ex_aload_n 35 (i := 1) dX5_newName_34 rfl rfl rfl ?_
      refine Ex_getR 38 dX5_newName_35 fX5_174 hdd.1 rfl hdd.2.2.2.2.2.2.2.2.2.1 rfl ?_
      refine Ex_iload_n 39 (i := 2) dX5_newName_38 rfl rfl rfl ?_
      refine Ex_aload_n 40 (i := 0) dX5_newName_39 rfl rfl rfl ?_
      refine Ex_getR 43 dX5_newName_40 fX5_12 ha.1 rfl ha.2.2.2.1 rfl ?_
      refine Ex_gL 46 (L (a + 1) 4) dX5_newName_43 fX5_72 ha.2.1 rfl rfl ?_
      rw [hv]
      refine Ex_sL 47 n (L (dd + 1)) (va_up L (dd + 1) (va_up (L (dd + 1)) n (hmE256 t.2.1))) dX5_newName_46 hdd.2.1 rfl (by omega) (by decide) rfl rfl rfl ?_
      have hC1 : hmCx I (va_up L (dd + 1) (va_up (L (dd + 1)) n (hmE256 t.2.1))) a T t r := hC.kept rfl rfl (va_up_ne _ _ (by omega))
      refine Ex_aload_n 48 (i := 0) dX5_newName_47 rfl rfl rfl ?_
      refine Ex_getR 51 dX5_newName_48 fX5_12 ha.1 rfl ha.2.2.2.1 rfl ?_
      refine Ex_callV (M' := MX7_step) 54 [] (rest := []) dX5_newName_51 lX5_65 mX7_step rfl ha.2.1 rfl (Nat.le_of_ble_eq_true rfl) (Nat.le_of_ble_eq_true rfl) rfl ?_
      refine c_rstep ha hc hC1 (by omega) (fun t1 r1 I1 L1 er1 gs1 gt1 hC1 => ?_)
      simp only [Option.toList, List.nil_append, List.cons_append]
      refine Ex_iconst 55 (v := 1) dX5_newName_54 (by decide) rfl ?_
      refine Ex_iret dX5_newName_55 rfl (by decide) (Or.inl rfl) ?_
      refine hQ hnt (fun z => ?_) t1 r1 I1 L1 er1 gs1 gt1 hC1
      have q := c2
      unfold hmFi at q
      rw [if_pos z] at q
      have hlt := List.idxOf_lt_length_iff.mpr z
      have h8 : 0 ≤ nI (nms.idxOf t.2.1) := hm_nI0 (by omega)
      rw [q] at h8
      exact absurd h8 (by decide)
    · refine Ex_aload_n 29 (i := 0) dX5_newName_28 rfl rfl rfl ?_
      refine Ex_iconst 30 (v := 3) dX5_newName_29 (by decide) rfl ?_
      refine Ex_callV (M' := MX5_fail) 33 [.int 3] (rest := []) dX5_newName_30 lX5_61 mX5_fail rfl ha.1 rfl (Nat.le_of_ble_eq_true rfl) (Nat.le_of_ble_eq_true rfl) rfl ?_
      refine c_fail (k := 3) ha hC ?_
      simp only [Option.toList, List.nil_append, List.cons_append]
      refine Ex_iret dX5_newName_33 rfl (by decide) (Or.inl rfl) ?_
      refine hF3 hnt ?_
      have q := c2
      unfold hmFi at q
      by_cases z : t.2.1 ∈ nms
      · exact z
      · rw [if_neg z] at q
        exact absurd rfl q
  · refine Ex_aload_n 8 (i := 0) dX5_newName_7 rfl rfl rfl ?_
    refine Ex_iconst 9 (v := 1) dX5_newName_8 (by decide) rfl ?_
    refine Ex_callV (M' := MX5_fail) 12 [.int 1] (rest := []) dX5_newName_9 lX5_61 mX5_fail rfl ha.1 rfl (Nat.le_of_ble_eq_true rfl) (Nat.le_of_ble_eq_true rfl) rfl ?_
    refine c_fail (k := 1) ha hC ?_
    simp only [Option.toList, List.nil_append, List.cons_append]
    refine Ex_iret dX5_newName_12 rfl (by decide) (Or.inl rfl) ?_
    exact hF1 (hmB_eq c1)
set_option maxHeartbeats 4000000 in
theorem c_kindWord {d : Nat} {sh : xSh} {R : xR} {L : xL} {I : xI} {Q : xQ} {a dd n : Nat} {T : List Nat} {t : hmTok} {r : List hmTok} (ha : xReader sh R a) (hdd : xDesk sh R dd) (hdis : a + 3 ≤ dd ∨ dd + 9 ≤ a) (hc : ∀ x, x ∈ T → x < 127) (hn6 : n < 6) (hC : hmCx I L a T t r) (hF : hmKk t = none → Q (some (.int 0)) 0 sh R L (va_up I a (va_up (I a) 1 (nI (hmFl 1 t))))) (hQ : ∀ k, hmKk t = some k → ∀ t' r' I' L', r = t' :: r' → hmSp (a + 1) (va_up I (dd + 2) (va_up (I (dd + 2)) n (nI k))) I' → hmSl (a + 1) L L' → hmCx I' L' a T t' r' → Q (some (.int 1)) 0 sh R L' I') : Ex (d + 6) 0 0 MX5_kindWord 0 sh R L I 0 [some (.ref a), some (.ref dd), some (.int (nI n)), none] [] Q := by
  obtain ⟨s2, s3, sv, s0, s5, sk, sp⟩ := id hC.2
  have k4 := sk.2.2.2
  have ekn : ¬ t.1 = 2 → hmKk t = none := fun q => by unfold hmKk; rw [if_neg q]
  by_cases t2 : t.1 = 2
  · have hv := sv.1 t2
    have hl : hmWd t.2.1 := ⟨(sk.1 t2).1, (sk.1 t2).2.1⟩
    have ek : hmKk t = hmKl t.2.1 := by unfold hmKk; rw [if_pos t2]
    cases ekl : hmKl t.2.1 with
    | none =>
      have eko : hmKo t.2.1 = -1 := by unfold hmKo; rw [ekl]
      rw [ekl] at ek
      refine Ex_aload_n 1 (i := 0) dX5_kindWord_0 rfl rfl rfl ?_
      refine Ex_getR 4 dX5_kindWord_1 fX5_12 ha.1 rfl ha.2.2.2.1 rfl ?_
      refine Ex_gI 7 (I (a + 1) 2) dX5_kindWord_4 fX5_37 ha.2.1 rfl rfl rfl ?_
      rw [s2]
      refine Ex_iconst 8 (v := 2) dX5_kindWord_7 (by decide) rfl ?_
      refine Ex_icmp_ne 11 24 dX5_kindWord_8 (by decide) rfl (fun c1 => absurd c1 (fun q => q (by rw [t2]; rfl))) (fun c1 => ?_)
      refine Ex_aload_n 12 (i := 0) dX5_kindWord_11 rfl rfl rfl ?_
      refine Ex_getR 15 dX5_kindWord_12 fX5_12 ha.1 rfl ha.2.2.2.1 rfl ?_
      refine Ex_gL 18 (L (a + 1) 4) dX5_kindWord_15 fX5_72 ha.2.1 rfl rfl ?_
      rw [hv]
      refine Ex_callS (M' := MX5_kindOf) 21 [.long (hmE256 t.2.1)] (rest := []) dX5_kindWord_18 lX5_141 mX5_kindOf rfl rfl (Nat.le_of_ble_eq_true rfl) (Nat.le_of_ble_eq_true rfl) rfl ?_
      refine c_kindOf rfl hl ?_
      simp only [Option.toList, List.cons_append, List.nil_append]
      rw [eko]
      refine Ex_goto 25 dX5_kindWord_21 (by decide) ?_
      refine Ex_istore_n 26 (i := 3) (ls' := [some (.ref a), some (.ref dd), some (.int (nI n)), some (.int (-1))]) dX5_kindWord_25 rfl (Nat.le_of_ble_eq_true rfl) rfl rfl rfl ?_
      refine Ex_iload_n 27 (i := 3) dX5_kindWord_26 rfl rfl rfl ?_
      refine Ex_iconst 28 (v := (-1)) dX5_kindWord_27 (by decide) rfl ?_
      refine Ex_icmp_ne 31 37 dX5_kindWord_28 (by decide) rfl (fun c2 => absurd c2 (fun q => q (by decide))) (fun c2 => ?_)
      refine Ex_aload_n 32 (i := 0) dX5_kindWord_31 rfl rfl rfl ?_
      refine Ex_iconst 33 (v := 1) dX5_kindWord_32 (by decide) rfl ?_
      refine Ex_callV (M' := MX5_fail) 36 [.int 1] (rest := []) dX5_kindWord_33 lX5_61 mX5_fail rfl ha.1 rfl (Nat.le_of_ble_eq_true rfl) (Nat.le_of_ble_eq_true rfl) rfl ?_
      refine c_fail (k := 1) ha hC ?_
      simp only [Option.toList, List.nil_append, List.cons_append]
      refine Ex_iret dX5_kindWord_36 rfl (by decide) (Or.inl rfl) ?_
      exact hF ek
    | some k =>
      have eko : hmKo t.2.1 = nI k := by unfold hmKo; rw [ekl]
      rw [ekl] at ek
      have k9 : k < 4 := by
        unfold hmKl at ekl
        repeat' split at ekl
        all_goals first | (cases ekl; omega) | exact absurd ekl (by simp)
      have h8 : ¬ nI k = -1 := fun q => by
        have h0 : 0 ≤ nI k := hm_nI0 (by omega)
        rw [q] at h0
        exact absurd h0 (by decide)
      refine Ex_aload_n 1 (i := 0) dX5_kindWord_0 rfl rfl rfl ?_
      refine Ex_getR 4 dX5_kindWord_1 fX5_12 ha.1 rfl ha.2.2.2.1 rfl ?_
      refine Ex_gI 7 (I (a + 1) 2) dX5_kindWord_4 fX5_37 ha.2.1 rfl rfl rfl ?_
      rw [s2]
      refine Ex_iconst 8 (v := 2) dX5_kindWord_7 (by decide) rfl ?_
      refine Ex_icmp_ne 11 24 dX5_kindWord_8 (by decide) rfl (fun c1 => absurd c1 (fun q => q (by rw [t2]; rfl))) (fun c1 => ?_)
      refine Ex_aload_n 12 (i := 0) dX5_kindWord_11 rfl rfl rfl ?_
      refine Ex_getR 15 dX5_kindWord_12 fX5_12 ha.1 rfl ha.2.2.2.1 rfl ?_
      refine Ex_gL 18 (L (a + 1) 4) dX5_kindWord_15 fX5_72 ha.2.1 rfl rfl ?_
      rw [hv]
      refine Ex_callS (M' := MX5_kindOf) 21 [.long (hmE256 t.2.1)] (rest := []) dX5_kindWord_18 lX5_141 mX5_kindOf rfl rfl (Nat.le_of_ble_eq_true rfl) (Nat.le_of_ble_eq_true rfl) rfl ?_
      refine c_kindOf rfl hl ?_
      simp only [Option.toList, List.cons_append, List.nil_append]
      rw [eko]
      refine Ex_goto 25 dX5_kindWord_21 (by decide) ?_
      refine Ex_istore_n 26 (i := 3) (ls' := [some (.ref a), some (.ref dd), some (.int (nI n)), some (.int (nI k))]) dX5_kindWord_25 rfl (Nat.le_of_ble_eq_true rfl) rfl rfl rfl ?_
      refine Ex_iload_n 27 (i := 3) dX5_kindWord_26 rfl rfl rfl ?_
      refine Ex_iconst 28 (v := (-1)) dX5_kindWord_27 (by decide) rfl ?_
      refine Ex_icmp_ne 31 37 dX5_kindWord_28 (by decide) rfl (fun c2 => ?_) (fun c2 => absurd c2 h8)
      refine Ex_aload_n 38 (i := 1) dX5_kindWord_37 rfl rfl rfl ?_
      refine Ex_getR 41 dX5_kindWord_38 fX5_178 hdd.1 rfl hdd.2.2.2.2.2.2.2.2.2.2.1 rfl ?_
      refine Ex_iload_n 42 (i := 2) dX5_kindWord_41 rfl rfl rfl ?_
      refine Ex_iload_n 43 (i := 3) dX5_kindWord_42 rfl rfl rfl ?_
      refine Ex_sI 44 n (I (dd + 2)) (va_up I (dd + 2) (va_up (I (dd + 2)) n (nI k))) dX5_kindWord_43 hdd.2.2.1 rfl (by omega) (by decide) rfl rfl rfl ?_
      have hC1 : hmCx (va_up I (dd + 2) (va_up (I (dd + 2)) n (nI k))) L a T t r := hC.kept (va_up_ne _ _ (by omega)) (va_up_ne _ _ (by omega)) rfl
      refine Ex_aload_n 45 (i := 0) dX5_kindWord_44 rfl rfl rfl ?_
      refine Ex_getR 48 dX5_kindWord_45 fX5_12 ha.1 rfl ha.2.2.2.1 rfl ?_
      refine Ex_callV (M' := MX7_step) 51 [] (rest := []) dX5_kindWord_48 lX5_65 mX7_step rfl ha.2.1 rfl (Nat.le_of_ble_eq_true rfl) (Nat.le_of_ble_eq_true rfl) rfl ?_
      refine c_rstep ha hc hC1 (by omega) (fun t1 r1 I1 L1 er1 gs1 gt1 hC1 => ?_)
      simp only [Option.toList, List.nil_append, List.cons_append]
      refine Ex_iconst 52 (v := 1) dX5_kindWord_51 (by decide) rfl ?_
      refine Ex_iret dX5_kindWord_52 rfl (by decide) (Or.inl rfl) ?_
      exact hQ k ek t1 r1 I1 L1 er1 gs1 gt1 hC1
  · have ek := ekn t2
    refine Ex_aload_n 1 (i := 0) dX5_kindWord_0 rfl rfl rfl ?_
    refine Ex_getR 4 dX5_kindWord_1 fX5_12 ha.1 rfl ha.2.2.2.1 rfl ?_
    refine Ex_gI 7 (I (a + 1) 2) dX5_kindWord_4 fX5_37 ha.2.1 rfl rfl rfl ?_
    rw [s2]
    refine Ex_iconst 8 (v := 2) dX5_kindWord_7 (by decide) rfl ?_
    refine Ex_icmp_ne 11 24 dX5_kindWord_8 (by decide) rfl (fun c1 => ?_) (fun c1 => absurd c1 (fun q => t2 ((nI_eq (by omega) (by omega)).mp q)))
    refine Ex_iconst 25 (v := (-1)) dX5_kindWord_24 (by decide) rfl ?_
    refine Ex_istore_n 26 (i := 3) (ls' := [some (.ref a), some (.ref dd), some (.int (nI n)), some (.int (-1))]) dX5_kindWord_25 rfl (Nat.le_of_ble_eq_true rfl) rfl rfl rfl ?_
    refine Ex_iload_n 27 (i := 3) dX5_kindWord_26 rfl rfl rfl ?_
    refine Ex_iconst 28 (v := (-1)) dX5_kindWord_27 (by decide) rfl ?_
    refine Ex_icmp_ne 31 37 dX5_kindWord_28 (by decide) rfl (fun c2 => absurd c2 (fun q => q (by decide))) (fun c2 => ?_)
    refine Ex_aload_n 32 (i := 0) dX5_kindWord_31 rfl rfl rfl ?_
    refine Ex_iconst 33 (v := 1) dX5_kindWord_32 (by decide) rfl ?_
    refine Ex_callV (M' := MX5_fail) 36 [.int 1] (rest := []) dX5_kindWord_33 lX5_61 mX5_fail rfl ha.1 rfl (Nat.le_of_ble_eq_true rfl) (Nat.le_of_ble_eq_true rfl) rfl ?_
    refine c_fail (k := 1) ha hC ?_
    simp only [Option.toList, List.nil_append, List.cons_append]
    refine Ex_iret dX5_kindWord_36 rfl (by decide) (Or.inl rfl) ?_
    exact hF ek
theorem hm_kn_bit0 : ∀ k, k < 1024 → ∀ v, v < 10 → (nI k &&& hmOne v = 0 ↔ hmBit (nI k) v = false) := by decide +kernel
theorem hm_kn_bit {x : Int32} (hx : hmS10 x) {v : Nat} (hv : v < 10) : (x &&& hmOne v = 0 ↔ hmBit x v = false) := by
  obtain ⟨k, hk, rfl⟩ := hx
  exact hm_kn_bit0 k hk v hv
theorem hm_one_ne : ∀ v, v < 10 → ¬ hmOne v = 0 := by decide +kernel
theorem hm_or_ne {x : Int32} {v : Nat} (hv : v < 10) : ¬ x ||| hmOne v = 0 := fun q => by
  have h1 := congrArg Int32.toBitVec q
  rw [Int32.toBitVec_or] at h1
  have h2 := (BitVec.or_eq_zero_iff.mp h1).2
  exact hm_one_ne v hv (Int32.toBitVec_inj.mp h2)
/-- what reading answers may change -/
def hmAf (a dd n : Nat) (I I' : xI) : Prop := (∀ x, x ≠ a → x ≠ a + 1 → x ≠ dd + 4 → I' x = I x) ∧ I' (a + 1) 1 = I (a + 1) 1 ∧ (∀ k, k ≠ 1 → k ≠ 2 → I' a k = I a k) ∧ ∀ j, j ≠ n → I' (dd + 4) j = I (dd + 4) j
theorem hmAf.rf {a dd n : Nat} {I : xI} : hmAf a dd n I I := ⟨fun _ _ _ _ => rfl, rfl, fun _ _ _ => rfl, fun _ _ => rfl⟩
theorem hmAf.tr {a dd n : Nat} {I J K : xI} (h1 : hmAf a dd n I J) (h2 : hmAf a dd n J K) : hmAf a dd n I K := ⟨fun x p q r => (h2.1 x p q r).trans (h1.1 x p q r), h2.2.1.trans h1.2.1, fun k p q => (h2.2.2.1 k p q).trans (h1.2.2.1 k p q), fun j p => (h2.2.2.2 j p).trans (h1.2.2.2 j p)⟩
theorem hmAf.tf {a dd n : Nat} {I J : xI} (hd : a + 3 ≤ dd ∨ dd + 9 ≤ a) (h : hmTf a I J) : hmAf a dd n I J := ⟨fun x p q _ => h.1 x p q, h.2.1, h.2.2, fun j _ => by rw [h.1 (dd + 4) (by omega) (by omega)]⟩
theorem hmAf.up {a dd n : Nat} {I : xI} (hd : a + 3 ≤ dd ∨ dd + 9 ≤ a) {v : Int32} : hmAf a dd n I (va_up I (dd + 4) (va_up (I (dd + 4)) n v)) := ⟨fun x _ _ p => va_up_ne _ _ p, by rw [va_up_ne _ _ (by omega)], fun k _ _ => by rw [va_up_ne _ _ (by omega)], fun j p => by rw [va_up_self, va_up_ne _ _ p]⟩
theorem hmAn_c {t : hmTok} {r : List hmTok} {many : Nat} {kn : Int32} : hmAn (t :: r) many kn = if t.1 = 3 then (if 9 < hmDec t.2.1 then .inl (hmFl 4 t) else if hmBit kn (hmDec t.2.1) = true then .inl (hmFl 3 t) else if many = 6 then .inl (hmFl 5 t) else hmAn r (many + 1) (kn ||| hmOne (hmDec t.2.1))) else if many = 0 then .inl (hmFl 1 t) else .inr (kn, t :: r) := rfl
set_option maxHeartbeats 4000000 in
theorem c_answers_loop {d : Nat} {sh : xSh} {R : xR} {L : xL} {I : xI} {Q : xQ} {a dd n : Nat} {T : List Nat} (ha : xReader sh R a) (hdd : xDesk sh R dd) (hdis : a + 3 ≤ dd ∨ dd + 9 ≤ a) (hc : ∀ x, x ∈ T → x < 127) (hn6 : n < 6) {ts : List hmTok} (hF : ∀ F I' L', hmAn ts 0 0 = .inl F → 1 ≤ F → F < 20000 → hmAf a dd n I I' → hmSl (a + 1) L L' → I' a 1 = nI F → Q (some (.int 0)) 0 sh R L' I') (hQ : ∀ kn t' r' I' L', hmAn ts 0 0 = .inr (kn, t' :: r') → (t' :: r').length ≤ ts.length → hmAf a dd n I I' → I' a 1 = I a 1 → I' (dd + 4) n = kn → hmSl (a + 1) L L' → hmCx I' L' a T t' r' → Q (some (.int 1)) 0 sh R L' I') : ∀ k (many : Nat) (t1 : hmTok) (r1 : List hmTok) (kn : Int32) (J : xI) (LL : xL), k + many = 6 → (t1 :: r1).length ≤ ts.length → hmAn ts 0 0 = hmAn (t1 :: r1) many kn → hmS10 kn → (many = 0 ↔ kn = 0) → hmAf a dd n I J → J a 1 = I a 1 → hmSl (a + 1) L LL → J (dd + 4) n = kn → hmCx J LL a T t1 r1 → Ex (d + 6) 0 0 MX5_answers 0 sh R LL J 9 [some (.ref a), some (.ref dd), some (.int (nI n)), some (.int (nI many)), none] [] Q := by
  intro k
  induction k with
  | zero =>
    intro many t1 r1 kn J LL hm hlen he h10 hmk gJ j1 gL hkn hC
    obtain ⟨s2, s3, sv, s0, s5, sk, sp⟩ := id hC.2
    have k4 := sk.2.2.2
    have hfl : ∀ k, 1 ≤ k → k ≤ 5 → hmAn (t1 :: r1) many kn = .inl (hmFl k t1) → Q (some (.int 0)) 0 sh R LL (va_up J a (va_up (J a) 1 (nI (hmFl k t1)))) := fun k h1 h2 e => hF (hmFl k t1) _ LL (he.trans e) (by unfold hmFl; omega) (by unfold hmFl; omega) (gJ.tr (hmAf.tf hdis (hmTf.up (Or.inl rfl)))) gL (by rw [va_up_self, va_up_self])
    refine Ex_iload_n 10 (i := 3) dX5_answers_9 rfl rfl rfl ?_
    refine Ex_bipush 12 (v := 6) dX5_answers_10 (by decide) rfl ?_
    refine Ex_icmp_gt 15 112 dX5_answers_12 (by decide) rfl (fun c1 => absurd c1 (fun q => absurd ((nI_ltI (a := 6) (by omega) (by omega)).mp q) (by omega))) (fun c1 => ?_)
    refine Ex_aload_n 16 (i := 0) dX5_answers_15 rfl rfl rfl ?_
    refine Ex_getR 19 dX5_answers_16 fX5_12 ha.1 rfl ha.2.2.2.1 rfl ?_
    refine Ex_gI 22 (J (a + 1) 2) dX5_answers_19 fX5_37 ha.2.1 rfl rfl rfl ?_
    rw [s2]
    refine Ex_iconst 23 (v := 3) dX5_answers_22 (by decide) rfl ?_
    refine Ex_icmp_ne 26 112 dX5_answers_23 (by decide) rfl (fun c2 => ?_) (fun c2 => ?_)
    · have t3 : ¬ t1.1 = 3 := fun q => c2 (by rw [q]; rfl)
      refine Ex_aload_n 113 (i := 1) dX5_answers_112 rfl rfl rfl ?_
      refine Ex_getR 116 dX5_answers_113 fX5_181 hdd.1 rfl hdd.2.2.2.2.2.2.2.2.2.2.2.2.1 rfl ?_
      refine Ex_iload_n 117 (i := 2) dX5_answers_116 rfl rfl rfl ?_
      refine Ex_aI 118 n (J (dd + 4) n) dX5_answers_117 hdd.2.2.2.2.1 rfl (by omega) (by decide) rfl rfl ?_
      rw [hkn]
      refine Ex_if_ne 121 129 dX5_answers_118 (by decide) rfl (fun c3 => ?_) (fun c3 => ?_)
      · refine Ex_iconst 130 (v := 1) dX5_answers_129 (by decide) rfl ?_
        refine Ex_goto 134 dX5_answers_130 (by decide) ?_
        refine Ex_iret dX5_answers_134 rfl (by decide) (Or.inl rfl) ?_
        have hm0 : ¬ many = 0 := fun q => c3 (hmk.mp q)
        exact hQ kn t1 r1 J LL (by rw [he, hmAn_c, if_neg t3, if_neg hm0]) hlen gJ j1 hkn gL hC
      · refine Ex_aload_n 122 (i := 0) dX5_answers_121 rfl rfl rfl ?_
        refine Ex_iconst 123 (v := 1) dX5_answers_122 (by decide) rfl ?_
        refine Ex_callV (M' := MX5_fail) 126 [.int 1] (rest := []) dX5_answers_123 lX5_61 mX5_fail rfl ha.1 rfl (Nat.le_of_ble_eq_true rfl) (Nat.le_of_ble_eq_true rfl) rfl ?_
        refine c_fail (k := 1) ha hC ?_
        simp only [Option.toList, List.nil_append, List.cons_append]
        refine Ex_if_eq 129 133 dX5_answers_126 (by decide) rfl (fun c4 => ?_) (fun c4 => absurd c4 (fun q => q (by decide)))
        refine Ex_iconst 134 (v := 0) dX5_answers_133 (by decide) rfl ?_
        refine Ex_iret dX5_answers_134 rfl (by decide) (Or.inl rfl) ?_
        have hm0 : many = 0 := hmk.mpr c3
        exact hfl 1 (by omega) (by omega) (by rw [hmAn_c, if_neg t3, if_pos hm0])
    · have t3 : t1.1 = 3 := (nI_eq (by omega) (by omega)).mp c2
      have hv := sv.2.1 t3
      have hd4 := sk.2.1 t3
      refine Ex_aload_n 27 (i := 0) dX5_answers_26 rfl rfl rfl ?_
      refine Ex_getR 30 dX5_answers_27 fX5_12 ha.1 rfl ha.2.2.2.1 rfl ?_
      refine Ex_gL 33 (LL (a + 1) 4) dX5_answers_30 fX5_72 ha.2.1 rfl rfl ?_
      rw [hv]
      refine Ex_ldc2 36 (v := 9) dX5_answers_33 kX5_184 rfl ?_
      refine Ex_lcmp 37 dX5_answers_36 rfl ?_
      refine Ex_if_le 40 46 dX5_answers_37 (by decide) rfl (fun c5 => ?_) (fun c5 => ?_)
      · have h9 : ¬ 9 < hmDec t1.2.1 := fun q => hm_lgle.mp c5 ((nL_lt (x := 9) (by omega) (by omega)).mpr q)
        refine Ex_iconst 47 (v := 1) dX5_answers_46 (by decide) rfl ?_
        refine Ex_aload_n 48 (i := 0) dX5_answers_47 rfl rfl rfl ?_
        refine Ex_getR 51 dX5_answers_48 fX5_12 ha.1 rfl ha.2.2.2.1 rfl ?_
        refine Ex_gL 54 (LL (a + 1) 4) dX5_answers_51 fX5_72 ha.2.1 rfl rfl ?_
        rw [hv]
        refine Ex_l2i 55 dX5_answers_54 rfl ?_
        rw [hm_l2i (by omega)]
        refine Ex_ishl 56 dX5_answers_55 rfl ?_
        refine Ex_istore 58 (ls' := [some (.ref a), some (.ref dd), some (.int (nI n)), some (.int (nI many)), some (.int (1 <<< ((nI (hmDec t1.2.1)) &&& 31)))]) dX5_answers_56 (Nat.le_of_ble_eq_true rfl) rfl rfl rfl ?_
        refine Ex_aload_n 59 (i := 1) dX5_answers_58 rfl rfl rfl ?_
        refine Ex_getR 62 dX5_answers_59 fX5_181 hdd.1 rfl hdd.2.2.2.2.2.2.2.2.2.2.2.2.1 rfl ?_
        refine Ex_iload_n 63 (i := 2) dX5_answers_62 rfl rfl rfl ?_
        refine Ex_aI 64 n (J (dd + 4) n) dX5_answers_63 hdd.2.2.2.2.1 rfl (by omega) (by decide) rfl rfl ?_
        rw [hkn]
        refine Ex_iload 66 dX5_answers_64 rfl rfl ?_
        refine Ex_iand 67 dX5_answers_66 rfl ?_
        refine Ex_if_eq 70 76 dX5_answers_67 (by decide) rfl (fun c6 => ?_) (fun c6 => ?_)
        · refine Ex_iload_n 77 (i := 3) dX5_answers_76 rfl rfl rfl ?_
          refine Ex_bipush 79 (v := 6) dX5_answers_77 (by decide) rfl ?_
          refine Ex_icmp_ne 82 88 dX5_answers_79 (by decide) rfl (fun c7 => absurd c7 (fun q => q (by rw [show many = 6 by omega]; rfl))) (fun c7 => ?_)
          refine Ex_aload_n 83 (i := 0) dX5_answers_82 rfl rfl rfl ?_
          refine Ex_iconst 84 (v := 5) dX5_answers_83 (by decide) rfl ?_
          refine Ex_callV (M' := MX5_fail) 87 [.int 5] (rest := []) dX5_answers_84 lX5_61 mX5_fail rfl ha.1 rfl (Nat.le_of_ble_eq_true rfl) (Nat.le_of_ble_eq_true rfl) rfl ?_
          refine c_fail (k := 5) ha hC ?_
          simp only [Option.toList, List.nil_append, List.cons_append]
          refine Ex_iret dX5_answers_87 rfl (by decide) (Or.inl rfl) ?_
          have hbit := (hm_kn_bit h10 (by omega)).mp c6
          exact hfl 5 (by omega) (by omega) (by rw [hmAn_c, if_pos t3, if_neg (by omega), if_neg (by rw [hbit]; decide), if_pos (by omega)])
        · refine Ex_aload_n 71 (i := 0) dX5_answers_70 rfl rfl rfl ?_
          refine Ex_iconst 72 (v := 3) dX5_answers_71 (by decide) rfl ?_
          refine Ex_callV (M' := MX5_fail) 75 [.int 3] (rest := []) dX5_answers_72 lX5_61 mX5_fail rfl ha.1 rfl (Nat.le_of_ble_eq_true rfl) (Nat.le_of_ble_eq_true rfl) rfl ?_
          refine c_fail (k := 3) ha hC ?_
          simp only [Option.toList, List.nil_append, List.cons_append]
          refine Ex_iret dX5_answers_75 rfl (by decide) (Or.inl rfl) ?_
          exact hfl 3 (by omega) (by omega) (by rw [hmAn_c, if_pos t3, if_neg (by omega), if_pos (by
            cases q : hmBit kn (hmDec t1.2.1) with
            | true => rfl
            | false => exact absurd ((hm_kn_bit h10 (by omega)).mpr q) c6)])
      · refine Ex_aload_n 41 (i := 0) dX5_answers_40 rfl rfl rfl ?_
        refine Ex_iconst 42 (v := 4) dX5_answers_41 (by decide) rfl ?_
        refine Ex_callV (M' := MX5_fail) 45 [.int 4] (rest := []) dX5_answers_42 lX5_61 mX5_fail rfl ha.1 rfl (Nat.le_of_ble_eq_true rfl) (Nat.le_of_ble_eq_true rfl) rfl ?_
        refine c_fail (k := 4) ha hC ?_
        simp only [Option.toList, List.nil_append, List.cons_append]
        refine Ex_iret dX5_answers_45 rfl (by decide) (Or.inl rfl) ?_
        exact hfl 4 (by omega) (by omega) (by rw [hmAn_c, if_pos t3, if_pos ((nL_lt (x := 9) (by omega) (by omega)).mp (Classical.byContradiction (fun q => c5 (hm_lgle.mpr q))))])
  | succ k ih =>
    intro many t1 r1 kn J LL hm hlen he h10 hmk gJ j1 gL hkn hC
    obtain ⟨s2, s3, sv, s0, s5, sk, sp⟩ := id hC.2
    have k4 := sk.2.2.2
    have hfl : ∀ k, 1 ≤ k → k ≤ 5 → hmAn (t1 :: r1) many kn = .inl (hmFl k t1) → Q (some (.int 0)) 0 sh R LL (va_up J a (va_up (J a) 1 (nI (hmFl k t1)))) := fun k h1 h2 e => hF (hmFl k t1) _ LL (he.trans e) (by unfold hmFl; omega) (by unfold hmFl; omega) (gJ.tr (hmAf.tf hdis (hmTf.up (Or.inl rfl)))) gL (by rw [va_up_self, va_up_self])
    refine Ex_iload_n 10 (i := 3) dX5_answers_9 rfl rfl rfl ?_
    refine Ex_bipush 12 (v := 6) dX5_answers_10 (by decide) rfl ?_
    refine Ex_icmp_gt 15 112 dX5_answers_12 (by decide) rfl (fun c1 => absurd c1 (fun q => absurd ((nI_ltI (a := 6) (by omega) (by omega)).mp q) (by omega))) (fun c1 => ?_)
    refine Ex_aload_n 16 (i := 0) dX5_answers_15 rfl rfl rfl ?_
    refine Ex_getR 19 dX5_answers_16 fX5_12 ha.1 rfl ha.2.2.2.1 rfl ?_
    refine Ex_gI 22 (J (a + 1) 2) dX5_answers_19 fX5_37 ha.2.1 rfl rfl rfl ?_
    rw [s2]
    refine Ex_iconst 23 (v := 3) dX5_answers_22 (by decide) rfl ?_
    refine Ex_icmp_ne 26 112 dX5_answers_23 (by decide) rfl (fun c2 => ?_) (fun c2 => ?_)
    · have t3 : ¬ t1.1 = 3 := fun q => c2 (by rw [q]; rfl)
      refine Ex_aload_n 113 (i := 1) dX5_answers_112 rfl rfl rfl ?_
      refine Ex_getR 116 dX5_answers_113 fX5_181 hdd.1 rfl hdd.2.2.2.2.2.2.2.2.2.2.2.2.1 rfl ?_
      refine Ex_iload_n 117 (i := 2) dX5_answers_116 rfl rfl rfl ?_
      refine Ex_aI 118 n (J (dd + 4) n) dX5_answers_117 hdd.2.2.2.2.1 rfl (by omega) (by decide) rfl rfl ?_
      rw [hkn]
      refine Ex_if_ne 121 129 dX5_answers_118 (by decide) rfl (fun c3 => ?_) (fun c3 => ?_)
      · refine Ex_iconst 130 (v := 1) dX5_answers_129 (by decide) rfl ?_
        refine Ex_goto 134 dX5_answers_130 (by decide) ?_
        refine Ex_iret dX5_answers_134 rfl (by decide) (Or.inl rfl) ?_
        have hm0 : ¬ many = 0 := fun q => c3 (hmk.mp q)
        exact hQ kn t1 r1 J LL (by rw [he, hmAn_c, if_neg t3, if_neg hm0]) hlen gJ j1 hkn gL hC
      · refine Ex_aload_n 122 (i := 0) dX5_answers_121 rfl rfl rfl ?_
        refine Ex_iconst 123 (v := 1) dX5_answers_122 (by decide) rfl ?_
        refine Ex_callV (M' := MX5_fail) 126 [.int 1] (rest := []) dX5_answers_123 lX5_61 mX5_fail rfl ha.1 rfl (Nat.le_of_ble_eq_true rfl) (Nat.le_of_ble_eq_true rfl) rfl ?_
        refine c_fail (k := 1) ha hC ?_
        simp only [Option.toList, List.nil_append, List.cons_append]
        refine Ex_if_eq 129 133 dX5_answers_126 (by decide) rfl (fun c4 => ?_) (fun c4 => absurd c4 (fun q => q (by decide)))
        refine Ex_iconst 134 (v := 0) dX5_answers_133 (by decide) rfl ?_
        refine Ex_iret dX5_answers_134 rfl (by decide) (Or.inl rfl) ?_
        have hm0 : many = 0 := hmk.mpr c3
        exact hfl 1 (by omega) (by omega) (by rw [hmAn_c, if_neg t3, if_pos hm0])
    · have t3 : t1.1 = 3 := (nI_eq (by omega) (by omega)).mp c2
      have hv := sv.2.1 t3
      have hd4 := sk.2.1 t3
      refine Ex_aload_n 27 (i := 0) dX5_answers_26 rfl rfl rfl ?_
      refine Ex_getR 30 dX5_answers_27 fX5_12 ha.1 rfl ha.2.2.2.1 rfl ?_
      refine Ex_gL 33 (LL (a + 1) 4) dX5_answers_30 fX5_72 ha.2.1 rfl rfl ?_
      rw [hv]
      refine Ex_ldc2 36 (v := 9) dX5_answers_33 kX5_184 rfl ?_
      refine Ex_lcmp 37 dX5_answers_36 rfl ?_
      refine Ex_if_le 40 46 dX5_answers_37 (by decide) rfl (fun c5 => ?_) (fun c5 => ?_)
      · have h9 : ¬ 9 < hmDec t1.2.1 := fun q => hm_lgle.mp c5 ((nL_lt (x := 9) (by omega) (by omega)).mpr q)
        refine Ex_iconst 47 (v := 1) dX5_answers_46 (by decide) rfl ?_
        refine Ex_aload_n 48 (i := 0) dX5_answers_47 rfl rfl rfl ?_
        refine Ex_getR 51 dX5_answers_48 fX5_12 ha.1 rfl ha.2.2.2.1 rfl ?_
        refine Ex_gL 54 (LL (a + 1) 4) dX5_answers_51 fX5_72 ha.2.1 rfl rfl ?_
        rw [hv]
        refine Ex_l2i 55 dX5_answers_54 rfl ?_
        rw [hm_l2i (by omega)]
        refine Ex_ishl 56 dX5_answers_55 rfl ?_
        refine Ex_istore 58 (ls' := [some (.ref a), some (.ref dd), some (.int (nI n)), some (.int (nI many)), some (.int (1 <<< ((nI (hmDec t1.2.1)) &&& 31)))]) dX5_answers_56 (Nat.le_of_ble_eq_true rfl) rfl rfl rfl ?_
        refine Ex_aload_n 59 (i := 1) dX5_answers_58 rfl rfl rfl ?_
        refine Ex_getR 62 dX5_answers_59 fX5_181 hdd.1 rfl hdd.2.2.2.2.2.2.2.2.2.2.2.2.1 rfl ?_
        refine Ex_iload_n 63 (i := 2) dX5_answers_62 rfl rfl rfl ?_
        refine Ex_aI 64 n (J (dd + 4) n) dX5_answers_63 hdd.2.2.2.2.1 rfl (by omega) (by decide) rfl rfl ?_
        rw [hkn]
        refine Ex_iload 66 dX5_answers_64 rfl rfl ?_
        refine Ex_iand 67 dX5_answers_66 rfl ?_
        refine Ex_if_eq 70 76 dX5_answers_67 (by decide) rfl (fun c6 => ?_) (fun c6 => ?_)
        · refine Ex_iload_n 77 (i := 3) dX5_answers_76 rfl rfl rfl ?_
          refine Ex_bipush 79 (v := 6) dX5_answers_77 (by decide) rfl ?_
          refine Ex_icmp_ne 82 88 dX5_answers_79 (by decide) rfl (fun c7 => ?_) (fun c7 => absurd c7 (fun q => absurd ((nI_eq (b := 6) (by omega) (by omega)).mp q) (by omega)))
          refine Ex_aload_n 89 (i := 1) dX5_answers_88 rfl rfl rfl ?_
          refine Ex_getR 92 dX5_answers_89 fX5_181 hdd.1 rfl hdd.2.2.2.2.2.2.2.2.2.2.2.2.1 rfl ?_
          refine Ex_iload_n 93 (i := 2) dX5_answers_92 rfl rfl rfl ?_
          refine Ex_dup2 94 dX5_answers_93 rfl rfl rfl ?_
          refine Ex_aI 95 n (J (dd + 4) n) dX5_answers_94 hdd.2.2.2.2.1 rfl (by omega) (by decide) rfl rfl ?_
          rw [hkn]
          refine Ex_iload 97 dX5_answers_95 rfl rfl ?_
          refine Ex_ior 98 dX5_answers_97 rfl ?_
          refine Ex_sI 99 n (J (dd + 4)) (va_up J (dd + 4) (va_up (J (dd + 4)) n (kn ||| (1 <<< ((nI (hmDec t1.2.1)) &&& 31))))) dX5_answers_98 hdd.2.2.2.2.1 rfl (by omega) (by decide) rfl rfl rfl ?_
          have hC1 : hmCx (va_up J (dd + 4) (va_up (J (dd + 4)) n (kn ||| (1 <<< ((nI (hmDec t1.2.1)) &&& 31))))) LL a T t1 r1 := hC.kept (va_up_ne _ _ (by omega)) (va_up_ne _ _ (by omega)) rfl
          refine Ex_aload_n 100 (i := 0) dX5_answers_99 rfl rfl rfl ?_
          refine Ex_getR 103 dX5_answers_100 fX5_12 ha.1 rfl ha.2.2.2.1 rfl ?_
          refine Ex_callV (M' := MX7_step) 106 [] (rest := []) dX5_answers_103 lX5_65 mX7_step rfl ha.2.1 rfl (Nat.le_of_ble_eq_true rfl) (Nat.le_of_ble_eq_true rfl) rfl ?_
          refine c_rstep ha hc hC1 (by omega) (fun t2 r2 I2 L2 er2 gs2 gt2 hC2 => ?_)
          simp only [Option.toList, List.nil_append, List.cons_append]
          refine Ex_iinc 109 (v := (nI (many + 1))) (ls' := [some (.ref a), some (.ref dd), some (.int (nI n)), some (.int (nI (many + 1))), some (.int (1 <<< ((nI (hmDec t1.2.1)) &&& 31)))]) dX5_answers_106 rfl (xinc _) (Nat.le_of_ble_eq_true rfl) rfl rfl rfl ?_
          refine Ex_goto 9 dX5_answers_109 (by decide) ?_
          refine Ex_fgt (ls' := [some (.ref a), some (.ref dd), some (.int (nI n)), some (.int (nI (many + 1))), none]) (by simp [xsub]) ?_
          have hbit := (hm_kn_bit h10 (by omega)).mp c6
          subst er2
          have z2 : (t1 :: t2 :: r2).length = (t2 :: r2).length + 1 := rfl
          refine ih (many + 1) t2 r2 (kn ||| hmOne (hmDec t1.2.1)) I2 L2 (by omega) (by omega) ?_ (hm_s10_or h10 (hm_s10_one _ (by omega))) ⟨fun q => absurd q (by omega), fun q => absurd q (hm_or_ne (by omega))⟩ ((gJ.tr (hmAf.up hdis)).tr (hmAf.tf hdis (hmTf.sp gs2))) (by rw [gs2.1 a (by omega), va_up_ne _ _ (by omega)]; exact j1) (gL.tr gt2) ?_ hC2
          · rw [he, hmAn_c, if_pos t3, if_neg (by omega), if_neg (by rw [hbit]; decide), if_neg (by omega)]
          · rw [gs2.1 (dd + 4) (by omega), va_up_self, va_up_self]
            rfl
        · refine Ex_aload_n 71 (i := 0) dX5_answers_70 rfl rfl rfl ?_
          refine Ex_iconst 72 (v := 3) dX5_answers_71 (by decide) rfl ?_
          refine Ex_callV (M' := MX5_fail) 75 [.int 3] (rest := []) dX5_answers_72 lX5_61 mX5_fail rfl ha.1 rfl (Nat.le_of_ble_eq_true rfl) (Nat.le_of_ble_eq_true rfl) rfl ?_
          refine c_fail (k := 3) ha hC ?_
          simp only [Option.toList, List.nil_append, List.cons_append]
          refine Ex_iret dX5_answers_75 rfl (by decide) (Or.inl rfl) ?_
          exact hfl 3 (by omega) (by omega) (by rw [hmAn_c, if_pos t3, if_neg (by omega), if_pos (by
            cases q : hmBit kn (hmDec t1.2.1) with
            | true => rfl
            | false => exact absurd ((hm_kn_bit h10 (by omega)).mpr q) c6)])
      · refine Ex_aload_n 41 (i := 0) dX5_answers_40 rfl rfl rfl ?_
        refine Ex_iconst 42 (v := 4) dX5_answers_41 (by decide) rfl ?_
        refine Ex_callV (M' := MX5_fail) 45 [.int 4] (rest := []) dX5_answers_42 lX5_61 mX5_fail rfl ha.1 rfl (Nat.le_of_ble_eq_true rfl) (Nat.le_of_ble_eq_true rfl) rfl ?_
        refine c_fail (k := 4) ha hC ?_
        simp only [Option.toList, List.nil_append, List.cons_append]
        refine Ex_iret dX5_answers_45 rfl (by decide) (Or.inl rfl) ?_
        exact hfl 4 (by omega) (by omega) (by rw [hmAn_c, if_pos t3, if_pos ((nL_lt (x := 9) (by omega) (by omega)).mp (Classical.byContradiction (fun q => c5 (hm_lgle.mpr q))))])
set_option maxHeartbeats 4000000 in
theorem c_answers {d : Nat} {sh : xSh} {R : xR} {L : xL} {I : xI} {Q : xQ} {a dd n : Nat} {T : List Nat} {t : hmTok} {r : List hmTok} (ha : xReader sh R a) (hdd : xDesk sh R dd) (hdis : a + 3 ≤ dd ∨ dd + 9 ≤ a) (hc : ∀ x, x ∈ T → x < 127) (hn6 : n < 6) (hC : hmCx I L a T t r) (hF : ∀ F I' L', hmAn (t :: r) 0 0 = .inl F → 1 ≤ F → F < 20000 → hmAf a dd n I I' → hmSl (a + 1) L L' → I' a 1 = nI F → Q (some (.int 0)) 0 sh R L' I') (hQ : ∀ kn t' r' I' L', hmAn (t :: r) 0 0 = .inr (kn, t' :: r') → (t' :: r').length ≤ (t :: r).length → hmAf a dd n I I' → I' a 1 = I a 1 → I' (dd + 4) n = kn → hmSl (a + 1) L L' → hmCx I' L' a T t' r' → Q (some (.int 1)) 0 sh R L' I') : Ex (d + 6) 0 0 MX5_answers 0 sh R L I 0 [some (.ref a), some (.ref dd), some (.int (nI n)), none, none] [] Q := by
  refine Ex_aload_n 1 (i := 1) dX5_answers_0 rfl rfl rfl ?_
  refine Ex_getR 4 dX5_answers_1 fX5_181 hdd.1 rfl hdd.2.2.2.2.2.2.2.2.2.2.2.2.1 rfl ?_
  refine Ex_iload_n 5 (i := 2) dX5_answers_4 rfl rfl rfl ?_
  refine Ex_iconst 6 (v := 0) dX5_answers_5 (by decide) rfl ?_
  refine Ex_sI 7 n (I (dd + 4)) (va_up I (dd + 4) (va_up (I (dd + 4)) n 0)) dX5_answers_6 hdd.2.2.2.2.1 rfl (by omega) (by decide) rfl rfl rfl ?_
  refine Ex_iconst 8 (v := 0) dX5_answers_7 (by decide) rfl ?_
  refine Ex_istore_n 9 (i := 3) (ls' := [some (.ref a), some (.ref dd), some (.int (nI n)), some (.int 0), none]) dX5_answers_8 rfl (Nat.le_of_ble_eq_true rfl) rfl rfl rfl ?_
  exact c_answers_loop ha hdd hdis hc hn6 (ts := t :: r) hF hQ 6 0 t r 0 _ L rfl (Nat.le_refl _) rfl ⟨0, by omega, rfl⟩ ⟨fun _ => rfl, fun _ => rfl⟩ (hmAf.up hdis) (by rw [va_up_ne _ _ (by omega)]) hmSl.rf (by rw [va_up_self, va_up_self]) (hC.kept (va_up_ne _ _ (by omega)) (va_up_ne _ _ (by omega)) rfl)
