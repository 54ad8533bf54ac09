/-- what reading a caller may change -/
def hmOw (a dd n : Nat) (I I' : xI) : Prop := (∀ x, x ≠ a → x ≠ a + 1 → ¬ (dd ≤ x ∧ x < dd + 6) → I' x = I x) ∧ I' (a + 1) 1 = I (a + 1) 1 ∧ (∀ k, k ≠ 1 → k ≠ 2 → I' a k = I a k) ∧ (∀ k, k ≠ 6 → I' dd k = I dd k) ∧ ∀ j, j ≠ n → I' (dd + 2) j = I (dd + 2) j ∧ I' (dd + 3) j = I (dd + 3) j ∧ I' (dd + 4) j = I (dd + 4) j ∧ I' (dd + 5) j = I (dd + 5) j
def hmOl (a dd n : Nat) (L L' : xL) : Prop := (∀ x, x ≠ a + 1 → x ≠ dd + 1 → L' x = L x) ∧ ∀ j, j ≠ n → L' (dd + 1) j = L (dd + 1) j
theorem hmOw.rf {a dd n : Nat} {I : xI} : hmOw a dd n I I := ⟨fun _ _ _ _ => rfl, rfl, fun _ _ _ => rfl, fun _ _ => rfl, fun _ _ => ⟨rfl, rfl, rfl, rfl⟩⟩
theorem hmOw.tr {a dd n : Nat} {I J K : xI} (h1 : hmOw a dd n I J) (h2 : hmOw a dd n J K) : hmOw a dd n I K := ⟨fun x p q r => (h2.1 x p q r).trans (h1.1 x p q r), h2.2.1.trans h1.2.1, fun k p q => (h2.2.2.1 k p q).trans (h1.2.2.1 k p q), fun k p => (h2.2.2.2.1 k p).trans (h1.2.2.2.1 k p), fun j p => by
  obtain ⟨a1, a2, a3, a4⟩ := h1.2.2.2.2 j p
  obtain ⟨b1, b2, b3, b4⟩ := h2.2.2.2.2 j p
  exact ⟨b1.trans a1, b2.trans a2, b3.trans a3, b4.trans a4⟩⟩
theorem hmOw.tf {a dd n : Nat} {I J : xI} (hd : a + 3 ≤ dd ∨ dd + 9 ≤ a) (h : hmTf a I J) : hmOw a dd n I J := ⟨fun x p q _ => h.1 x p q, h.2.1, h.2.2, fun k _ => by rw [h.1 dd (by omega) (by omega)], fun j _ => by rw [h.1 (dd + 2) (by omega) (by omega), h.1 (dd + 3) (by omega) (by omega), h.1 (dd + 4) (by omega) (by omega), h.1 (dd + 5) (by omega) (by omega)]; exact ⟨rfl, rfl, rfl, rfl⟩⟩
theorem hmOw.sp {a dd n : Nat} {I J : xI} (hd : a + 3 ≤ dd ∨ dd + 9 ≤ a) (h : hmSp (a + 1) I J) : hmOw a dd n I J := hmOw.tf hd (hmTf.sp h)
theorem hmOw.af {a dd n : Nat} {I J : xI} (hd : a + 3 ≤ dd ∨ dd + 9 ≤ a) (h : hmAf a dd n I J) : hmOw a dd n I J := ⟨fun x p q r => h.1 x p q (by omega), h.2.1, h.2.2.1, fun k _ => by rw [h.1 dd (by omega) (by omega) (by omega)], fun j p => by rw [h.1 (dd + 2) (by omega) (by omega) (by omega), h.1 (dd + 3) (by omega) (by omega) (by omega), h.1 (dd + 5) (by omega) (by omega) (by omega)]; exact ⟨rfl, rfl, h.2.2.2 j p, rfl⟩⟩
theorem hmOw.up {a dd n : Nat} {I : xI} (hd : a + 3 ≤ dd ∨ dd + 9 ≤ a) {y : Nat} (hy : y = dd + 2 ∨ y = dd + 3 ∨ y = dd + 4 ∨ y = dd + 5) {v : Int32} : hmOw a dd n I (va_up I y (va_up (I y) n v)) := ⟨fun x _ _ p => va_up_ne _ _ (by omega), by rw [va_up_ne _ _ (by omega)], fun k _ _ => by rw [va_up_ne _ _ (by omega)], fun k _ => by rw [va_up_ne _ _ (by omega)], fun j p => by
  have g : ∀ z, va_up I y (va_up (I y) n v) z j = I z j := fun z => by
    by_cases e : z = y
    · rw [e, va_up_self, va_up_ne _ _ p]
    · rw [va_up_ne _ _ e]
  exact ⟨g _, g _, g _, g _⟩⟩
theorem hmOw.um {a dd n : Nat} {I : xI} (hd : a + 3 ≤ dd ∨ dd + 9 ≤ a) {v : Int32} : hmOw a dd n I (va_up I dd (va_up (I dd) 6 v)) := ⟨fun x _ _ p => va_up_ne _ _ (by omega), by rw [va_up_ne _ _ (by omega)], fun k _ _ => by rw [va_up_ne _ _ (by omega)], fun k p => by rw [va_up_self, va_up_ne _ _ p], fun j p => by rw [va_up_ne _ _ (by omega), va_up_ne _ _ (by omega), va_up_ne _ _ (by omega), va_up_ne _ _ (by omega)]; exact ⟨rfl, rfl, rfl, rfl⟩⟩
theorem hmOl.rf {a dd n : Nat} {L : xL} : hmOl a dd n L L := ⟨fun _ _ _ => rfl, fun _ _ => rfl⟩
theorem hmOl.tr {a dd n : Nat} {L J K : xL} (h1 : hmOl a dd n L J) (h2 : hmOl a dd n J K) : hmOl a dd n L K := ⟨fun x p q => (h2.1 x p q).trans (h1.1 x p q), fun j p => (h2.2 j p).trans (h1.2 j p)⟩
theorem hmOl.sl {a dd n : Nat} {L J : xL} (hd : a + 3 ≤ dd ∨ dd + 9 ≤ a) (h : hmSl (a + 1) L J) : hmOl a dd n L J := ⟨fun x p _ => h x p, fun j _ => by rw [h (dd + 1) (by omega)]⟩
theorem hmOl.up {a dd n : Nat} {L : xL} {v : Int64} : hmOl a dd n L (va_up L (dd + 1) (va_up (L (dd + 1)) n v)) := ⟨fun x _ p => va_up_ne _ _ p, fun j p => by rw [va_up_self, va_up_ne _ _ p]⟩
theorem hmC2_no {nm : List Nat} {t : hmTok} {r : List hmTok} (h : hmKk t = none) : hmC2 nm (t :: r) = .inl (hmFl 1 t) := by
  show (match hmKk t with | none => Sum.inl (hmFl 1 t) | some k => hmC3 nm k r) = _
  rw [h]
theorem hmC2_yes {nm : List Nat} {t : hmTok} {r : List hmTok} {k : Nat} (h : hmKk t = some k) : hmC2 nm (t :: r) = hmC3 nm k r := by
  show (match hmKk t with | none => Sum.inl (hmFl 1 t) | some k => hmC3 nm k r) = _
  rw [h]
theorem hmFl_lt {k : Nat} {t : hmTok} (h1 : 1 ≤ k) (h2 : k ≤ 5) (h3 : t.2.2 ≤ 1000) : 1 ≤ hmFl k t ∧ hmFl k t < 20000 := by
  unfold hmFl
  omega
set_option maxHeartbeats 4000000 in
theorem c_callerLine {d : Nat} {sh : xSh} {R : xR} {L : xL} {I : xI} {Q : xQ} {a dd : Nat} {T : List Nat} {t : hmTok} {r : List hmTok} (ha : xReader sh R a) (hdd : xDesk sh R dd) (hdis : a + 3 ≤ dd ∨ dd + 9 ≤ a) (hc : ∀ x, x ∈ T → x < 127) (hC : hmCx I L a T t r) {nms : List (List Nat)} (hnl : nms.length < 6) (h6 : I dd 6 = nI nms.length) (hnm : ∀ i, i < nms.length → L (dd + 1) i = hmE256 (nms.getD i []) ∧ hmWd (nms.getD i [])) (ht : ¬ t.1 = 0) (hF : ∀ F I' L', hmCL nms r = .inl F → 1 ≤ F → F < 20000 → hmOw a dd nms.length I I' → hmOl a dd nms.length L L' → I' a 1 = nI F → Q (some (.int 0)) 0 sh R L' I') (hQ : ∀ c t' r' I' L', hmCL nms r = .inr (c, t' :: r') → (t' :: r').length ≤ r.length → hmOw a dd nms.length I I' → hmOl a dd nms.length L L' → I' dd 6 = nI (nms.length + 1) → I' a 1 = I a 1 → (L' (dd + 1) nms.length = hmE256 c.1 ∧ I' (dd + 2) nms.length = nI c.2.1 ∧ I' (dd + 3) nms.length = nI c.2.2.1 ∧ I' (dd + 4) nms.length = c.2.2.2.1 ∧ I' (dd + 5) nms.length = nI c.2.2.2.2) → hmCx I' L' a T t' r' → Q (some (.int 1)) 0 sh R L' I') : Ex (d + 7) 0 0 MX5_callerLine 0 sh R L I 0 [some (.ref a), some (.ref dd), some (.int (nI nms.length))] [] Q := by
  refine Ex_aload_n 1 (i := 0) dX5_callerLine_0 rfl rfl rfl ?_
  refine Ex_getR 4 dX5_callerLine_1 fX5_12 ha.1 rfl ha.2.2.2.1 rfl ?_
  refine Ex_callV (M' := MX7_step) 7 [] (rest := []) dX5_callerLine_4 lX5_65 mX7_step rfl ha.2.1 rfl (Nat.le_of_ble_eq_true rfl) (Nat.le_of_ble_eq_true rfl) rfl ?_
  refine c_rstep ha hc hC ht (fun t1 r1 I1 L1 er1 gs1 gt1 hC1 => ?_)
  simp only [Option.toList, List.nil_append, List.cons_append]
  have g1 : hmOw a dd nms.length I I1 := hmOw.sp hdis gs1
  have l1 : hmOl a dd nms.length L L1 := hmOl.sl hdis gt1
  refine Ex_aload_n 8 (i := 0) dX5_callerLine_7 rfl rfl rfl ?_
  refine Ex_aload_n 9 (i := 1) dX5_callerLine_8 rfl rfl rfl ?_
  refine Ex_iload_n 10 (i := 2) dX5_callerLine_9 rfl rfl rfl ?_
  refine Ex_callV (M' := MX5_newName) 13 [.ref dd, .int (nI nms.length)] (rest := []) dX5_callerLine_10 lX5_106 mX5_newName rfl ha.1 rfl (Nat.le_of_ble_eq_true rfl) (Nat.le_of_ble_eq_true rfl) rfl ?_
  refine c_newName (n := nms.length) ha hdd hdis hc (by omega) hC1 (nms := nms) (by omega) (by rw [gs1.1 dd (by omega)]; exact h6) (fun i hi => by rw [gt1 (dd + 1) (by omega)]; exact hnm i hi) (fun hb => ?_) (fun hb hin => ?_) (fun hb hin t2 r2 I2 L2 er2 gs2 gt2 hC2 => ?_)
  · simp only [Option.toList, List.nil_append, List.cons_append]
    refine Ex_if_eq 16 25 dX5_callerLine_13 (by decide) rfl (fun c1 => ?_) (fun c1 => absurd c1 (fun q => q (by decide)))
    refine Ex_iconst 26 (v := 0) dX5_callerLine_25 (by decide) rfl ?_
    refine Ex_iret dX5_callerLine_26 rfl (by decide) (Or.inl rfl) ?_
    have hfl := hmFl_lt (k := 1) (t := t1) (by omega) (by omega) hC1.2.2.2.2.2.2.2
    exact hF (hmFl 1 t1) _ L1 (by rw [er1]; exact if_neg (by rw [hb]; decide)) hfl.1 hfl.2 (g1.tr (hmOw.tf hdis (hmTf.up (Or.inl rfl)))) (l1) (by rw [va_up_self, va_up_self])
  · simp only [Option.toList, List.nil_append, List.cons_append]
    refine Ex_if_eq 16 25 dX5_callerLine_13 (by decide) rfl (fun c2 => ?_) (fun c2 => absurd c2 (fun q => q (by decide)))
    refine Ex_iconst 26 (v := 0) dX5_callerLine_25 (by decide) rfl ?_
    refine Ex_iret dX5_callerLine_26 rfl (by decide) (Or.inl rfl) ?_
    have hfl := hmFl_lt (k := 3) (t := t1) (by omega) (by omega) hC1.2.2.2.2.2.2.2
    exact hF (hmFl 3 t1) _ L1 (by rw [er1]; exact (if_pos hb).trans (if_pos hin)) hfl.1 hfl.2 (g1.tr (hmOw.tf hdis (hmTf.up (Or.inl rfl)))) (l1) (by rw [va_up_self, va_up_self])
  · simp only [Option.toList, List.nil_append, List.cons_append]
    have g2 := g1.tr (hmOw.sp (n := nms.length) hdis gs2)
    have l2 := (l1.tr hmOl.up).tr (hmOl.sl hdis gt2)
    have v2 : L2 (dd + 1) nms.length = hmE256 t1.2.1 := by rw [gt2 (dd + 1) (by omega), va_up_self, va_up_self]
    have e2 : hmCL nms r = hmC2 t1.2.1 (t2 :: r2) := by rw [er1, ← er2]; exact (if_pos hb).trans (if_neg hin)
    have zz2 : (t2 :: r2).length < r.length := by rw [er1, er2]; simp
    refine Ex_if_eq 16 25 dX5_callerLine_13 (by decide) rfl (fun c3 => absurd c3 (by decide)) (fun c3 => ?_)
    refine Ex_aload_n 17 (i := 0) dX5_callerLine_16 rfl rfl rfl ?_
    refine Ex_aload_n 18 (i := 1) dX5_callerLine_17 rfl rfl rfl ?_
    refine Ex_iload_n 19 (i := 2) dX5_callerLine_18 rfl rfl rfl ?_
    refine Ex_callV (M' := MX5_kindWord) 22 [.ref dd, .int (nI nms.length)] (rest := []) dX5_callerLine_19 lX5_109 mX5_kindWord rfl ha.1 rfl (Nat.le_of_ble_eq_true rfl) (Nat.le_of_ble_eq_true rfl) rfl ?_
    refine c_kindWord (n := nms.length) ha hdd hdis hc (by omega) hC2 (fun hb => ?_) (fun k hb t3 r3 I3 L3 er3 gs3 gt3 hC3 => ?_)
    · simp only [Option.toList, List.nil_append, List.cons_append]
      refine Ex_if_ne 25 27 dX5_callerLine_22 (by decide) rfl (fun c4 => absurd c4 (fun q => q (by decide))) (fun c4 => ?_)
      refine Ex_iconst 26 (v := 0) dX5_callerLine_25 (by decide) rfl ?_
      refine Ex_iret dX5_callerLine_26 rfl (by decide) (Or.inl rfl) ?_
      have hfl := hmFl_lt (k := 1) (t := t2) (by omega) (by omega) hC2.2.2.2.2.2.2.2
      exact hF (hmFl 1 t2) _ L2 (by rw [e2]; exact hmC2_no hb) hfl.1 hfl.2 (g2.tr (hmOw.tf hdis (hmTf.up (Or.inl rfl)))) (l2) (by rw [va_up_self, va_up_self])
    · simp only [Option.toList, List.nil_append, List.cons_append]
      have g3 := (g2.tr (hmOw.up hdis (Or.inl rfl))).tr (hmOw.sp (n := nms.length) hdis gs3)
      have l3 := l2.tr (hmOl.sl hdis gt3)
      have v3 : I3 (dd + 2) nms.length = nI k := by rw [gs3.1 (dd + 2) (by omega), va_up_self, va_up_self]
      have w3 : L3 (dd + 1) nms.length = hmE256 t1.2.1 := by rw [gt3 (dd + 1) (by omega)]; exact v2
      have e3 : hmCL nms r = hmC3 t1.2.1 k (t3 :: r3) := by rw [e2, ← er3]; exact hmC2_yes hb
      have zz3 : (t3 :: r3).length < r.length := by rw [er3] at zz2; simp at zz2 ⊢; omega
      refine Ex_if_ne 25 27 dX5_callerLine_22 (by decide) rfl (fun c5 => ?_) (fun c5 => absurd c5 (by decide))
      refine Ex_aload_n 28 (i := 0) dX5_callerLine_27 rfl rfl rfl ?_
      refine Ex_ldc2 31 (v := 32776920334756965) dX5_callerLine_28 kX5_112 rfl ?_
      refine Ex_callV (M' := MX5_passWord) 34 [.long 32776920334756965] (rest := []) dX5_callerLine_31 lX5_114 mX5_passWord rfl ha.1 rfl (Nat.le_of_ble_eq_true rfl) (Nat.le_of_ble_eq_true rfl) rfl ?_
      refine c_passWord (l := wTrouble) ha hc hC3 (by decide +kernel) (by unfold hmWd; decide) (fun hb => ?_) (fun hb t4 r4 I4 L4 er4 gs4 gt4 hC4 => ?_)
      · simp only [Option.toList, List.nil_append, List.cons_append]
        refine Ex_if_eq 37 47 dX5_callerLine_34 (by decide) rfl (fun c6 => ?_) (fun c6 => absurd c6 (fun q => q (by decide)))
        refine Ex_iconst 48 (v := 0) dX5_callerLine_47 (by decide) rfl ?_
        refine Ex_iret dX5_callerLine_48 rfl (by decide) (Or.inl rfl) ?_
        have hfl := hmFl_lt (k := 1) (t := t3) (by omega) (by omega) hC3.2.2.2.2.2.2.2
        exact hF (hmFl 1 t3) _ L3 (by rw [e3]; unfold hmC3; rw [hmXw_no hb]; rfl) hfl.1 hfl.2 (g3.tr (hmOw.tf hdis (hmTf.up (Or.inl rfl)))) (l3) (by rw [va_up_self, va_up_self])
      · simp only [Option.toList, List.nil_append, List.cons_append]
        have g4 := g3.tr (hmOw.sp (n := nms.length) hdis gs4)
        have l4 := l3.tr (hmOl.sl hdis gt4)
        have v4 : I4 (dd + 2) nms.length = nI k := by rw [gs4.1 (dd + 2) (by omega)]; exact v3
        have w4 : L4 (dd + 1) nms.length = hmE256 t1.2.1 := by rw [gt4 (dd + 1) (by omega)]; exact w3
        have e4 : hmCL nms r = hmC4 t1.2.1 k (t4 :: r4) := by rw [e3, ← er4]; unfold hmC3; rw [hmXw_yes hb]; rfl
        have zz4 : (t4 :: r4).length < r.length := by rw [er4] at zz3; simp at zz3 ⊢; omega
        refine Ex_if_eq 37 47 dX5_callerLine_34 (by decide) rfl (fun c7 => absurd c7 (by decide)) (fun c7 => ?_)
        refine Ex_aload_n 38 (i := 0) dX5_callerLine_37 rfl rfl rfl ?_
        refine Ex_iconst 39 (v := 0) dX5_callerLine_38 (by decide) rfl ?_
        refine Ex_bipush 41 (v := 9) dX5_callerLine_39 (by decide) rfl ?_
        refine Ex_callV (M' := MX5_passNumber) 44 [.int 0, .int 9] (rest := []) dX5_callerLine_41 lX5_117 mX5_passNumber rfl ha.1 rfl (Nat.le_of_ble_eq_true rfl) (Nat.le_of_ble_eq_true rfl) rfl ?_
        refine c_passNumber (lo := 0) (hi := 9) ha hc hC4 (by decide) (by decide) (fun hb => ?_) (fun hb hb4 => ?_) (fun hb hb1 hb2 t5 r5 I5 L5 er5 gs5 gv5 gf5 gt5 hC5 => ?_)
        · simp only [Option.toList, List.nil_append, List.cons_append]
          refine Ex_if_ne 47 49 dX5_callerLine_44 (by decide) rfl (fun c8 => absurd c8 (fun q => q (by decide))) (fun c8 => ?_)
          refine Ex_iconst 48 (v := 0) dX5_callerLine_47 (by decide) rfl ?_
          refine Ex_iret dX5_callerLine_48 rfl (by decide) (Or.inl rfl) ?_
          have hfl := hmFl_lt (k := 1) (t := t4) (by omega) (by omega) hC4.2.2.2.2.2.2.2
          exact hF (hmFl 1 t4) _ L4 (by rw [e4]; unfold hmC4; rw [hmXn_no hb]; rfl) hfl.1 hfl.2 (g4.tr (hmOw.tf hdis (hmTf.up (Or.inl rfl)))) (l4) (by rw [va_up_self, va_up_self])
        · simp only [Option.toList, List.nil_append, List.cons_append]
          refine Ex_if_ne 47 49 dX5_callerLine_44 (by decide) rfl (fun c9 => absurd c9 (fun q => q (by decide))) (fun c9 => ?_)
          refine Ex_iconst 48 (v := 0) dX5_callerLine_47 (by decide) rfl ?_
          refine Ex_iret dX5_callerLine_48 rfl (by decide) (Or.inl rfl) ?_
          have hfl := hmFl_lt (k := 4) (t := t4) (by omega) (by omega) hC4.2.2.2.2.2.2.2
          exact hF (hmFl 4 t4) _ L4 (by rw [e4]; unfold hmC4; rw [hmXn_out hb hb4]; rfl) hfl.1 hfl.2 (g4.tr (hmOw.tf hdis (hmTf.up (Or.inl rfl)))) (l4) (by rw [va_up_self, va_up_self])
        · simp only [Option.toList, List.nil_append, List.cons_append]
          have g5 := g4.tr (hmOw.tf (n := nms.length) hdis gs5)
          have l5 := l4.tr (hmOl.sl hdis gt5)
          have v5 : I5 (dd + 2) nms.length = nI k := by rw [gs5.1 (dd + 2) (by omega) (by omega)]; exact v4
          have w5 : L5 (dd + 1) nms.length = hmE256 t1.2.1 := by rw [gt5 (dd + 1) (by omega)]; exact w4
          have e5 : hmCL nms r = hmC5 t1.2.1 k (hmDec t4.2.1) (t5 :: r5) := by rw [e4, ← er5]; unfold hmC4; rw [hmXn_yes hb hb1 hb2]; rfl
          have zz5 : (t5 :: r5).length < r.length := by rw [er5] at zz4; simp at zz4 ⊢; omega
          refine Ex_if_ne 47 49 dX5_callerLine_44 (by decide) rfl (fun c10 => ?_) (fun c10 => absurd c10 (by decide))
          refine Ex_aload_n 50 (i := 1) dX5_callerLine_49 rfl rfl rfl ?_
          refine Ex_getR 53 dX5_callerLine_50 fX5_121 hdd.1 rfl hdd.2.2.2.2.2.2.2.2.2.2.2.1 rfl ?_
          refine Ex_iload_n 54 (i := 2) dX5_callerLine_53 rfl rfl rfl ?_
          refine Ex_aload_n 55 (i := 0) dX5_callerLine_54 rfl rfl rfl ?_
          refine Ex_gI 58 (I5 a 2) dX5_callerLine_55 fX5_76 ha.1 rfl rfl rfl ?_
          rw [gv5]
          refine Ex_sI 59 nms.length (I5 (dd + 3)) (va_up I5 (dd + 3) (va_up (I5 (dd + 3)) nms.length (nI (hmDec t4.2.1)))) dX5_callerLine_58 hdd.2.2.2.1 rfl (by omega) (by decide) rfl rfl rfl ?_
          have hC5x : hmCx (va_up I5 (dd + 3) (va_up (I5 (dd + 3)) nms.length (nI (hmDec t4.2.1)))) L5 a T t5 r5 := hC5.kept (va_up_ne _ _ (by omega)) (va_up_ne _ _ (by omega)) rfl
          have g5x := g5.tr (hmOw.up (n := nms.length) hdis (Or.inr (Or.inl rfl)) (I := I5) (v := nI (hmDec t4.2.1)))
          refine Ex_aload_n 60 (i := 0) dX5_callerLine_59 rfl rfl rfl ?_
          refine Ex_ldc2 63 (v := 461414299507) dX5_callerLine_60 kX5_125 rfl ?_
          refine Ex_callV (M' := MX5_passWord) 66 [.long 461414299507] (rest := []) dX5_callerLine_63 lX5_114 mX5_passWord rfl ha.1 rfl (Nat.le_of_ble_eq_true rfl) (Nat.le_of_ble_eq_true rfl) rfl ?_
          refine c_passWord (l := wKnows) ha hc hC5x (by decide +kernel) (by unfold hmWd; decide) (fun hb => ?_) (fun hb t6 r6 I6 L6 er6 gs6 gt6 hC6 => ?_)
          · simp only [Option.toList, List.nil_append, List.cons_append]
            refine Ex_if_eq 69 78 dX5_callerLine_66 (by decide) rfl (fun c11 => ?_) (fun c11 => absurd c11 (fun q => q (by decide)))
            refine Ex_iconst 79 (v := 0) dX5_callerLine_78 (by decide) rfl ?_
            refine Ex_iret dX5_callerLine_79 rfl (by decide) (Or.inl rfl) ?_
            have hfl := hmFl_lt (k := 1) (t := t5) (by omega) (by omega) hC5x.2.2.2.2.2.2.2
            exact hF (hmFl 1 t5) _ L5 (by rw [e5]; unfold hmC5; rw [hmXw_no hb]; rfl) hfl.1 hfl.2 (g5x.tr (hmOw.tf hdis (hmTf.up (Or.inl rfl)))) (l5) (by rw [va_up_self, va_up_self])
          · simp only [Option.toList, List.nil_append, List.cons_append]
            have g6 := g5x.tr (hmOw.sp (n := nms.length) hdis gs6)
            have l6 := l5.tr (hmOl.sl hdis gt6)
            have v6 : I6 (dd + 2) nms.length = nI k := by rw [gs6.1 (dd + 2) (by omega), va_up_ne _ _ (by omega)]; exact v5
            have u6 : I6 (dd + 3) nms.length = nI (hmDec t4.2.1) := by rw [gs6.1 (dd + 3) (by omega), va_up_self, va_up_self]
            have w6 : L6 (dd + 1) nms.length = hmE256 t1.2.1 := by rw [gt6 (dd + 1) (by omega)]; exact w5
            have e6 : hmCL nms r = hmC6 t1.2.1 k (hmDec t4.2.1) (t6 :: r6) := by rw [e5, ← er6]; unfold hmC5; rw [hmXw_yes hb]; rfl
            have zz6 : (t6 :: r6).length < r.length := by rw [er6] at zz5; simp at zz5 ⊢; omega
            refine Ex_if_eq 69 78 dX5_callerLine_66 (by decide) rfl (fun c12 => absurd c12 (by decide)) (fun c12 => ?_)
            refine Ex_aload_n 70 (i := 0) dX5_callerLine_69 rfl rfl rfl ?_
            refine Ex_aload_n 71 (i := 1) dX5_callerLine_70 rfl rfl rfl ?_
            refine Ex_iload_n 72 (i := 2) dX5_callerLine_71 rfl rfl rfl ?_
            refine Ex_callV (M' := MX5_answers) 75 [.ref dd, .int (nI nms.length)] (rest := []) dX5_callerLine_72 lX5_127 mX5_answers rfl ha.1 rfl (Nat.le_of_ble_eq_true rfl) (Nat.le_of_ble_eq_true rfl) rfl ?_
            refine c_answers (n := nms.length) ha hdd hdis hc (by omega) hC6 (fun F7 I7 L7 ef7 fa7 fb7 ga7 gt7 k7 => ?_) (fun kn t7 r7 I7 L7 ef7 ln7 ga7 gf7 kv7 gt7 hC7 => ?_)
            · simp only [Option.toList, List.nil_append, List.cons_append]
              refine Ex_if_ne 78 80 dX5_callerLine_75 (by decide) rfl (fun c13 => absurd c13 (fun q => q (by decide))) (fun c13 => ?_)
              refine Ex_iconst 79 (v := 0) dX5_callerLine_78 (by decide) rfl ?_
              refine Ex_iret dX5_callerLine_79 rfl (by decide) (Or.inl rfl) ?_
              exact hF F7 I7 L7 (by rw [e6]; unfold hmC6; rw [ef7]; rfl) fa7 fb7 (g6.tr (hmOw.af hdis ga7)) (l6.tr (hmOl.sl hdis gt7)) k7
            · simp only [Option.toList, List.nil_append, List.cons_append]
              have g7 := g6.tr (hmOw.af hdis ga7)
              have l7 := l6.tr (hmOl.sl hdis gt7)
              have v7 : I7 (dd + 2) nms.length = nI k := by rw [ga7.1 (dd + 2) (by omega) (by omega) (by omega)]; exact v6
              have u7 : I7 (dd + 3) nms.length = nI (hmDec t4.2.1) := by rw [ga7.1 (dd + 3) (by omega) (by omega) (by omega)]; exact u6
              have w7 : L7 (dd + 1) nms.length = hmE256 t1.2.1 := by rw [gt7 (dd + 1) (by omega)]; exact w6
              have e7 : hmCL nms r = hmC7 t1.2.1 k (hmDec t4.2.1) kn (t7 :: r7) := by rw [e6]; unfold hmC6; rw [ef7]; rfl
              have zz7 : (t7 :: r7).length < r.length := by omega
              refine Ex_if_ne 78 80 dX5_callerLine_75 (by decide) rfl (fun c14 => ?_) (fun c14 => absurd c14 (by decide))
              refine Ex_aload_n 81 (i := 0) dX5_callerLine_80 rfl rfl rfl ?_
              refine Ex_ldc2 84 (v := 448545973363) dX5_callerLine_81 kX5_130 rfl ?_
              refine Ex_callV (M' := MX5_passWord) 87 [.long 448545973363] (rest := []) dX5_callerLine_84 lX5_114 mX5_passWord rfl ha.1 rfl (Nat.le_of_ble_eq_true rfl) (Nat.le_of_ble_eq_true rfl) rfl ?_
              refine c_passWord (l := wHolds) ha hc hC7 (by decide +kernel) (by unfold hmWd; decide) (fun hb => ?_) (fun hb t8 r8 I8 L8 er8 gs8 gt8 hC8 => ?_)
              · simp only [Option.toList, List.nil_append, List.cons_append]
                refine Ex_if_eq 90 100 dX5_callerLine_87 (by decide) rfl (fun c15 => ?_) (fun c15 => absurd c15 (fun q => q (by decide)))
                refine Ex_iconst 101 (v := 0) dX5_callerLine_100 (by decide) rfl ?_
                refine Ex_iret dX5_callerLine_101 rfl (by decide) (Or.inl rfl) ?_
                have hfl := hmFl_lt (k := 1) (t := t7) (by omega) (by omega) hC7.2.2.2.2.2.2.2
                exact hF (hmFl 1 t7) _ L7 (by rw [e7]; unfold hmC7; rw [hmXw_no hb]; rfl) hfl.1 hfl.2 (g7.tr (hmOw.tf hdis (hmTf.up (Or.inl rfl)))) (l7) (by rw [va_up_self, va_up_self])
              · simp only [Option.toList, List.nil_append, List.cons_append]
                have g8 := g7.tr (hmOw.sp (n := nms.length) hdis gs8)
                have l8 := l7.tr (hmOl.sl hdis gt8)
                have v8 : I8 (dd + 2) nms.length = nI k := by rw [gs8.1 (dd + 2) (by omega)]; exact v7
                have u8 : I8 (dd + 3) nms.length = nI (hmDec t4.2.1) := by rw [gs8.1 (dd + 3) (by omega)]; exact u7
                have q8 : I8 (dd + 4) nms.length = kn := by rw [gs8.1 (dd + 4) (by omega)]; exact kv7
                have w8 : L8 (dd + 1) nms.length = hmE256 t1.2.1 := by rw [gt8 (dd + 1) (by omega)]; exact w7
                have e8 : hmCL nms r = hmC8 t1.2.1 k (hmDec t4.2.1) kn (t8 :: r8) := by rw [e7, ← er8]; unfold hmC7; rw [hmXw_yes hb]; rfl
                have zz8 : (t8 :: r8).length < r.length := by rw [er8] at zz7; simp at zz7 ⊢; omega
                refine Ex_if_eq 90 100 dX5_callerLine_87 (by decide) rfl (fun c16 => absurd c16 (by decide)) (fun c16 => ?_)
                refine Ex_aload_n 91 (i := 0) dX5_callerLine_90 rfl rfl rfl ?_
                refine Ex_iconst 92 (v := 1) dX5_callerLine_91 (by decide) rfl ?_
                refine Ex_bipush 94 (v := 30) dX5_callerLine_92 (by decide) rfl ?_
                refine Ex_callV (M' := MX5_passNumber) 97 [.int 1, .int 30] (rest := []) dX5_callerLine_94 lX5_117 mX5_passNumber rfl ha.1 rfl (Nat.le_of_ble_eq_true rfl) (Nat.le_of_ble_eq_true rfl) rfl ?_
                refine c_passNumber (lo := 1) (hi := 30) ha hc hC8 (by decide) (by decide) (fun hb => ?_) (fun hb hb4 => ?_) (fun hb hb1 hb2 t9 r9 I9 L9 er9 gs9 gv9 gf9 gt9 hC9 => ?_)
                · simp only [Option.toList, List.nil_append, List.cons_append]
                  refine Ex_if_ne 100 102 dX5_callerLine_97 (by decide) rfl (fun c17 => absurd c17 (fun q => q (by decide))) (fun c17 => ?_)
                  refine Ex_iconst 101 (v := 0) dX5_callerLine_100 (by decide) rfl ?_
                  refine Ex_iret dX5_callerLine_101 rfl (by decide) (Or.inl rfl) ?_
                  have hfl := hmFl_lt (k := 1) (t := t8) (by omega) (by omega) hC8.2.2.2.2.2.2.2
                  exact hF (hmFl 1 t8) _ L8 (by rw [e8]; unfold hmC8; rw [hmXn_no hb]; rfl) hfl.1 hfl.2 (g8.tr (hmOw.tf hdis (hmTf.up (Or.inl rfl)))) (l8) (by rw [va_up_self, va_up_self])
                · simp only [Option.toList, List.nil_append, List.cons_append]
                  refine Ex_if_ne 100 102 dX5_callerLine_97 (by decide) rfl (fun c18 => absurd c18 (fun q => q (by decide))) (fun c18 => ?_)
                  refine Ex_iconst 101 (v := 0) dX5_callerLine_100 (by decide) rfl ?_
                  refine Ex_iret dX5_callerLine_101 rfl (by decide) (Or.inl rfl) ?_
                  have hfl := hmFl_lt (k := 4) (t := t8) (by omega) (by omega) hC8.2.2.2.2.2.2.2
                  exact hF (hmFl 4 t8) _ L8 (by rw [e8]; unfold hmC8; rw [hmXn_out hb hb4]; rfl) hfl.1 hfl.2 (g8.tr (hmOw.tf hdis (hmTf.up (Or.inl rfl)))) (l8) (by rw [va_up_self, va_up_self])
                · simp only [Option.toList, List.nil_append, List.cons_append]
                  have g9 := g8.tr (hmOw.tf (n := nms.length) hdis gs9)
                  have l9 := l8.tr (hmOl.sl hdis gt9)
                  have v9 : I9 (dd + 2) nms.length = nI k := by rw [gs9.1 (dd + 2) (by omega) (by omega)]; exact v8
                  have u9 : I9 (dd + 3) nms.length = nI (hmDec t4.2.1) := by rw [gs9.1 (dd + 3) (by omega) (by omega)]; exact u8
                  have q9 : I9 (dd + 4) nms.length = kn := by rw [gs9.1 (dd + 4) (by omega) (by omega)]; exact q8
                  have w9 : L9 (dd + 1) nms.length = hmE256 t1.2.1 := by rw [gt9 (dd + 1) (by omega)]; exact w8
                  have e9 : hmCL nms r = hmC9 (t1.2.1, k, hmDec t4.2.1, kn, hmDec t8.2.1) (t9 :: r9) := by rw [e8, ← er9]; unfold hmC8; rw [hmXn_yes hb hb1 hb2]; rfl
                  have zz9 : (t9 :: r9).length < r.length := by rw [er9] at zz8; simp at zz8 ⊢; omega
                  refine Ex_if_ne 100 102 dX5_callerLine_97 (by decide) rfl (fun c19 => ?_) (fun c19 => absurd c19 (by decide))
                  refine Ex_aload_n 103 (i := 1) dX5_callerLine_102 rfl rfl rfl ?_
                  refine Ex_getR 106 dX5_callerLine_103 fX5_132 hdd.1 rfl hdd.2.2.2.2.2.2.2.2.2.2.2.2.2.1 rfl ?_
                  refine Ex_iload_n 107 (i := 2) dX5_callerLine_106 rfl rfl rfl ?_
                  refine Ex_aload_n 108 (i := 0) dX5_callerLine_107 rfl rfl rfl ?_
                  refine Ex_gI 111 (I9 a 2) dX5_callerLine_108 fX5_76 ha.1 rfl rfl rfl ?_
                  rw [gv9]
                  refine Ex_sI 112 nms.length (I9 (dd + 5)) (va_up I9 (dd + 5) (va_up (I9 (dd + 5)) nms.length (nI (hmDec t8.2.1)))) dX5_callerLine_111 hdd.2.2.2.2.2.1 rfl (by omega) (by decide) rfl rfl rfl ?_
                  refine Ex_aload_n 113 (i := 1) dX5_callerLine_112 rfl rfl rfl ?_
                  refine Ex_iload_n 114 (i := 2) dX5_callerLine_113 rfl rfl rfl ?_
                  refine Ex_iconst 115 (v := 1) dX5_callerLine_114 (by decide) rfl ?_
                  refine Ex_iadd 116 dX5_callerLine_115 rfl ?_
                  rw [nI_1]
                  refine Ex_pI 119 (I9 dd) (va_up (va_up I9 (dd + 5) (va_up (I9 (dd + 5)) nms.length (nI (hmDec t8.2.1)))) dd (va_up (I9 dd) 6 (nI (nms.length + 1)))) dX5_callerLine_116 fX5_81 rfl hdd.1 rfl (fun _ => rfl) (va_up_ne _ _ (by omega)) rfl rfl rfl ?_
                  have hC9x : hmCx (va_up (va_up I9 (dd + 5) (va_up (I9 (dd + 5)) nms.length (nI (hmDec t8.2.1)))) dd (va_up (I9 dd) 6 (nI (nms.length + 1)))) L9 a T t9 r9 := hC9.kept (by rw [va_up_ne _ _ (by omega), va_up_ne _ _ (by omega)]) (by rw [va_up_ne _ _ (by omega), va_up_ne _ _ (by omega)]) rfl
                  have g9x : hmOw a dd nms.length I (va_up (va_up I9 (dd + 5) (va_up (I9 (dd + 5)) nms.length (nI (hmDec t8.2.1)))) dd (va_up (I9 dd) 6 (nI (nms.length + 1)))) := by
                    have h1 := g9.tr (hmOw.up (n := nms.length) hdis (Or.inr (Or.inr (Or.inr rfl))) (I := I9) (v := nI (hmDec t8.2.1)))
                    have h2 := h1.tr (hmOw.um (n := nms.length) hdis (v := nI (nms.length + 1)))
                    rw [va_up_ne _ _ (show dd ≠ dd + 5 by omega)] at h2
                    exact h2
                  refine Ex_aload_n 120 (i := 0) dX5_callerLine_119 rfl rfl rfl ?_
                  refine Ex_bipush 122 (v := 59) dX5_callerLine_120 (by decide) rfl ?_
                  refine Ex_callV (M' := MX5_passSign) 125 [.int 59] (rest := []) dX5_callerLine_122 lX5_103 mX5_passSign rfl ha.1 rfl (Nat.le_of_ble_eq_true rfl) (Nat.le_of_ble_eq_true rfl) rfl ?_
                  refine c_passSign (c := 59) ha hc hC9x (by decide) (fun hb => ?_) (fun hb t10 r10 I10 L10 er10 gs10 gt10 hC10 => ?_)
                  · simp only [Option.toList, List.nil_append, List.cons_append]
                    refine Ex_iret dX5_callerLine_125 rfl (by decide) (Or.inl rfl) ?_
                    have hfl := hmFl_lt (k := 1) (t := t9) (by omega) (by omega) hC9.2.2.2.2.2.2.2
                    exact hF (hmFl 1 t9) _ L9 (by rw [e9]; unfold hmC9; rw [hmXs_no hb]; rfl) hfl.1 hfl.2 (g9x.tr (hmOw.tf hdis (hmTf.up (Or.inl rfl)))) (l9) (by rw [va_up_self, va_up_self])
                  · simp only [Option.toList, List.nil_append, List.cons_append]
                    refine Ex_iret dX5_callerLine_125 rfl (by decide) (Or.inl rfl) ?_
                    have zz10 : (t10 :: r10).length ≤ r.length := by rw [er10] at zz9; simp at zz9 ⊢; omega
                    exact hQ (t1.2.1, k, hmDec t4.2.1, kn, hmDec t8.2.1) t10 r10 I10 L10 (by rw [e9, ← er10]; unfold hmC9; rw [hmXs_yes hb]; rfl) zz10 (g9x.tr (hmOw.sp hdis gs10)) (l9.tr (hmOl.sl hdis gt10)) (by rw [gs10.1 dd (by omega), va_up_self, va_up_self]) (by rw [gs10.1 a (by omega), va_up_ne _ _ (by omega), va_up_ne _ _ (by omega), gf9, gs8.1 a (by omega), gf7, gs6.1 a (by omega), va_up_ne _ _ (by omega), gf5, gs4.1 a (by omega), gs3.1 a (by omega), va_up_ne _ _ (by omega), gs2.1 a (by omega), gs1.1 a (by omega)]) ⟨by rw [gt10 (dd + 1) (by omega)]; exact w9, by rw [gs10.1 (dd + 2) (by omega), va_up_ne _ _ (by omega), va_up_ne _ _ (by omega)]; exact v9, by rw [gs10.1 (dd + 3) (by omega), va_up_ne _ _ (by omega), va_up_ne _ _ (by omega)]; exact u9, by rw [gs10.1 (dd + 4) (by omega), va_up_ne _ _ (by omega), va_up_ne _ _ (by omega)]; exact q9, by rw [gs10.1 (dd + 5) (by omega), va_up_ne _ _ (by omega), va_up_self, va_up_self]⟩ hC10
set_option maxHeartbeats 4000000 in
theorem c_takesLine {d : Nat} {sh : xSh} {R : xR} {L : xL} {I : xI} {Q : xQ} {a dd : Nat} {T : List Nat} {t : hmTok} {r : List hmTok} (ha : xReader sh R a) (hdd : xDesk sh R dd) (hdis : a + 3 ≤ dd ∨ dd + 9 ≤ a) (hc : ∀ x, x ∈ T → x < 127) (hC : hmCx I L a T t r) {D : hmDr} (ht : ¬ t.1 = 0) (hF : ∀ F I' L', hmBd (hmXn 1 20 r) (fun p => hmT2 D p.1 p.2) = .inl F → 1 ≤ F → F < 20000 → (∀ x, x ≠ a → x ≠ a + 1 → x ≠ dd → I' x = I x) → I' (a + 1) 1 = I (a + 1) 1 → hmSl (a + 1) L L' → I' a 1 = nI F → Q (some (.int 0)) 0 sh R L' I') (hQ : ∀ n t' r' I' L', hmBd (hmXn 1 20 r) (fun p => hmT2 D p.1 p.2) = .inr ((D.1, some n, D.2.2), t' :: r') → (t' :: r').length ≤ r.length → (∀ x, x ≠ a → x ≠ a + 1 → x ≠ dd → I' x = I x) → I' (a + 1) 1 = I (a + 1) 1 → hmSl (a + 1) L L' → I' a 3 = 1 → I' a 4 = I a 4 → I' a 1 = I a 1 → I' dd 7 = nI n → I' dd 6 = I dd 6 → hmCx I' L' a T t' r' → Q (some (.int 1)) 0 sh R L' I') : Ex (d + 7) 0 0 MX5_takesLine 0 sh R L I 0 [some (.ref a), some (.ref dd)] [] Q := by
  refine Ex_aload_n 1 (i := 0) dX5_takesLine_0 rfl rfl rfl ?_
  refine Ex_iconst 2 (v := 1) dX5_takesLine_1 (by decide) rfl ?_
  refine Ex_pI 5 (I a) (va_up I a (va_up (I a) 3 1)) dX5_takesLine_2 fX5_23 rfl ha.1 (by decide) (fun _ => rfl) rfl rfl rfl rfl ?_
  have hC0 : hmCx (va_up I a (va_up (I a) 3 1)) L a T t r := hC.kept (va_up_ne _ _ (by omega)) (va_up_ne _ _ (by omega)) rfl
  refine Ex_aload_n 6 (i := 0) dX5_takesLine_5 rfl rfl rfl ?_
  refine Ex_getR 9 dX5_takesLine_6 fX5_12 ha.1 rfl ha.2.2.2.1 rfl ?_
  refine Ex_callV (M' := MX7_step) 12 [] (rest := []) dX5_takesLine_9 lX5_65 mX7_step rfl ha.2.1 rfl (Nat.le_of_ble_eq_true rfl) (Nat.le_of_ble_eq_true rfl) rfl ?_
  refine c_rstep ha hc hC0 ht (fun t1 r1 I1 L1 er1 gs1 gt1 hC1 => ?_)
  simp only [Option.toList, List.nil_append, List.cons_append]
  refine Ex_aload_n 13 (i := 0) dX5_takesLine_12 rfl rfl rfl ?_
  refine Ex_iconst 14 (v := 1) dX5_takesLine_13 (by decide) rfl ?_
  refine Ex_bipush 16 (v := 20) dX5_takesLine_14 (by decide) rfl ?_
  refine Ex_callV (M' := MX5_passNumber) 19 [.int 1, .int 20] (rest := []) dX5_takesLine_16 lX5_117 mX5_passNumber rfl ha.1 rfl (Nat.le_of_ble_eq_true rfl) (Nat.le_of_ble_eq_true rfl) rfl ?_
  refine c_passNumber (lo := 1) (hi := 20) ha hc hC1 (by decide) (by decide) (fun hb => ?_) (fun hb hb4 => ?_) (fun hb hb1 hb2 t2 r2 I2 L2 er2 gs2 gv2 gf2 gt2 hC2 => ?_)
  · simp only [Option.toList, List.nil_append, List.cons_append]
    refine Ex_if_ne 22 24 dX5_takesLine_19 (by decide) rfl (fun c1 => absurd c1 (fun q => q (by decide))) (fun c1 => ?_)
    refine Ex_iconst 23 (v := 0) dX5_takesLine_22 (by decide) rfl ?_
    refine Ex_iret dX5_takesLine_23 rfl (by decide) (Or.inl rfl) ?_
    have hfl := hmFl_lt (k := 1) (t := t1) (by omega) (by omega) hC1.2.2.2.2.2.2.2
    exact hF (hmFl 1 t1) _ L1 (by rw [er1, hmXn_no hb]; rfl) hfl.1 hfl.2 (fun x p q s => by rw [va_up_ne _ _ p, gs1.1 x q, va_up_ne _ _ p]) (by rw [va_up_ne _ _ (by omega), gs1.2 1 (by omega) (by omega) (by omega), va_up_ne _ _ (by omega)]) (gt1) (by rw [va_up_self, va_up_self])
  · simp only [Option.toList, List.nil_append, List.cons_append]
    refine Ex_if_ne 22 24 dX5_takesLine_19 (by decide) rfl (fun c2 => absurd c2 (fun q => q (by decide))) (fun c2 => ?_)
    refine Ex_iconst 23 (v := 0) dX5_takesLine_22 (by decide) rfl ?_
    refine Ex_iret dX5_takesLine_23 rfl (by decide) (Or.inl rfl) ?_
    have hfl := hmFl_lt (k := 4) (t := t1) (by omega) (by omega) hC1.2.2.2.2.2.2.2
    exact hF (hmFl 4 t1) _ L1 (by rw [er1, hmXn_out hb hb4]; rfl) hfl.1 hfl.2 (fun x p q s => by rw [va_up_ne _ _ p, gs1.1 x q, va_up_ne _ _ p]) (by rw [va_up_ne _ _ (by omega), gs1.2 1 (by omega) (by omega) (by omega), va_up_ne _ _ (by omega)]) (gt1) (by rw [va_up_self, va_up_self])
  · simp only [Option.toList, List.nil_append, List.cons_append]
    refine Ex_if_ne 22 24 dX5_takesLine_19 (by decide) rfl (fun c3 => ?_) (fun c3 => absurd c3 (by decide))
    refine Ex_aload_n 25 (i := 1) dX5_takesLine_24 rfl rfl rfl ?_
    refine Ex_aload_n 26 (i := 0) dX5_takesLine_25 rfl rfl rfl ?_
    refine Ex_gI 29 (I2 a 2) dX5_takesLine_26 fX5_76 ha.1 rfl rfl rfl ?_
    rw [gv2]
    refine Ex_pI 32 (I2 dd) (va_up I2 dd (va_up (I2 dd) 7 (nI (hmDec t1.2.1)))) dX5_takesLine_29 fX5_135 rfl hdd.1 rfl (fun _ => rfl) rfl rfl rfl rfl ?_
    have hC2x : hmCx (va_up I2 dd (va_up (I2 dd) 7 (nI (hmDec t1.2.1)))) L2 a T t2 r2 := hC2.kept (va_up_ne _ _ (by omega)) (va_up_ne _ _ (by omega)) rfl
    refine Ex_aload_n 33 (i := 0) dX5_takesLine_32 rfl rfl rfl ?_
    refine Ex_bipush 35 (v := 59) dX5_takesLine_33 (by decide) rfl ?_
    refine Ex_callV (M' := MX5_passSign) 38 [.int 59] (rest := []) dX5_takesLine_35 lX5_103 mX5_passSign rfl ha.1 rfl (Nat.le_of_ble_eq_true rfl) (Nat.le_of_ble_eq_true rfl) rfl ?_
    refine c_passSign (c := 59) ha hc hC2x (by decide) (fun hb3 => ?_) (fun hb3 t3 r3 I3 L3 er3 gs3 gt3 hC3 => ?_)
    · simp only [Option.toList, List.nil_append, List.cons_append]
      refine Ex_iret dX5_takesLine_38 rfl (by decide) (Or.inl rfl) ?_
      have hfl := hmFl_lt (k := 1) (t := t2) (by omega) (by omega) hC2.2.2.2.2.2.2.2
      exact hF (hmFl 1 t2) _ L2 (by rw [er1, hmXn_yes hb hb1 hb2, er2]; show hmT2 D _ (t2 :: r2) = _; unfold hmT2; rw [hmXs_no hb3]; rfl) hfl.1 hfl.2 (fun x p q s => by rw [va_up_ne _ _ p, va_up_ne _ _ s, gs2.1 x p q, gs1.1 x q, va_up_ne _ _ p]) (by rw [va_up_ne _ _ (by omega), va_up_ne _ _ (by omega), gs2.2.1, gs1.2 1 (by omega) (by omega) (by omega), va_up_ne _ _ (by omega)]) (gt1.tr gt2) (by rw [va_up_self, va_up_self])
    · simp only [Option.toList, List.nil_append, List.cons_append]
      refine Ex_iret dX5_takesLine_38 rfl (by decide) (Or.inl rfl) ?_
      refine hQ (hmDec t1.2.1) t3 r3 I3 L3 (by rw [er1, hmXn_yes hb hb1 hb2, er2]; show hmT2 D _ (t2 :: r2) = _; unfold hmT2; rw [hmXs_yes hb3, er3]; rfl) (by rw [er1, er2, er3]; simp) (fun x p q s => by rw [gs3.1 x q, va_up_ne _ _ s, gs2.1 x p q, gs1.1 x q, va_up_ne _ _ p]) (by rw [gs3.2 1 (by omega) (by omega) (by omega), va_up_ne _ _ (by omega), gs2.2.1, gs1.2 1 (by omega) (by omega) (by omega), va_up_ne _ _ (by omega)]) ((gt1.tr gt2).tr gt3) ?_ ?_ ?_ ?_ ?_ hC3
      · rw [gs3.1 a (by omega), va_up_ne _ _ (by omega), gs2.2.2 3 (by omega) (by omega), gs1.1 a (by omega), va_up_self, va_up_self]
      · rw [gs3.1 a (by omega), va_up_ne _ _ (by omega), gs2.2.2 4 (by omega) (by omega), gs1.1 a (by omega), va_up_self, va_up_ne _ _ (by omega)]
      · rw [gs3.1 a (by omega), va_up_ne _ _ (by omega), gf2, gs1.1 a (by omega), va_up_self, va_up_ne _ _ (by omega)]
      · rw [gs3.1 dd (by omega), va_up_self, va_up_self]
      · rw [gs3.1 dd (by omega), va_up_self, va_up_ne _ _ (by omega), gs2.1 dd (by omega) (by omega), gs1.1 dd (by omega), va_up_ne _ _ (by omega)]
