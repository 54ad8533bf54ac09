set_option maxHeartbeats 4000000 in
theorem c_planCopy {d : Nat} {sh : xSh} {R : xR} {L : xL} {I : xI} {Q : xQ} {a b : Nat} {D : hmDay} (ha : xPlan sh R a) (hb : xPlan sh R b) (hab : b + 4 ≤ a ∨ a + 4 ≤ b) (hD : hmPl I b D) (hQ : ∀ I', (∀ x, ¬ (a ≤ x ∧ x < a + 4) → I' x = I x) → hmPl I' a D → Q none 0 sh R L I') : Ex (d + 1) 0 0 MX4_copyFrom 0 sh R L I 0 [some (.ref a), some (.ref b)] [] Q := by
  refine Ex_aload_n 1 (i := 1) dX4_copyFrom_0 rfl rfl rfl ?_
  refine Ex_getR 4 dX4_copyFrom_1 fX4_9 hb.1 rfl hb.2.2.2.2.1 rfl ?_
  refine Ex_iconst 5 (v := 0) dX4_copyFrom_4 (by decide) rfl ?_
  refine Ex_aload_n 6 (i := 0) dX4_copyFrom_5 rfl rfl rfl ?_
  refine Ex_getR 9 dX4_copyFrom_6 fX4_9 ha.1 rfl ha.2.2.2.2.1 rfl ?_
  refine Ex_iconst 10 (v := 0) dX4_copyFrom_9 (by decide) rfl ?_
  refine Ex_bipush 12 (v := 40) dX4_copyFrom_10 (by decide) rfl ?_
  refine Ex_cpI 15 0 0 40 (I (b + 1)) (I (a + 1)) (va_up I (a + 1) (va_cpy (I (b + 1)) (I (a + 1)) 0 0 40)) dX4_copyFrom_12 lX4_25 hb.2.1 ha.2.1 rfl rfl rfl (by decide) (by decide) (by decide) (by decide) rfl rfl rfl (by decide) rfl ?_
  refine Ex_aload_n 16 (i := 1) dX4_copyFrom_15 rfl rfl rfl ?_
  refine Ex_getR 19 dX4_copyFrom_16 fX4_15 hb.1 rfl hb.2.2.2.2.2.1 rfl ?_
  refine Ex_iconst 20 (v := 0) dX4_copyFrom_19 (by decide) rfl ?_
  refine Ex_aload_n 21 (i := 0) dX4_copyFrom_20 rfl rfl rfl ?_
  refine Ex_getR 24 dX4_copyFrom_21 fX4_15 ha.1 rfl ha.2.2.2.2.2.1 rfl ?_
  refine Ex_iconst 25 (v := 0) dX4_copyFrom_24 (by decide) rfl ?_
  refine Ex_bipush 27 (v := 40) dX4_copyFrom_25 (by decide) rfl ?_
  refine Ex_cpI 30 0 0 40 (I (b + 2)) (I (a + 2)) (va_up (va_up I (a + 1) (va_cpy (I (b + 1)) (I (a + 1)) 0 0 40)) (a + 2) (va_cpy (I (b + 2)) (I (a + 2)) 0 0 40)) dX4_copyFrom_27 lX4_25 hb.2.2.1 ha.2.2.1 rfl rfl rfl (by decide) (by decide) (by decide) (by decide) (va_up_ne _ _ (by omega)) (va_up_ne _ _ (by omega)) rfl (by decide) rfl ?_
  refine Ex_aload_n 31 (i := 1) dX4_copyFrom_30 rfl rfl rfl ?_
  refine Ex_getR 34 dX4_copyFrom_31 fX4_18 hb.1 rfl hb.2.2.2.2.2.2 rfl ?_
  refine Ex_iconst 35 (v := 0) dX4_copyFrom_34 (by decide) rfl ?_
  refine Ex_aload_n 36 (i := 0) dX4_copyFrom_35 rfl rfl rfl ?_
  refine Ex_getR 39 dX4_copyFrom_36 fX4_18 ha.1 rfl ha.2.2.2.2.2.2 rfl ?_
  refine Ex_iconst 40 (v := 0) dX4_copyFrom_39 (by decide) rfl ?_
  refine Ex_bipush 42 (v := 40) dX4_copyFrom_40 (by decide) rfl ?_
  refine Ex_cpI 45 0 0 40 (I (b + 3)) (I (a + 3)) (va_up (va_up (va_up I (a + 1) (va_cpy (I (b + 1)) (I (a + 1)) 0 0 40)) (a + 2) (va_cpy (I (b + 2)) (I (a + 2)) 0 0 40)) (a + 3) (va_cpy (I (b + 3)) (I (a + 3)) 0 0 40)) dX4_copyFrom_42 lX4_25 hb.2.2.2.1 ha.2.2.2.1 rfl rfl rfl (by decide) (by decide) (by decide) (by decide) ((va_up_ne _ _ (by omega)).trans (va_up_ne _ _ (by omega))) ((va_up_ne _ _ (by omega)).trans (va_up_ne _ _ (by omega))) rfl (by decide) rfl ?_
  refine Ex_aload_n 46 (i := 0) dX4_copyFrom_45 rfl rfl rfl ?_
  refine Ex_aload_n 47 (i := 1) dX4_copyFrom_46 rfl rfl rfl ?_
  refine Ex_gI 50 (I b 3) dX4_copyFrom_47 fX4_21 hb.1 rfl (congrFun ((va_up_ne _ _ (by omega)).trans ((va_up_ne _ _ (by omega)).trans (va_up_ne _ _ (by omega)))) _) rfl ?_
  refine Ex_pI 53 (I a) (va_up (va_up (va_up (va_up I (a + 1) (va_cpy (I (b + 1)) (I (a + 1)) 0 0 40)) (a + 2) (va_cpy (I (b + 2)) (I (a + 2)) 0 0 40)) (a + 3) (va_cpy (I (b + 3)) (I (a + 3)) 0 0 40)) a (va_up (I a) 3 (I b 3))) dX4_copyFrom_50 fX4_21 rfl ha.1 rfl (fun _ => rfl) ((va_up_ne _ _ (by omega)).trans ((va_up_ne _ _ (by omega)).trans (va_up_ne _ _ (by omega)))) rfl rfl rfl ?_
  refine Ex_ret0 dX4_copyFrom_53 rfl (Or.inl rfl) ?_
  obtain ⟨d1, d2, d3⟩ := hD
  refine hQ _ (fun x hx => by rw [va_up_ne _ _ (by omega), va_up_ne _ _ (by omega), va_up_ne _ _ (by omega), va_up_ne _ _ (by omega)]) ⟨d1, by rw [va_up_self, va_up_self]; exact d2, fun j hj => ?_⟩
  obtain ⟨e1, e2, e3⟩ := d3 j hj
  refine ⟨?_, fun q => ?_, fun q => ?_⟩
  · rw [va_up_ne _ _ (by omega), va_up_ne _ _ (by omega), va_up_ne _ _ (by omega), va_up_self, hm_cpy (show j < 40 by omega)]
    exact e1
  · rw [va_up_ne _ _ (by omega), va_up_ne _ _ (by omega), va_up_self, hm_cpy (show j < 40 by omega)]
    exact e2 q
  · rw [va_up_ne _ _ (by omega), va_up_self, hm_cpy (show j < 40 by omega)]
    exact e3 q
set_option maxHeartbeats 4000000 in
theorem c_layOn {d : Nat} {sh : xSh} {R : xR} {L : xL} {I : xI} {Q : xQ} {h dk dd pl pd ma : Nat} {H : hmH} {D : hmDay} {t : hmTo} (hx : xHM sh R h dk dd pl pd) (hma : xMark sh R ma) (hge : h + 129 ≤ ma) (hH : hmR I (h + 30) H) (hD : hmPl I pl D) (ht1 : I h 11 = hmTb t) (ht2 : I h 12 = hmTs t) (hQ : ∀ I', (∀ x, ¬ (ma ≤ x ∧ x < ma + 10) → I' x = I x) → hmMark I' ma (some (H, D, t)) → Q none 0 sh R L I') : Ex (d + 2) 0 0 MX8_layOn 0 sh R L I 0 [some (.ref h), some (.ref ma)] [] Q := by
  have hpp := xH_28 hx
  refine Ex_aload_n 1 (i := 1) dX8_layOn_0 rfl rfl rfl ?_
  refine Ex_iconst 2 (v := 1) dX8_layOn_1 (by decide) rfl ?_
  refine Ex_pI 5 (I ma) (va_up I ma (va_up (I ma) 4 1)) dX8_layOn_2 fX8_271 rfl hma.1 rfl (fun _ => rfl) rfl rfl rfl rfl ?_
  refine Ex_aload_n 6 (i := 1) dX8_layOn_5 rfl rfl rfl ?_
  refine Ex_getR 9 dX8_layOn_6 fX8_298 hma.1 rfl hma.2.1 rfl ?_
  refine Ex_aload_n 10 (i := 0) dX8_layOn_9 rfl rfl rfl ?_
  refine Ex_getR 13 dX8_layOn_10 fX8_39 (xH_0 hx) rfl (xH_6 hx) rfl ?_
  refine Ex_callV (M' := MX1_copyFrom) 16 [.ref (h + 30)] (rest := []) dX8_layOn_13 lX8_166 mX1_copyFrom rfl hma.2.2.2.1.1 rfl (Nat.le_of_ble_eq_true rfl) (Nat.le_of_ble_eq_true rfl) rfl ?_
  refine c_copyFrom hma.2.2.2.1 (xH_18 hx) (by omega) (hH.kept (fun x a b => va_up_ne _ _ (by omega))) (fun I1 hFI1 hHI1 => ?_)
  have fI1 : ∀ x, ¬ ((ma + 1) ≤ x ∧ x < (ma + 1) + 5) → I1 x = (va_up I ma (va_up (I ma) 4 1)) x := fun x a => hFI1 x (fun q => a (by unfold hmIn at q; omega))
  simp only [Option.toList, List.nil_append, List.cons_append]
  refine Ex_aload_n 17 (i := 1) dX8_layOn_16 rfl rfl rfl ?_
  refine Ex_getR 20 dX8_layOn_17 fX8_301 hma.1 rfl hma.2.2.1 rfl ?_
  refine Ex_aload_n 21 (i := 0) dX8_layOn_20 rfl rfl rfl ?_
  refine Ex_getR 24 dX8_layOn_21 fX8_29 (xH_0 hx) rfl (xH_4 hx) rfl ?_
  refine Ex_callV (M' := MX4_copyFrom) 27 [.ref pl] (rest := []) dX8_layOn_24 lX8_302 mX4_copyFrom rfl hma.2.2.2.2.1 rfl (Nat.le_of_ble_eq_true rfl) (Nat.le_of_ble_eq_true rfl) rfl ?_
  refine c_planCopy hma.2.2.2.2 (xH_16 hx) (by omega) (hD.kept (fun x a b => by rw [fI1 x (by omega), va_up_ne _ _ (by omega)])) (fun I2 fI2 hDI2 => ?_)
  simp only [Option.toList, List.nil_append, List.cons_append]
  refine Ex_aload_n 28 (i := 1) dX8_layOn_27 rfl rfl rfl ?_
  refine Ex_aload_n 29 (i := 0) dX8_layOn_28 rfl rfl rfl ?_
  refine Ex_gI 32 (I h 11) dX8_layOn_29 fX8_238 (xH_0 hx) rfl (congrFun ((fI2 _ (by omega)).trans ((fI1 _ (by omega)).trans (va_up_ne _ _ (by omega)))) _) rfl ?_
  rw [ht1]
  refine Ex_pI 35 (va_up (I ma) 4 1) (va_up I2 ma (va_up (va_up (I ma) 4 1) 2 (hmTb t))) dX8_layOn_32 fX8_305 rfl hma.1 rfl (fun _ => rfl) ((fI2 _ (by omega)).trans ((fI1 _ (by omega)).trans (va_up_self _ _ _))) rfl rfl rfl ?_
  refine Ex_aload_n 36 (i := 1) dX8_layOn_35 rfl rfl rfl ?_
  refine Ex_aload_n 37 (i := 0) dX8_layOn_36 rfl rfl rfl ?_
  refine Ex_gI 40 (I h 12) dX8_layOn_37 fX8_241 (xH_0 hx) rfl (congrFun ((va_up_ne _ _ (by omega)).trans ((fI2 _ (by omega)).trans ((fI1 _ (by omega)).trans (va_up_ne _ _ (by omega))))) _) rfl ?_
  rw [ht2]
  refine Ex_pI 43 (va_up (va_up (I ma) 4 1) 2 (hmTb t)) (va_up I2 ma (va_up (va_up (va_up (I ma) 4 1) 2 (hmTb t)) 3 (hmTs t))) dX8_layOn_40 fX8_306 rfl hma.1 rfl (fun _ => rfl) (va_up_self _ _ _) rfl (va_up_up _ _ _ _) rfl ?_
  refine Ex_ret0 dX8_layOn_43 rfl (Or.inl rfl) ?_
  refine hQ _ (fun x hx => ?_) ⟨?_, ?_, ?_, ?_, ?_⟩
  · rw [va_up_ne _ _ (by omega), fI2 x (by omega), fI1 x (by omega), va_up_ne _ _ (by omega)]
  · rw [va_up_self, va_up_ne _ _ (by omega), va_up_ne _ _ (by omega), va_up_self]
  · exact hHI1.kept (fun x a b => by rw [va_up_ne _ _ (by omega), fI2 x (by omega)])
  · exact hDI2.kept (fun x a b => by rw [va_up_ne _ _ (by omega)])
  · rw [va_up_self, va_up_ne _ _ (by omega), va_up_self]
  · rw [va_up_self, va_up_self]
set_option maxHeartbeats 4000000 in
theorem c_goBackTo {d : Nat} {sh : xSh} {R : xR} {L : xL} {I : xI} {Q : xQ} {h dk dd pl pd ma : Nat} {H : hmH} {D : hmDay} {t : hmTo} (hx : xHM sh R h dk dd pl pd) (hma : xMark sh R ma) (hge : h + 129 ≤ ma) (hM : hmMark I ma (some (H, D, t))) (hQ : ∀ I', (∀ x, x ≠ h → x ≠ h + 42 → ¬ (h + 30 ≤ x ∧ x < h + 30 + 5) → ¬ (pl ≤ x ∧ x < pl + 4) → I' x = I x) → (∀ k, k ≠ 8 → k ≠ 11 → k ≠ 12 → I' h k = I h k) → I' h 8 = 0 → I' h 11 = hmTb t → I' h 12 = hmTs t → I' (h + 42) 4 = 0 → hmR I' (h + 30) H → hmPl I' pl D → Q none 0 sh R L I') : Ex (d + 2) 0 0 MX8_goBackTo 0 sh R L I 0 [some (.ref h), some (.ref ma)] [] Q := by
  have hpp := xH_28 hx
  obtain ⟨m4, mH, mD, m2, m3⟩ := id hM
  refine Ex_aload_n 1 (i := 0) dX8_goBackTo_0 rfl rfl rfl ?_
  refine Ex_getR 4 dX8_goBackTo_1 fX8_39 (xH_0 hx) rfl (xH_6 hx) rfl ?_
  refine Ex_aload_n 5 (i := 1) dX8_goBackTo_4 rfl rfl rfl ?_
  refine Ex_getR 8 dX8_goBackTo_5 fX8_298 hma.1 rfl hma.2.1 rfl ?_
  refine Ex_callV (M' := MX1_copyFrom) 11 [.ref (ma + 1)] (rest := []) dX8_goBackTo_8 lX8_166 mX1_copyFrom rfl (xH_18 hx).1 rfl (Nat.le_of_ble_eq_true rfl) (Nat.le_of_ble_eq_true rfl) rfl ?_
  refine c_copyFrom (xH_18 hx) hma.2.2.2.1 (by omega) mH (fun I1 hFI1 hHI1 => ?_)
  have fI1 : ∀ x, ¬ ((h + 30) ≤ x ∧ x < (h + 30) + 5) → I1 x = I x := fun x a => hFI1 x (fun q => a (by unfold hmIn at q; omega))
  simp only [Option.toList, List.nil_append, List.cons_append]
  refine Ex_aload_n 12 (i := 0) dX8_goBackTo_11 rfl rfl rfl ?_
  refine Ex_getR 15 dX8_goBackTo_12 fX8_29 (xH_0 hx) rfl (xH_4 hx) rfl ?_
  refine Ex_aload_n 16 (i := 1) dX8_goBackTo_15 rfl rfl rfl ?_
  refine Ex_getR 19 dX8_goBackTo_16 fX8_301 hma.1 rfl hma.2.2.1 rfl ?_
  refine Ex_callV (M' := MX4_copyFrom) 22 [.ref (ma + 6)] (rest := []) dX8_goBackTo_19 lX8_302 mX4_copyFrom rfl (xH_16 hx).1 rfl (Nat.le_of_ble_eq_true rfl) (Nat.le_of_ble_eq_true rfl) rfl ?_
  refine c_planCopy (xH_16 hx) hma.2.2.2.2 (by omega) (mD.kept (fun x a b => by rw [fI1 x (by omega)])) (fun I2 fI2 hDI2 => ?_)
  simp only [Option.toList, List.nil_append, List.cons_append]
  refine Ex_aload_n 23 (i := 0) dX8_goBackTo_22 rfl rfl rfl ?_
  refine Ex_aload_n 24 (i := 1) dX8_goBackTo_23 rfl rfl rfl ?_
  refine Ex_gI 27 (I ma 2) dX8_goBackTo_24 fX8_305 hma.1 rfl (congrFun ((fI2 _ (by omega)).trans (fI1 _ (by omega))) _) rfl ?_
  rw [m2]
  refine Ex_pI 30 (I h) (va_up I2 h (va_up (I h) 11 (hmTb t))) dX8_goBackTo_27 fX8_238 rfl (xH_0 hx) rfl (fun _ => rfl) ((fI2 _ (by omega)).trans (fI1 _ (by omega))) rfl rfl rfl ?_
  refine Ex_aload_n 31 (i := 0) dX8_goBackTo_30 rfl rfl rfl ?_
  refine Ex_aload_n 32 (i := 1) dX8_goBackTo_31 rfl rfl rfl ?_
  refine Ex_gI 35 (I ma 3) dX8_goBackTo_32 fX8_306 hma.1 rfl (congrFun ((va_up_ne _ _ (by omega)).trans ((fI2 _ (by omega)).trans (fI1 _ (by omega)))) _) rfl ?_
  rw [m3]
  refine Ex_pI 38 (va_up (I h) 11 (hmTb t)) (va_up I2 h (va_up (va_up (I h) 11 (hmTb t)) 12 (hmTs t))) dX8_goBackTo_35 fX8_241 rfl (xH_0 hx) rfl (fun _ => rfl) (va_up_self _ _ _) rfl (va_up_up _ _ _ _) rfl ?_
  refine Ex_aload_n 39 (i := 0) dX8_goBackTo_38 rfl rfl rfl ?_
  refine Ex_iconst 40 (v := 0) dX8_goBackTo_39 (by decide) rfl ?_
  refine Ex_pI 43 (va_up (va_up (I h) 11 (hmTb t)) 12 (hmTs t)) (va_up I2 h (va_up (va_up (va_up (I h) 11 (hmTb t)) 12 (hmTs t)) 8 0)) dX8_goBackTo_40 fX8_160 rfl (xH_0 hx) rfl (fun _ => rfl) (va_up_self _ _ _) rfl (va_up_up _ _ _ _) rfl ?_
  refine Ex_aload_n 44 (i := 0) dX8_goBackTo_43 rfl rfl rfl ?_
  refine Ex_getR 47 dX8_goBackTo_44 fX8_59 (xH_0 hx) rfl (xH_10 hx) rfl ?_
  refine Ex_iconst 48 (v := 0) dX8_goBackTo_47 (by decide) rfl ?_
  refine Ex_pI 51 (I (h + 42)) (va_up (va_up I2 h (va_up (va_up (va_up (I h) 11 (hmTb t)) 12 (hmTs t)) 8 0)) (h + 42) (va_up (I (h + 42)) 4 0)) dX8_goBackTo_48 fX8_170 rfl (xH_22 hx).1 rfl (fun _ => rfl) ((va_up_ne _ _ (by omega)).trans ((fI2 _ (by omega)).trans (fI1 _ (by omega)))) rfl rfl rfl ?_
  refine Ex_ret0 dX8_goBackTo_51 rfl (Or.inl rfl) ?_
  refine hQ _ (fun x a b c e => ?_) (fun k a b c => ?_) ?_ ?_ ?_ ?_ ?_ ?_
  · rw [va_up_ne _ _ b, va_up_ne _ _ a, fI2 x e, fI1 x c]
  · rw [va_up_ne _ _ (by omega), va_up_self, va_up_ne _ _ a, va_up_ne _ _ c, va_up_ne _ _ b]
  · rw [va_up_ne _ _ (by omega), va_up_self, va_up_self]
  · rw [va_up_ne _ _ (by omega), va_up_self, va_up_ne _ _ (by omega), va_up_ne _ _ (by omega), va_up_self]
  · rw [va_up_ne _ _ (by omega), va_up_self, va_up_ne _ _ (by omega), va_up_self]
  · rw [va_up_self, va_up_self]
  · exact hHI1.kept (fun x a b => by rw [va_up_ne _ _ (by omega), va_up_ne _ _ (by omega), fI2 x (by omega)])
  · exact hDI2.kept (fun x a b => by rw [va_up_ne _ _ (by omega), va_up_ne _ _ (by omega)])
set_option maxHeartbeats 4000000 in
theorem c_mark {d : Nat} {sh : xSh} {R : xR} {L : xL} {I : xI} {Q : xQ} {h dk dd pl pd : Nat} {H : hmH} {D : hmDay} {t : hmTo} {M : Nat → Option (hmH × hmDay × hmTo)} (hx : xHM sh R h dk dd pl pd) (hH : hmR I (h + 30) H) (hD : hmPl I pl D) (ht1 : I h 11 = hmTb t) (ht2 : I h 12 = hmTs t) (hM : ∀ i, i < 4 → hmMark I (h + 129 + 10 * i) (M i)) {qv : Int32} {b : Bool} (hno : (hmCal 4 qv = false ∨ (b = true ∧ M (hmIx qv) = none)) → Q (some (.int 0)) 0 sh R L I) (hlay : hmCal 4 qv = true → b = false → ∀ I', (∀ x, ¬ (h + 129 + 10 * hmIx qv ≤ x ∧ x < h + 129 + 10 * hmIx qv + 10) → I' x = I x) → hmMark I' (h + 129 + 10 * hmIx qv) (some (H, D, t)) → Q (some (.int 1)) 0 sh R L I') (hback : hmCal 4 qv = true → b = true → ∀ H' D' t', M (hmIx qv) = some (H', D', t') → ∀ I', (∀ x, x ≠ h → x ≠ h + 42 → ¬ (h + 30 ≤ x ∧ x < h + 30 + 5) → ¬ (pl ≤ x ∧ x < pl + 4) → I' x = I x) → (∀ k, k ≠ 8 → k ≠ 11 → k ≠ 12 → I' h k = I h k) → I' h 8 = 0 → I' h 11 = hmTb t' → I' h 12 = hmTs t' → I' (h + 42) 4 = 0 → hmR I' (h + 30) H' → hmPl I' pl D' → Q (some (.int 1)) 0 sh R L I') : Ex (d + 3) 0 0 MX8_mark 0 sh R L I 0 [some (.ref h), some (.int qv), some (.int (hmB b))] [] Q := by
  cases b with
  | false =>
    refine Ex_iload_n 1 (i := 1) dX8_mark_0 rfl rfl rfl ?_
    refine Ex_if_lt 4 25 dX8_mark_1 (by decide) rfl (fun c1 => ?_) (fun c1 => ?_)
    · refine Ex_iconst 26 (v := 0) dX8_mark_25 (by decide) rfl ?_
      refine Ex_iret dX8_mark_26 rfl (by decide) (Or.inl rfl) ?_
      exact hno (Or.inl (by simp only [hmCal, decide_eq_false_iff_not]; exact fun q => absurd (hm_lt0.mp c1) (by omega)))
    · refine Ex_iload_n 5 (i := 1) dX8_mark_4 rfl rfl rfl ?_
      refine Ex_iconst 6 (v := 4) dX8_mark_5 (by decide) rfl ?_
      refine Ex_icmp_ge 9 25 dX8_mark_6 (by decide) rfl (fun c2 => ?_) (fun c2 => ?_)
      · refine Ex_iconst 26 (v := 0) dX8_mark_25 (by decide) rfl ?_
        refine Ex_iret dX8_mark_26 rfl (by decide) (Or.inl rfl) ?_
        exact hno (Or.inl (by simp only [hmCal, decide_eq_false_iff_not]; exact fun q => absurd ((hm_leN (n := 4) (by omega)).mp c2) (by omega)))
      · have hct : hmCal 4 qv = true := by
          simp only [hmCal, decide_eq_true_eq]
          have h1 : ¬ qv.toInt < 0 := fun q => c1 (hm_lt0.mpr q)
          have h2 : ¬ ((4 : Nat) : Int) ≤ qv.toInt := fun q => c2 ((hm_leN (n := 4) (by omega)).mpr q)
          omega
        obtain ⟨w, hw, rfl⟩ := hmCal_of hct
        have hix : hmIx (nI w) = w := hmIx_nI (by omega)
        rw [hix] at hno hlay hback
        obtain ⟨ma, ema⟩ : ∃ ma, ma = h + 129 + 10 * w := ⟨_, rfl⟩
        have hma : xMark sh R ma := by rw [ema]; exact (xH_26 hx w hw).2
        have hra : R (h + 41) w = some ma := by rw [ema]; exact (xH_26 hx w hw).1
        have hMw := hM w hw
        rw [← ema] at hMw hlay
        have hge : h + 129 ≤ ma := by omega
        refine Ex_iload_n 10 (i := 2) dX8_mark_9 rfl rfl rfl ?_
        refine Ex_if_eq 13 27 dX8_mark_10 (by decide) rfl (fun c3 => ?_) (fun c3 => absurd c3 (fun q => q (by decide)))
        refine Ex_iload_n 28 (i := 2) dX8_mark_27 rfl rfl rfl ?_
        refine Ex_if_eq 31 44 dX8_mark_28 (by decide) rfl (fun c4 => ?_) (fun c4 => absurd c4 (fun q => q (by decide)))
        refine Ex_aload_n 45 (i := 0) dX8_mark_44 rfl rfl rfl ?_
        refine Ex_aload_n 46 (i := 0) dX8_mark_45 rfl rfl rfl ?_
        refine Ex_getR 49 dX8_mark_46 fX8_52 (xH_0 hx) rfl (xH_9 hx) rfl ?_
        refine Ex_iload_n 50 (i := 1) dX8_mark_49 rfl rfl rfl ?_
        refine Ex_aald 51 5 w dX8_mark_50 (xH_21 hx) (fun _ => rfl) rfl (by omega) (by decide) hra rfl ?_
        refine Ex_callV (M' := MX8_layOn) 54 [.ref ma] (rest := []) dX8_mark_51 lX8_278 mX8_layOn rfl (xH_0 hx) rfl (Nat.le_of_ble_eq_true rfl) (Nat.le_of_ble_eq_true rfl) rfl ?_
        refine c_layOn hx hma hge hH hD ht1 ht2 (fun I1 f1 hM1 => ?_)
        simp only [Option.toList, List.nil_append, List.cons_append]
        refine Ex_iconst 55 (v := 1) dX8_mark_54 (by decide) rfl ?_
        refine Ex_iret dX8_mark_55 rfl (by decide) (Or.inl rfl) ?_
        exact hlay hct rfl I1 f1 hM1
  | true =>
    refine Ex_iload_n 1 (i := 1) dX8_mark_0 rfl rfl rfl ?_
    refine Ex_if_lt 4 25 dX8_mark_1 (by decide) rfl (fun c1 => ?_) (fun c1 => ?_)
    · refine Ex_iconst 26 (v := 0) dX8_mark_25 (by decide) rfl ?_
      refine Ex_iret dX8_mark_26 rfl (by decide) (Or.inl rfl) ?_
      exact hno (Or.inl (by simp only [hmCal, decide_eq_false_iff_not]; exact fun q => absurd (hm_lt0.mp c1) (by omega)))
    · refine Ex_iload_n 5 (i := 1) dX8_mark_4 rfl rfl rfl ?_
      refine Ex_iconst 6 (v := 4) dX8_mark_5 (by decide) rfl ?_
      refine Ex_icmp_ge 9 25 dX8_mark_6 (by decide) rfl (fun c2 => ?_) (fun c2 => ?_)
      · refine Ex_iconst 26 (v := 0) dX8_mark_25 (by decide) rfl ?_
        refine Ex_iret dX8_mark_26 rfl (by decide) (Or.inl rfl) ?_
        exact hno (Or.inl (by simp only [hmCal, decide_eq_false_iff_not]; exact fun q => absurd ((hm_leN (n := 4) (by omega)).mp c2) (by omega)))
      · have hct : hmCal 4 qv = true := by
          simp only [hmCal, decide_eq_true_eq]
          have h1 : ¬ qv.toInt < 0 := fun q => c1 (hm_lt0.mpr q)
          have h2 : ¬ ((4 : Nat) : Int) ≤ qv.toInt := fun q => c2 ((hm_leN (n := 4) (by omega)).mpr q)
          omega
        obtain ⟨w, hw, rfl⟩ := hmCal_of hct
        have hix : hmIx (nI w) = w := hmIx_nI (by omega)
        rw [hix] at hno hlay hback
        obtain ⟨ma, ema⟩ : ∃ ma, ma = h + 129 + 10 * w := ⟨_, rfl⟩
        have hma : xMark sh R ma := by rw [ema]; exact (xH_26 hx w hw).2
        have hra : R (h + 41) w = some ma := by rw [ema]; exact (xH_26 hx w hw).1
        have hMw := hM w hw
        rw [← ema] at hMw hlay
        have hge : h + 129 ≤ ma := by omega
        refine Ex_iload_n 10 (i := 2) dX8_mark_9 rfl rfl rfl ?_
        refine Ex_if_eq 13 27 dX8_mark_10 (by decide) rfl (fun c3 => absurd c3 (by decide)) (fun c3 => ?_)
        refine Ex_aload_n 14 (i := 0) dX8_mark_13 rfl rfl rfl ?_
        refine Ex_getR 17 dX8_mark_14 fX8_52 (xH_0 hx) rfl (xH_9 hx) rfl ?_
        refine Ex_iload_n 18 (i := 1) dX8_mark_17 rfl rfl rfl ?_
        refine Ex_aald 19 5 w dX8_mark_18 (xH_21 hx) (fun _ => rfl) rfl (by omega) (by decide) hra rfl ?_
        refine Ex_gI 22 (I ma 4) dX8_mark_19 fX8_271 hma.1 rfl rfl rfl ?_
        refine Ex_if_ne 25 27 dX8_mark_22 (by decide) rfl (fun c4 => ?_) (fun c4 => ?_)
        · obtain ⟨⟨H', D', t'⟩, em⟩ : ∃ x, M w = some x := by
            cases em : M w with
            | none =>
              rw [em] at hMw
              exact absurd hMw c4
            | some x => exact ⟨x, rfl⟩
          rw [em] at hMw
          refine Ex_iload_n 28 (i := 2) dX8_mark_27 rfl rfl rfl ?_
          refine Ex_if_eq 31 44 dX8_mark_28 (by decide) rfl (fun c5 => absurd c5 (by decide)) (fun c5 => ?_)
          refine Ex_aload_n 32 (i := 0) dX8_mark_31 rfl rfl rfl ?_
          refine Ex_aload_n 33 (i := 0) dX8_mark_32 rfl rfl rfl ?_
          refine Ex_getR 36 dX8_mark_33 fX8_52 (xH_0 hx) rfl (xH_9 hx) rfl ?_
          refine Ex_iload_n 37 (i := 1) dX8_mark_36 rfl rfl rfl ?_
          refine Ex_aald 38 5 w dX8_mark_37 (xH_21 hx) (fun _ => rfl) rfl (by omega) (by decide) hra rfl ?_
          refine Ex_callV (M' := MX8_goBackTo) 41 [.ref ma] (rest := []) dX8_mark_38 lX8_274 mX8_goBackTo rfl (xH_0 hx) rfl (Nat.le_of_ble_eq_true rfl) (Nat.le_of_ble_eq_true rfl) rfl ?_
          refine c_goBackTo hx hma hge hMw (fun I1 f1 f2 f3 f4 f5 f6 f7 f8 => ?_)
          simp only [Option.toList, List.nil_append, List.cons_append]
          refine Ex_goto 54 dX8_mark_41 (by decide) ?_
          refine Ex_iconst 55 (v := 1) dX8_mark_54 (by decide) rfl ?_
          refine Ex_iret dX8_mark_55 rfl (by decide) (Or.inl rfl) ?_
          exact hback hct rfl H' D' t' em I1 f1 f2 f3 f4 f5 f6 f7 f8
        · refine Ex_iconst 26 (v := 0) dX8_mark_25 (by decide) rfl ?_
          refine Ex_iret dX8_mark_26 rfl (by decide) (Or.inl rfl) ?_
          have hz : M w = none := by
            cases em : M w with
            | none => rfl
            | some x =>
              obtain ⟨H', D', t'⟩ := x
              rw [em] at hMw
              have h1 := hMw.1
              rw [c4] at h1
              exact absurd h1 (by decide)
          exact hno (Or.inr ⟨rfl, hz⟩)
