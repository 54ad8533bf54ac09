theorem hmDq.D {I : xI} {L : xL} {a dd : Nat} {D : hmDr} {lw : List Int32} (h : hmDq I L a dd D lw) : hmD I dd (hmOo D lw) := by
  obtain ⟨d1, d2, d3, d4, d5, d7, d8⟩ := h
  exact ⟨d1, d2, fun w hw => (d3 w hw).2, d4.2.1, d4.2.2⟩
set_option maxHeartbeats 4000000 in
theorem c_office {d : Nat} {sh : xSh} {R : xR} {L : xL} {I : xI} {Q : xQ} {h dk dd pl pd : Nat} (hx : xHM sh R h dk dd pl pd) {T : List Nat} (hc : ∀ x, x ∈ T → x < 127) (hT : hmTp I (h + 2) T) {t : hmTok} {r : List hmTok} (hts : hmTsR T (t :: r) 0) (hlen : (t :: r).length ≤ 1001) (hF : ∀ F I' L', hmRO 1000 hmDr0 (t :: r) = .inl F → 1 ≤ F → F < 20000 → hmRz (h + 1) dd 9 I I' → hmOm (h + 1) dd L L' → I' (h + 2) 1 = 0 → Q (some (.int (nI F))) 0 sh R L' I') (hQ : ∀ D lw I' L', hmRO 1000 hmDr0 (t :: r) = .inr D → hmDrOk D → xHM sh (va_up R h (va_up (va_up (R h) 1 (some dd)) 2 (some dk))) h dd dk pl pd → (∀ x, x ≠ h → x ≠ pl → x ≠ h + 42 → ¬ (h + 30 ≤ x ∧ x < h + 35) → (∀ i, i < 4 → x ≠ h + 129 + 10 * i) → x ≠ h + 1 → x ≠ h + 2 → ¬ (dd ≤ x ∧ x < dd + 9) → I' x = I x) → (∀ k, k ≠ 8 → k ≠ 11 → k ≠ 12 → I' h k = I h k) → I' h 8 = 0 → I' h 11 = 0 → I' h 12 = 0 → I' pl 3 = 0 → I' (h + 42) 4 = 0 → (∀ i, i < 4 → I' (h + 129 + 10 * i) 4 = 0) → hmR I' (h + 30) (hmBegin (hmOo D lw)) → hmD I' dd (hmOo D lw) → (∀ w, w < D.1.length → L' (dd + 1) w = hmE256 (D.1.getD w ([], 0, 0, 0, 0)).1) → lw.length ≤ 1000 → ((D.2.2 = none ∧ lw = []) ∨ ∃ cd, D.2.2 = some cd ∧ hmSem cd lw) → hmOm (h + 1) dd L L' → I' (h + 2) 1 = 0 → Q (some (.int 0)) 0 sh (va_up R h (va_up (va_up (R h) 1 (some dd)) 2 (some dk))) L' I') : Ex (d + 42) 0 0 MX8_office 0 sh R L I 0 [some (.ref h), none] [] Q := by
  have hdd := xH_27 hx
  have hpp := xH_28 hx
  refine Ex_aload_n 1 (i := 0) dX8_office_0 rfl rfl rfl ?_
  refine Ex_getR 4 dX8_office_1 fX8_10 (xH_0 hx) rfl (xH_1 hx) rfl ?_
  refine Ex_aload_n 5 (i := 0) dX8_office_4 rfl rfl rfl ?_
  refine Ex_getR 8 dX8_office_5 fX8_23 (xH_0 hx) rfl (xH_3 hx) rfl ?_
  refine Ex_callV (M' := MX5_readOffice) 11 [.ref dd] (rest := []) dX8_office_8 lX8_85 mX5_readOffice rfl (xH_13 hx).1 rfl (Nat.le_of_ble_eq_true rfl) (Nat.le_of_ble_eq_true rfl) rfl ?_
  refine c_readOffice (xH_13 hx) (xH_15 hx) (by omega) hc hT hts hlen (fun F I1 L1 e f1 f2 g1 l1 k1 => ?_) (fun D lw I1 L1 e hDk g1 l1 k1 hD1 => ?_)
  · simp only [Option.toList, List.nil_append, List.cons_append]
    refine Ex_istore_n 12 (i := 1) (ls' := [some (.ref h), some (.int (nI F))]) dX8_office_11 rfl (Nat.le_of_ble_eq_true rfl) rfl rfl rfl ?_
    refine Ex_iload_n 13 (i := 1) dX8_office_12 rfl rfl rfl ?_
    refine Ex_if_ne 16 20 dX8_office_13 (by decide) rfl (fun c1 => ?_) (fun c1 => absurd c1 (fun q => absurd ((nI_eq (b := 0) (by omega) (by omega)).mp q) (by omega)))
    refine Ex_iload_n 21 (i := 1) dX8_office_20 rfl rfl rfl ?_
    refine Ex_iret dX8_office_21 rfl rfl (Or.inl rfl) ?_
    exact hF F I1 L1 e f1 f2 g1 l1 k1
  · simp only [Option.toList, List.nil_append, List.cons_append]
    have hO1 := hD1.D
    obtain ⟨q1, q2, q3, q4, q5, q7, q8⟩ := id hD1
    refine Ex_istore_n 12 (i := 1) (ls' := [some (.ref h), some (.int 0)]) dX8_office_11 rfl (Nat.le_of_ble_eq_true rfl) rfl rfl rfl ?_
    refine Ex_iload_n 13 (i := 1) dX8_office_12 rfl rfl rfl ?_
    refine Ex_if_ne 16 20 dX8_office_13 (by decide) rfl (fun c2 => absurd c2 (fun q => q (by decide))) (fun c2 => ?_)
    refine Ex_aload_n 17 (i := 0) dX8_office_16 rfl rfl rfl ?_
    refine Ex_callV (M' := MX8_openDraft) 20 [] (rest := []) dX8_office_17 lX8_89 mX8_openDraft rfl (xH_0 hx) rfl (Nat.le_of_ble_eq_true rfl) (Nat.le_of_ble_eq_true rfl) rfl ?_
    refine c_openDraft hx hO1 (show D.1.length ≤ 6 from hDk.1) (fun hx2 I2 o1 o2 o3 o4 o5 o6 o7 o8 o9 => ?_)
    simp only [Option.toList, List.nil_append, List.cons_append]
    refine Ex_iload_n 21 (i := 1) dX8_office_20 rfl rfl rfl ?_
    refine Ex_iret dX8_office_21 rfl rfl (Or.inl rfl) ?_
    have kd : ∀ x, dd ≤ x → x < dd + 8 → I2 x = I1 x := fun x p q => o1 x (by omega) (by omega) (by omega) (by omega) (fun i hi => by omega)
    exact hQ D lw I2 L1 e hDk hx2 (fun x p1 p2 p3 p4 p5 p6 p7 p8 => by rw [o1 x p1 p2 p3 p4 p5, g1 x p6 p7 p8]) (fun k p q s => by rw [o2 k p q s, g1 h (by omega) (by omega) (by omega)]) o3 o4 o5 o6 o7 o8 o9 (hO1.kept kd) (fun w hw => (q3 w hw).1) q4.1 q5 l1 (by rw [o1 (h + 2) (by omega) (by omega) (by omega) (by omega) (fun i hi => by omega)]; exact k1)
set_option maxHeartbeats 4000000 in
theorem c_day {d : Nat} {sh : xSh} {R : xR} {L : xL} {I : xI} {Q : xQ} {h dk dd pl pd : Nat} (hx : xHM sh R h dk dd pl pd) {T : List Nat} (hc : ∀ x, x ∈ T → x < 127) (hT : hmTp I (h + 2) T) {t : hmTok} {r : List hmTok} (hts : hmTsR T (t :: r) 0) {nms : List (List Nat)} (hnl : nms.length ≤ 6) (h6 : I dk 6 = nI nms.length) (hnm : ∀ i, i < nms.length → L (dk + 1) i = hmE256 (nms.getD i []) ∧ hmWd (nms.getD i [])) (hF : ∀ F I' L', hmRD nms 1000 [] (t :: r) = .inl F → 1 ≤ F → F < 20000 → hmRz (h + 1) pd 4 I I' → hmSl (h + 2) L L' → I' (h + 2) 1 = 0 → Q (some (.int (nI F))) 0 sh R L' I') (hQ : ∀ D I' L', hmRD nms 1000 [] (t :: r) = .inr D → xHM sh (va_up R h (va_up (va_up (R h) 3 (some pd)) 4 (some pl))) h dk dd pd pl → hmRz (h + 1) pd 4 I I' → hmSl (h + 2) L L' → I' (h + 2) 1 = 0 → hmPl I' pd D → Q (some (.int 0)) 0 sh (va_up R h (va_up (va_up (R h) 3 (some pd)) 4 (some pl))) L' I') : Ex (d + 9) 0 0 MX8_day 0 sh R L I 0 [some (.ref h), none, none] [] Q := by
  have hdd := xH_27 hx
  have hpp := xH_28 hx
  refine Ex_aload_n 1 (i := 0) dX8_day_0 rfl rfl rfl ?_
  refine Ex_getR 4 dX8_day_1 fX8_10 (xH_0 hx) rfl (xH_1 hx) rfl ?_
  refine Ex_aload_n 5 (i := 0) dX8_day_4 rfl rfl rfl ?_
  refine Ex_getR 8 dX8_day_5 fX8_33 (xH_0 hx) rfl (xH_5 hx) rfl ?_
  refine Ex_aload_n 9 (i := 0) dX8_day_8 rfl rfl rfl ?_
  refine Ex_getR 12 dX8_day_9 fX8_19 (xH_0 hx) rfl (xH_2 hx) rfl ?_
  refine Ex_callV (M' := MX5_readDay) 15 [.ref pd, .ref dk] (rest := []) dX8_day_12 lX8_92 mX5_readDay rfl (xH_13 hx).1 rfl (Nat.le_of_ble_eq_true rfl) (Nat.le_of_ble_eq_true rfl) rfl ?_
  refine c_readDay (xH_13 hx) (xH_14 hx) (xH_17 hx) (by omega) (by omega) (by omega) hc hnl h6 hnm hT hts (fun F I1 L1 e f1 f2 g1 l1 k1 => ?_) (fun D I1 L1 e g1 l1 k1 hD1 => ?_)
  · simp only [Option.toList, List.nil_append, List.cons_append]
    refine Ex_istore_n 16 (i := 1) (ls' := [some (.ref h), some (.int (nI F)), none]) dX8_day_15 rfl (Nat.le_of_ble_eq_true rfl) rfl rfl rfl ?_
    refine Ex_iload_n 17 (i := 1) dX8_day_16 rfl rfl rfl ?_
    refine Ex_if_ne 20 38 dX8_day_17 (by decide) rfl (fun c1 => ?_) (fun c1 => absurd c1 (fun q => absurd ((nI_eq (b := 0) (by omega) (by omega)).mp q) (by omega)))
    refine Ex_iload_n 39 (i := 1) dX8_day_38 rfl rfl rfl ?_
    refine Ex_iret dX8_day_39 rfl rfl (Or.inl rfl) ?_
    exact hF F I1 L1 e f1 f2 g1 l1 k1
  · simp only [Option.toList, List.nil_append, List.cons_append]
    refine Ex_istore_n 16 (i := 1) (ls' := [some (.ref h), some (.int 0), none]) dX8_day_15 rfl (Nat.le_of_ble_eq_true rfl) rfl rfl rfl ?_
    refine Ex_iload_n 17 (i := 1) dX8_day_16 rfl rfl rfl ?_
    refine Ex_if_ne 20 38 dX8_day_17 (by decide) rfl (fun c2 => absurd c2 (fun q => q (by decide))) (fun c2 => ?_)
    refine Ex_aload_n 21 (i := 0) dX8_day_20 rfl rfl rfl ?_
    refine Ex_getR 24 dX8_day_21 fX8_29 (xH_0 hx) rfl (xH_4 hx) rfl ?_
    refine Ex_astore_n 25 (i := 2) (ls' := [some (.ref h), some (.int 0), some (.ref pl)]) dX8_day_24 rfl (Nat.le_of_ble_eq_true rfl) rfl rfl rfl ?_
    refine Ex_aload_n 26 (i := 0) dX8_day_25 rfl rfl rfl ?_
    refine Ex_aload_n 27 (i := 0) dX8_day_26 rfl rfl rfl ?_
    refine Ex_getR 30 dX8_day_27 fX8_33 (xH_0 hx) rfl (xH_5 hx) rfl ?_
    refine Ex_pR 33 (R h) (va_up R h (va_up (R h) 3 (some pd))) dX8_day_30 fX8_29 rfl (xH_0 hx) (fun _ => rfl) rfl rfl rfl rfl rfl ?_
    refine Ex_aload_n 34 (i := 0) dX8_day_33 rfl rfl rfl ?_
    refine Ex_aload_n 35 (i := 2) dX8_day_34 rfl rfl rfl ?_
    refine Ex_pR 38 (va_up (R h) 3 (some pd)) (va_up R h (va_up (va_up (R h) 3 (some pd)) 4 (some pl))) dX8_day_35 fX8_33 rfl (xH_0 hx) (fun _ => rfl) rfl rfl (va_up_self _ _ _) (va_up_up _ _ _ _) rfl ?_
    refine Ex_iload_n 39 (i := 1) dX8_day_38 rfl rfl rfl ?_
    refine Ex_iret dX8_day_39 rfl rfl (Or.inl rfl) ?_
    have hx2 : xHM sh (va_up R h (va_up (va_up (R h) 3 (some pd)) 4 (some pl))) h dk dd pd pl := hx.sw (fun x p => va_up_ne _ _ p) (fun k _ _ p1 p2 => by rw [va_up_self, va_up_ne _ _ p2, va_up_ne _ _ p1]) (by rw [va_up_self, va_up_ne _ _ (by omega), va_up_ne _ _ (by omega)]; exact xH_2 hx) (by rw [va_up_self, va_up_ne _ _ (by omega), va_up_ne _ _ (by omega)]; exact xH_3 hx) (by rw [va_up_self, va_up_ne _ _ (by omega), va_up_self]) (by rw [va_up_self, va_up_self]) (Or.inl ⟨rfl, rfl⟩) (Or.inr ⟨rfl, rfl⟩)
    exact hQ D I1 L1 e hx2 g1 l1 k1 hD1
