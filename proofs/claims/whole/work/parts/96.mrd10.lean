set_option maxHeartbeats 4000000 in
theorem mc_office_loop {d : Nat} {sh : xSh} {R : xR} {L : xL} {I : xI} {Q : xQ} {m : Nat} (hm : xModel sh R m) (hQ : ∀ r', (∀ j, j < 4 → r' j = 0) → Q (some (.int 0)) 0 sh R L (va_up I (m + 33) r')) : ∀ n i r, n + i = 4 → (∀ j, j < i → r j = 0) → Ex d 0 0 MX9_office 0 sh R L (va_up I (m + 33) r) 53 [some (.ref m), some (.int (nI i))] [] Q := by
  intro n
  induction n with
  | zero =>
    intro i r hi h1
    have hx : i = 4 := by omega
    subst hx
    refine Ex_iload_n 54 (i := 1) dX9_office_53 rfl rfl rfl ?_
    refine Ex_iconst 55 (v := 4) dX9_office_54 (by decide) rfl ?_
    refine Ex_icmp_ge 58 71 dX9_office_55 (by decide) rfl (fun c1 => ?_) (fun c1 => absurd c1 (fun q => q (Int32.le_refl _)))
    refine Ex_iconst 72 (v := 0) dX9_office_71 (by decide) rfl ?_
    refine Ex_iret dX9_office_72 rfl rfl (Or.inl rfl) ?_
    exact hQ r h1
  | succ n ih =>
    intro i r hi h1
    refine Ex_iload_n 54 (i := 1) dX9_office_53 rfl rfl rfl ?_
    refine Ex_iconst 55 (v := 4) dX9_office_54 (by decide) rfl ?_
    refine Ex_icmp_ge 58 71 dX9_office_55 (by decide) rfl (fun c1 => absurd c1 (nI_ge (b := 4) (by omega) (by omega))) (fun c1 => ?_)
    refine Ex_aload_n 59 (i := 0) dX9_office_58 rfl rfl rfl ?_
    refine Ex_getR 62 dX9_office_59 fX9_108 (xMs_0 hm) rfl (xMr_44 hm) rfl ?_
    refine Ex_iload_n 63 (i := 1) dX9_office_62 rfl rfl rfl ?_
    refine Ex_iconst 64 (v := 0) dX9_office_63 (by decide) rfl ?_
    refine Ex_sZ 65 i r (va_up I (m + 33) (va_up r i (vp_nar .boolean 0))) dX9_office_64 (xMs_33 hm) rfl (by omega) (by decide) (va_up_self _ _ _) (va_up_up _ _ _ _) rfl ?_
    refine Ex_iinc 68 (v := (nI (i + 1))) (ls' := [some (.ref m), some (.int (nI (i + 1)))]) dX9_office_65 rfl (xinc _) (Nat.le_of_ble_eq_true rfl) rfl rfl rfl ?_
    refine Ex_goto 53 dX9_office_68 (by decide) ?_
    refine ih (i + 1) _ (by omega) (fun j hj => ?_)
    by_cases e : j = i
    · rw [e, va_up_self]
      rfl
    · rw [va_up_ne _ _ e]
      exact h1 j (by omega)
set_option maxHeartbeats 4000000 in
theorem mq_office {d : Nat} {sh : xSh} {R : xR} {L : xL} {I : xI} {Q : xQ} {m : Nat} {T : List Nat} (hm : xModel sh R m) (hT : hmTm I m T) (hc : ∀ x, x ∈ T → x < 127) {t : hmTok} {r : List hmTok} (hts : hmTsR T (t :: r) 0) (hlen : (t :: r).length ≤ 1001) {lw : List Int32} (hlw : ∀ D, hmRO 1000 hmDr0 (t :: r) = .inr D → hmDrOk D → hmOok (hmOo D lw) ∧ ((D.2.2 = none ∧ lw = []) ∨ ∃ cd, D.2.2 = some cd ∧ hmSem cd lw)) (hF : ∀ F I' L', hmRO 1000 hmDr0 (t :: r) = .inl F → 1 ≤ F → F < 20000 → hmWf m (hmTh I m) I' → hmVl m L L' → I' m 1 = 0 → Q (some (.int (nI F))) 0 sh R L' I') (hQ : ∀ D I' L', hmRO 1000 hmDr0 (t :: r) = .inr D → hmDrOk D → (∀ x, x ≠ m → ¬ (m + 2 ≤ x ∧ x < m + 13) → x ≠ m + 23 → x ≠ m + 27 → x ≠ m + 28 → x ≠ m + 33 → I' x = I x) → I' m 1 = 0 → I' m 45 = 0 → I' m 46 = nI (hmTk (hmOo D lw)) → I' m 0 = 0 → I' (m + 23) 0 = 0 → (∀ j, j < 6 → I' (m + 27) j = (-1)) → (∀ i, i < 4 → I' (m + 33) i = 0) → hmMr (I' (m + 28)) (hmBegin (hmOo D lw)) → hmMo I' m (hmOo D lw) → (∀ w, w < D.1.length → L' (m + 3) w = hmE27 (D.1.getD w ([], 0, 0, 0, 0)).1) → (∀ x, x ≠ m → x ≠ m + 3 → L' x = L x) → Q (some (.int 0)) 0 sh R L' I') : Ex (d + 5) 0 0 MX9_office 0 sh R L I 0 [some (.ref m), none] [] Q := by
  refine Ex_aload_n 1 (i := 0) dX9_office_0 rfl rfl rfl ?_
  refine Ex_iconst 2 (v := 0) dX9_office_1 (by decide) rfl ?_
  refine Ex_pI 5 (I m) (va_up I m (va_up (I m) 0 0)) dX9_office_2 fX9_130 rfl (xMs_0 hm) rfl (fun _ => rfl) rfl rfl rfl rfl ?_
  refine Ex_aload_n 6 (i := 0) dX9_office_5 rfl rfl rfl ?_
  refine Ex_callV (M' := MX9_readsAll) 9 [] (rest := []) dX9_office_6 lX9_297 mX9_readsAll rfl (xMs_0 hm) rfl (Nat.le_of_ble_eq_true rfl) (Nat.le_of_ble_eq_true rfl) rfl ?_
  have hT0 : hmTm (hmTh I m) m T := ⟨hT.1, by unfold hmTh; rw [va_up_self, va_up_ne _ _ (by omega)]; exact hT.2.1, fun i hi => by unfold hmTh; rw [va_up_ne _ _ (by omega)]; exact hT.2.2 i hi⟩
  refine mc_readsAll (I := hmTh I m) hm hT0 hc hts hlen (fun F I1 L1 e f1 f2 g1 l1 y1 k9 => ?_) (fun D I1 L1 e hDk g1 l1 y1 hM => ?_)
  · simp only [Option.toList, List.nil_append, List.cons_append]
    refine Ex_if_ne 12 17 dX9_office_9 (by decide) rfl (fun c1 => absurd c1 (fun q => q (by decide))) (fun c1 => ?_)
    refine Ex_aload_n 13 (i := 0) dX9_office_12 rfl rfl rfl ?_
    refine Ex_gI 16 (I1 m 9) dX9_office_13 fX9_165 (xMs_0 hm) rfl rfl rfl ?_
    refine Ex_iret dX9_office_16 rfl rfl (Or.inl rfl) ?_
    rw [k9]
    exact hF F I1 L1 e f1 f2 g1 l1 y1
  · simp only [Option.toList, List.nil_append, List.cons_append]
    obtain ⟨ho, hl⟩ := hlw D e hDk
    refine Ex_if_ne 12 17 dX9_office_9 (by decide) rfl (fun c2 => ?_) (fun c2 => absurd c2 (by decide))
    refine Ex_aload_n 18 (i := 0) dX9_office_17 rfl rfl rfl ?_
    refine Ex_callV (M' := MX9_lays) 21 [] (rest := []) dX9_office_18 lX9_300 mX9_lays rfl (xMs_0 hm) rfl (Nat.le_of_ble_eq_true rfl) (Nat.le_of_ble_eq_true rfl) rfl ?_
    refine mc_lays hm hM hDk hl (fun I2 L2 g2 l2 hO2 hn2 => ?_)
    simp only [Option.toList, List.nil_append, List.cons_append]
    refine Ex_aload_n 22 (i := 0) dX9_office_21 rfl rfl rfl ?_
    refine Ex_callV (M' := MX9_fresh) 25 [] (rest := []) dX9_office_22 lX9_303 mX9_fresh rfl (xMs_0 hm) rfl (Nat.le_of_ble_eq_true rfl) (Nat.le_of_ble_eq_true rfl) rfl ?_
    refine mc_fresh hm hO2 ho (fun r28 hr28 => ?_)
    simp only [Option.toList, List.nil_append, List.cons_append]
    refine Ex_aload_n 26 (i := 0) dX9_office_25 rfl rfl rfl ?_
    refine Ex_aload_n 27 (i := 0) dX9_office_26 rfl rfl rfl ?_
    refine Ex_getR 30 dX9_office_27 fX9_13 (xMs_0 hm) rfl (xMr_10 hm) rfl ?_
    refine Ex_iconst 31 (v := 1) dX9_office_30 (by decide) rfl ?_
    refine Ex_aI 32 1 (I2 (m + 2) 1) dX9_office_31 (xMs_2 hm) rfl (by decide) (by decide) (congrFun (va_up_ne _ _ (by omega)) _) rfl ?_
    refine Ex_pI 35 (I2 m) (va_up (va_up I2 (m + 28) r28) m (va_up (I2 m) 46 (I2 (m + 2) 1))) dX9_office_32 fX9_123 rfl (xMs_0 hm) rfl (fun _ => rfl) (va_up_ne _ _ (by omega)) rfl rfl rfl ?_
    refine Ex_aload_n 36 (i := 0) dX9_office_35 rfl rfl rfl ?_
    refine Ex_callV (M' := MX9_forgets) 39 [] (rest := []) dX9_office_36 lX9_127 mX9_forgets rfl (xMs_0 hm) rfl (Nat.le_of_ble_eq_true rfl) (Nat.le_of_ble_eq_true rfl) rfl ?_
    refine mc_forgets hm (fun r27 p27 q27 => ?_)
    simp only [Option.toList, List.nil_append, List.cons_append]
    refine Ex_aload_n 40 (i := 0) dX9_office_39 rfl rfl rfl ?_
    refine Ex_getR 43 dX9_office_40 fX9_78 (xMs_0 hm) rfl (xMr_34 hm) rfl ?_
    refine Ex_iconst 44 (v := 0) dX9_office_43 (by decide) rfl ?_
    refine Ex_iconst 45 (v := 0) dX9_office_44 (by decide) rfl ?_
    refine Ex_sI 46 0 (I2 (m + 23)) (va_up (va_up (va_up (va_up I2 (m + 28) r28) m (va_up (I2 m) 46 (I2 (m + 2) 1))) (m + 27) r27) (m + 23) (va_up (I2 (m + 23)) 0 0)) dX9_office_45 (xMs_23 hm) rfl (by decide) (by decide) ((va_up_ne _ _ (by omega)).trans ((va_up_ne _ _ (by omega)).trans (va_up_ne _ _ (by omega)))) rfl rfl ?_
    refine Ex_aload_n 47 (i := 0) dX9_office_46 rfl rfl rfl ?_
    refine Ex_iconst 48 (v := 0) dX9_office_47 (by decide) rfl ?_
    refine Ex_pI 51 (va_up (I2 m) 46 (I2 (m + 2) 1)) (va_up (va_up (va_up (va_up I2 (m + 28) r28) (m + 27) r27) (m + 23) (va_up (I2 (m + 23)) 0 0)) m (va_up (va_up (I2 m) 46 (I2 (m + 2) 1)) 45 0)) dX9_office_48 fX9_306 rfl (xMs_0 hm) rfl (fun _ => rfl) ((va_up_ne _ _ (by omega)).trans ((va_up_ne _ _ (by omega)).trans (va_up_self _ _ _))) rfl (x_agree (fun y hy => by simp only [va_up, if_neg hy])) rfl ?_
    refine Ex_iconst 52 (v := 0) dX9_office_51 (by decide) rfl ?_
    refine Ex_istore_n 53 (i := 1) (ls' := [some (.ref m), some (.int 0)]) dX9_office_52 rfl (Nat.le_of_ble_eq_true rfl) rfl rfl rfl ?_
    obtain ⟨I8, e8⟩ : ∃ I8, I8 = (va_up (va_up (va_up (va_up I2 (m + 28) r28) (m + 27) r27) (m + 23) (va_up (I2 (m + 23)) 0 0)) m (va_up (va_up (I2 m) 46 (I2 (m + 2) 1)) 45 0)) := ⟨_, rfl⟩
    rw [← e8]
    have z23 : I8 (m + 23) 0 = 0 := by rw [e8, va_up_ne _ _ (by omega), va_up_self, va_up_self]
    have z27 : I8 (m + 27) = r27 := by rw [e8, va_up_ne _ _ (by omega), va_up_ne _ _ (by omega), va_up_self]
    have z28 : I8 (m + 28) = r28 := by rw [e8, va_up_ne _ _ (by omega), va_up_ne _ _ (by omega), va_up_ne _ _ (by omega), va_up_self]
    have zm : I8 m = va_up (va_up (I2 m) 46 (I2 (m + 2) 1)) 45 0 := by rw [e8, va_up_self]
    have zz : ∀ x, x ≠ m → x ≠ m + 23 → x ≠ m + 27 → x ≠ m + 28 → I8 x = I2 x := fun x a b c d => by rw [e8, va_up_ne _ _ a, va_up_ne _ _ b, va_up_ne _ _ c, va_up_ne _ _ d]
    refine Ex_I (I' := va_up I8 (m + 33) (I8 (m + 33))) (by rw [va_up_id]) ?_
    refine mc_office_loop hm (fun r33 p33 => ?_) 4 0 (I8 (m + 33)) rfl (fun j hj => absurd hj (Nat.not_lt_zero _))
    refine hQ D _ L2 e hDk (fun x a b c d f g => ?_) ?_ ?_ ?_ ?_ ?_ (fun j hj => ?_) (fun i hi => ?_) ?_ ?_ hn2 (fun x a b => ?_)
    · rw [va_up_ne _ _ g, zz x a c d f, g2 x (by omega), g1.1 x a b]
      unfold hmTh
      rw [va_up_ne _ _ a]
    · rw [va_up_ne _ _ (by omega), zm, va_up_ne _ _ (by omega), va_up_ne _ _ (by omega), g2 m (by omega)]
      exact y1
    · rw [va_up_ne _ _ (by omega), zm, va_up_self]
    · rw [va_up_ne _ _ (by omega), zm, va_up_ne _ _ (by omega), va_up_self]
      exact hO2.2.1
    · rw [va_up_ne _ _ (by omega), zm, va_up_ne _ _ (by omega), va_up_ne _ _ (by omega), g2 m (by omega), g1.2.1 0 (by omega) (by omega) (by omega) (by omega) (by omega) (by omega) (by omega) (by omega) (by omega) (by omega)]
      unfold hmTh
      rw [va_up_self, va_up_self]
    · rw [va_up_ne _ _ (by omega)]
      exact z23
    · rw [va_up_ne _ _ (by omega), z27]
      exact p27 j hj
    · rw [va_up_self]
      exact p33 i hi
    · rw [va_up_ne _ _ (by omega), z28]
      exact hr28
    · exact hO2.kept (fun x a b => by rw [va_up_ne _ _ (by omega), zz x (by omega) (by omega) (by omega) (by omega)])
    · rw [l2 x b, l1.1 x a b]
