set_option maxHeartbeats 4000000 in
theorem mc_lays_loop {d : Nat} {sh : xSh} {R : xR} {L : xL} {I : xI} {Q : xQ} {m : Nat} (hm : xModel sh R m) (hE : ∀ l', (∀ j, j < 6 → l' j = L (m + 3) (6 + j)) → Ex d 0 0 MX9_lays 0 sh R (va_up L (m + 3) l') I 37 [some (.ref m), some (.int (nI 6))] [] Q) : ∀ n i l, n + i = 6 → (∀ j, j < i → l j = L (m + 3) (6 + j)) → (∀ j, i ≤ j → l j = L (m + 3) j) → Ex d 0 0 MX9_lays 0 sh R (va_up L (m + 3) l) I 10 [some (.ref m), some (.int (nI i))] [] Q := by
  intro n
  induction n with
  | zero =>
    intro i l hi h1 h2
    have hx : i = 6 := by omega
    subst hx
    refine Ex_iload_n 11 (i := 1) dX9_lays_10 rfl rfl rfl ?_
    refine Ex_bipush 13 (v := 6) dX9_lays_11 (by decide) rfl ?_
    refine Ex_icmp_ge 16 37 dX9_lays_13 (by decide) rfl (fun c1 => ?_) (fun c1 => absurd c1 (fun q => q (Int32.le_refl _)))
    exact hE l h1
  | succ n ih =>
    intro i l hi h1 h2
    refine Ex_iload_n 11 (i := 1) dX9_lays_10 rfl rfl rfl ?_
    refine Ex_bipush 13 (v := 6) dX9_lays_11 (by decide) rfl ?_
    refine Ex_icmp_ge 16 37 dX9_lays_13 (by decide) rfl (fun c1 => absurd c1 (nI_ge (b := 6) (by omega) (by omega))) (fun c1 => ?_)
    refine Ex_aload_n 17 (i := 0) dX9_lays_16 rfl rfl rfl ?_
    refine Ex_getR 20 dX9_lays_17 fX9_16 (xMs_0 hm) rfl (xMr_11 hm) rfl ?_
    refine Ex_iload_n 21 (i := 1) dX9_lays_20 rfl rfl rfl ?_
    refine Ex_aload_n 22 (i := 0) dX9_lays_21 rfl rfl rfl ?_
    refine Ex_getR 25 dX9_lays_22 fX9_16 (xMs_0 hm) rfl (xMr_11 hm) rfl ?_
    refine Ex_bipush 27 (v := 6) dX9_lays_25 (by decide) rfl ?_
    refine Ex_iload_n 28 (i := 1) dX9_lays_27 rfl rfl rfl ?_
    refine Ex_iadd 29 dX9_lays_28 rfl ?_
    refine Ex_aL 30 (6 + i) (l (6 + i)) dX9_lays_29 (xMs_3 hm) (hm_ad rfl rfl) (by omega) (by decide) (congrFun (va_up_self _ _ _) _) rfl ?_
    refine Ex_sL 31 i l (va_up L (m + 3) (va_up l i (l (6 + i)))) dX9_lays_30 (xMs_3 hm) rfl (by omega) (by decide) (va_up_self _ _ _) (va_up_up _ _ _ _) rfl ?_
    refine Ex_iinc 34 (v := (nI (i + 1))) (ls' := [some (.ref m), some (.int (nI (i + 1)))]) dX9_lays_31 rfl (xinc _) (Nat.le_of_ble_eq_true rfl) rfl rfl rfl ?_
    refine Ex_goto 10 dX9_lays_34 (by decide) ?_
    refine ih (i + 1) _ (by omega) (fun j hj => ?_) (fun j hj => ?_)
    · by_cases e : j = i
      · rw [e, va_up_self, h2 _ (by omega)]
      · rw [va_up_ne _ _ e]
        exact h1 j (by omega)
    · rw [va_up_ne _ _ (by omega)]
      exact h2 j (by omega)
set_option maxHeartbeats 4000000 in
theorem mc_lays {d : Nat} {sh : xSh} {R : xR} {L : xL} {I : xI} {Q : xQ} {m : Nat} {D : hmDr} {lw : List Int32} (hm : xModel sh R m) (hD : hmDm I L m D) (hDk : hmDrOk D) (hlw : (D.2.2 = none ∧ lw = []) ∨ ∃ cd, D.2.2 = some cd ∧ hmSem cd lw) (hQ : ∀ I' L', (∀ x, ¬ (m + 2 ≤ x ∧ x < m + 11) → I' x = I x) → (∀ x, x ≠ m + 3 → L' x = L x) → hmMo I' m (hmOo D lw) → (∀ w, w < D.1.length → L' (m + 3) w = hmE27 (D.1.getD w ([], 0, 0, 0, 0)).1) → Q none 0 sh R L' I') : Ex (d + 1) 0 0 MX9_lays 0 sh R L I 0 [some (.ref m), none] [] Q := by
  obtain ⟨d1, d2, d3, d4, d5, d6⟩ := hD
  have h6 : ∃ cd : List Int32, I (m + 9) 1 = nI (1000 + cd.length) ∧ cd.length ≤ 1000 ∧ (∀ i, i < cd.length → I (m + 10) (1000 + i) = cd.getD i 0) ∧ ((cd = [] ∧ lw = []) ∨ hmSem cd lw) := by
    rcases d6 with ⟨a1, a2, a3⟩ | ⟨cd, a1, a2, a3, a4, a5⟩
    · refine ⟨[], a2, by decide, fun i hi => absurd hi (Nat.not_lt_zero _), Or.inl ⟨rfl, ?_⟩⟩
      rcases hlw with ⟨_, h⟩ | ⟨cd, h, _⟩
      · exact h
      · rw [a1] at h
        exact absurd h (by simp)
    · refine ⟨cd, a4, a3, a5.2, Or.inr ?_⟩
      rcases hlw with ⟨h, _⟩ | ⟨cd2, h, hs⟩
      · rw [a1] at h
        exact absurd h (by simp)
      · rw [a1] at h
        cases h
        exact hs
  obtain ⟨cd, h9, hcl, hcd, hsm⟩ := h6
  refine Ex_aload_n 1 (i := 0) dX9_lays_0 rfl rfl rfl ?_
  refine Ex_getR 4 dX9_lays_1 fX9_13 (xMs_0 hm) rfl (xMr_10 hm) rfl ?_
  refine Ex_iconst 5 (v := 2) dX9_lays_4 (by decide) rfl ?_
  refine Ex_callS (M' := MX9_shifts) 8 [.ref (m + 2), .int 2] (rest := []) dX9_lays_5 lX9_290 mX9_shifts rfl rfl (Nat.le_of_ble_eq_true rfl) (Nat.le_of_ble_eq_true rfl) rfl ?_
  refine mc_shifts2 (xMs_2 hm) (fun r2 p2 q2 => ?_)
  simp only [Option.toList, List.nil_append, List.cons_append]
  refine Ex_iconst 9 (v := 0) dX9_lays_8 (by decide) rfl ?_
  refine Ex_istore_n 10 (i := 1) (ls' := [some (.ref m), some (.int 0)]) dX9_lays_9 rfl (Nat.le_of_ble_eq_true rfl) rfl rfl rfl ?_
  refine Ex_L (L' := va_up L (m + 3) (L (m + 3))) (by rw [va_up_id]) ?_
  refine mc_lays_loop hm (fun l hl => ?_) 6 0 (L (m + 3)) rfl (fun j hj => absurd hj (Nat.not_lt_zero _)) (fun j _ => rfl)
  refine Ex_aload_n 38 (i := 0) dX9_lays_37 rfl rfl rfl ?_
  refine Ex_getR 41 dX9_lays_38 fX9_20 (xMs_0 hm) rfl (xMr_12 hm) rfl ?_
  refine Ex_bipush 43 (v := 6) dX9_lays_41 (by decide) rfl ?_
  refine Ex_callS (M' := MX9_shifts) 46 [.ref (m + 4), .int 6] (rest := []) dX9_lays_43 lX9_290 mX9_shifts rfl rfl (Nat.le_of_ble_eq_true rfl) (Nat.le_of_ble_eq_true rfl) rfl ?_
  refine mc_shifts6 (xMs_4 hm) (fun r4 p4 q4 => ?_)
  simp only [Option.toList, List.nil_append, List.cons_append]
  refine Ex_aload_n 47 (i := 0) dX9_lays_46 rfl rfl rfl ?_
  refine Ex_getR 50 dX9_lays_47 fX9_23 (xMs_0 hm) rfl (xMr_13 hm) rfl ?_
  refine Ex_bipush 52 (v := 6) dX9_lays_50 (by decide) rfl ?_
  refine Ex_callS (M' := MX9_shifts) 55 [.ref (m + 5), .int 6] (rest := []) dX9_lays_52 lX9_290 mX9_shifts rfl rfl (Nat.le_of_ble_eq_true rfl) (Nat.le_of_ble_eq_true rfl) rfl ?_
  refine mc_shifts6 (xMs_5 hm) (fun r5 p5 q5 => ?_)
  simp only [Option.toList, List.nil_append, List.cons_append]
  refine Ex_aload_n 56 (i := 0) dX9_lays_55 rfl rfl rfl ?_
  refine Ex_getR 59 dX9_lays_56 fX9_26 (xMs_0 hm) rfl (xMr_14 hm) rfl ?_
  refine Ex_bipush 61 (v := 6) dX9_lays_59 (by decide) rfl ?_
  refine Ex_callS (M' := MX9_shifts) 64 [.ref (m + 6), .int 6] (rest := []) dX9_lays_61 lX9_290 mX9_shifts rfl rfl (Nat.le_of_ble_eq_true rfl) (Nat.le_of_ble_eq_true rfl) rfl ?_
  refine mc_shifts6 (xMs_6 hm) (fun r6 p6 q6 => ?_)
  simp only [Option.toList, List.nil_append, List.cons_append]
  refine Ex_aload_n 65 (i := 0) dX9_lays_64 rfl rfl rfl ?_
  refine Ex_getR 68 dX9_lays_65 fX9_29 (xMs_0 hm) rfl (xMr_15 hm) rfl ?_
  refine Ex_bipush 70 (v := 6) dX9_lays_68 (by decide) rfl ?_
  refine Ex_callS (M' := MX9_shifts) 73 [.ref (m + 7), .int 6] (rest := []) dX9_lays_70 lX9_290 mX9_shifts rfl rfl (Nat.le_of_ble_eq_true rfl) (Nat.le_of_ble_eq_true rfl) rfl ?_
  refine mc_shifts6 (xMs_7 hm) (fun r7 p7 q7 => ?_)
  simp only [Option.toList, List.nil_append, List.cons_append]
  refine Ex_aload_n 74 (i := 0) dX9_lays_73 rfl rfl rfl ?_
  refine Ex_getR 77 dX9_lays_74 fX9_38 (xMs_0 hm) rfl (xMr_18 hm) rfl ?_
  refine Ex_sipush 80 (v := 1000) dX9_lays_77 (by decide) rfl ?_
  refine Ex_callS (M' := MX9_shifts) 83 [.ref (m + 10), .int 1000] (rest := []) dX9_lays_80 lX9_290 mX9_shifts rfl rfl (Nat.le_of_ble_eq_true rfl) (Nat.le_of_ble_eq_true rfl) rfl ?_
  refine mc_shifts1000 (xMs_10 hm) (fun r10 p10 q10 => ?_)
  simp only [Option.toList, List.nil_append, List.cons_append]
  refine Ex_aload_n 84 (i := 0) dX9_lays_83 rfl rfl rfl ?_
  refine Ex_getR 87 dX9_lays_84 fX9_32 (xMs_0 hm) rfl (xMr_16 hm) rfl ?_
  refine Ex_iconst 88 (v := 0) dX9_lays_87 (by decide) rfl ?_
  refine Ex_aload_n 89 (i := 0) dX9_lays_88 rfl rfl rfl ?_
  refine Ex_getR 92 dX9_lays_89 fX9_32 (xMs_0 hm) rfl (xMr_16 hm) rfl ?_
  refine Ex_iconst 93 (v := 1) dX9_lays_92 (by decide) rfl ?_
  refine Ex_aI 94 1 (I (m + 8) 1) dX9_lays_93 (xMs_8 hm) rfl (by decide) (by decide) (congrFun ((va_up_ne _ _ (by omega)).trans ((va_up_ne _ _ (by omega)).trans ((va_up_ne _ _ (by omega)).trans ((va_up_ne _ _ (by omega)).trans ((va_up_ne _ _ (by omega)).trans (va_up_ne _ _ (by omega))))))) _) rfl ?_
  rw [d5]
  refine Ex_sipush 97 (v := 1000) dX9_lays_94 (by decide) rfl ?_
  refine Ex_isub 98 dX9_lays_97 rfl ?_
  refine Ex_sI 99 0 (I (m + 8)) (va_up (va_up (va_up (va_up (va_up (va_up (va_up I (m + 2) r2) (m + 4) r4) (m + 5) r5) (m + 6) r6) (m + 7) r7) (m + 10) r10) (m + 8) (va_up (I (m + 8)) 0 ((nI 1000) - 1000))) dX9_lays_98 (xMs_8 hm) rfl (by decide) (by decide) ((va_up_ne _ _ (by omega)).trans ((va_up_ne _ _ (by omega)).trans ((va_up_ne _ _ (by omega)).trans ((va_up_ne _ _ (by omega)).trans ((va_up_ne _ _ (by omega)).trans (va_up_ne _ _ (by omega))))))) rfl rfl ?_
  refine Ex_aload_n 100 (i := 0) dX9_lays_99 rfl rfl rfl ?_
  refine Ex_getR 103 dX9_lays_100 fX9_35 (xMs_0 hm) rfl (xMr_17 hm) rfl ?_
  refine Ex_iconst 104 (v := 0) dX9_lays_103 (by decide) rfl ?_
  refine Ex_aload_n 105 (i := 0) dX9_lays_104 rfl rfl rfl ?_
  refine Ex_getR 108 dX9_lays_105 fX9_35 (xMs_0 hm) rfl (xMr_17 hm) rfl ?_
  refine Ex_iconst 109 (v := 1) dX9_lays_108 (by decide) rfl ?_
  refine Ex_aI 110 1 (I (m + 9) 1) dX9_lays_109 (xMs_9 hm) rfl (by decide) (by decide) (congrFun ((va_up_ne _ _ (by omega)).trans ((va_up_ne _ _ (by omega)).trans ((va_up_ne _ _ (by omega)).trans ((va_up_ne _ _ (by omega)).trans ((va_up_ne _ _ (by omega)).trans ((va_up_ne _ _ (by omega)).trans (va_up_ne _ _ (by omega)))))))) _) rfl ?_
  rw [h9]
  refine Ex_sipush 113 (v := 1000) dX9_lays_110 (by decide) rfl ?_
  refine Ex_isub 114 dX9_lays_113 rfl ?_
  refine Ex_sI 115 0 (I (m + 9)) (va_up (va_up (va_up (va_up (va_up (va_up (va_up (va_up I (m + 2) r2) (m + 4) r4) (m + 5) r5) (m + 6) r6) (m + 7) r7) (m + 10) r10) (m + 8) (va_up (I (m + 8)) 0 ((nI 1000) - 1000))) (m + 9) (va_up (I (m + 9)) 0 ((nI (1000 + cd.length)) - 1000))) dX9_lays_114 (xMs_9 hm) rfl (by decide) (by decide) ((va_up_ne _ _ (by omega)).trans ((va_up_ne _ _ (by omega)).trans ((va_up_ne _ _ (by omega)).trans ((va_up_ne _ _ (by omega)).trans ((va_up_ne _ _ (by omega)).trans ((va_up_ne _ _ (by omega)).trans (va_up_ne _ _ (by omega)))))))) rfl rfl ?_
  refine Ex_ret0 dX9_lays_115 rfl (Or.inl rfl) ?_
  obtain ⟨I9, e9⟩ : ∃ I9, I9 = (va_up (va_up (va_up (va_up (va_up (va_up (va_up (va_up I (m + 2) r2) (m + 4) r4) (m + 5) r5) (m + 6) r6) (m + 7) r7) (m + 10) r10) (m + 8) (va_up (I (m + 8)) 0 ((nI 1000) - 1000))) (m + 9) (va_up (I (m + 9)) 0 ((nI (1000 + cd.length)) - 1000))) := ⟨_, rfl⟩
  rw [← e9]
  have z2 : I9 (m + 2) = r2 := by rw [e9]; simp only [va_up]; rw [if_neg (by omega), if_neg (by omega), if_neg (by omega), if_neg (by omega), if_neg (by omega), if_neg (by omega), if_neg (by omega), if_pos trivial]
  have z4 : I9 (m + 4) = r4 := by rw [e9]; simp only [va_up]; rw [if_neg (by omega), if_neg (by omega), if_neg (by omega), if_neg (by omega), if_neg (by omega), if_neg (by omega), if_pos trivial]
  have z5 : I9 (m + 5) = r5 := by rw [e9]; simp only [va_up]; rw [if_neg (by omega), if_neg (by omega), if_neg (by omega), if_neg (by omega), if_neg (by omega), if_pos trivial]
  have z6 : I9 (m + 6) = r6 := by rw [e9]; simp only [va_up]; rw [if_neg (by omega), if_neg (by omega), if_neg (by omega), if_neg (by omega), if_pos trivial]
  have z7 : I9 (m + 7) = r7 := by rw [e9]; simp only [va_up]; rw [if_neg (by omega), if_neg (by omega), if_neg (by omega), if_pos trivial]
  have z10 : I9 (m + 10) = r10 := by rw [e9]; simp only [va_up]; rw [if_neg (by omega), if_neg (by omega), if_pos trivial]
  have z8 : I9 (m + 8) 0 = nI 1000 - 1000 := by rw [e9, va_up_ne _ _ (by omega), va_up_self, va_up_self]
  have z9 : I9 (m + 9) 0 = nI (1000 + cd.length) - 1000 := by rw [e9, va_up_self, va_up_self]
  have zz : ∀ x, ¬ (m + 2 ≤ x ∧ x < m + 11) → I9 x = I x := fun x hx => by
    rw [e9]
    simp only [va_up]
    rw [if_neg (by omega), if_neg (by omega), if_neg (by omega), if_neg (by omega), if_neg (by omega), if_neg (by omega), if_neg (by omega), if_neg (by omega)]
  have f4 : ∀ j, j < 6 → r4 j = I (m + 4) (6 + j) := fun j hj => by rw [p4 j hj]; simp only [va_up]; rw [if_neg (by omega)]
  have f5 : ∀ j, j < 6 → r5 j = I (m + 5) (6 + j) := fun j hj => by rw [p5 j hj]; simp only [va_up]; rw [if_neg (by omega), if_neg (by omega)]
  have f6 : ∀ j, j < 6 → r6 j = I (m + 6) (6 + j) := fun j hj => by rw [p6 j hj]; simp only [va_up]; rw [if_neg (by omega), if_neg (by omega), if_neg (by omega)]
  have f7 : ∀ j, j < 6 → r7 j = I (m + 7) (6 + j) := fun j hj => by rw [p7 j hj]; simp only [va_up]; rw [if_neg (by omega), if_neg (by omega), if_neg (by omega), if_neg (by omega)]
  have f10 : ∀ j, j < 1000 → r10 j = I (m + 10) (1000 + j) := fun j hj => by rw [p10 j hj]; simp only [va_up]; rw [if_neg (by omega), if_neg (by omega), if_neg (by omega), if_neg (by omega), if_neg (by omega)]
  refine hQ I9 _ zz (fun x hx => va_up_ne _ _ hx) ⟨?_, ?_, fun w hw => ?_, cd, ?_, ?_, hcl, fun i hi => ?_, ?_⟩ (fun w hw => ?_)
  · rw [z2, p2 0 (by omega)]; exact d1
  · rw [z2, p2 1 (by omega)]; exact d2
  · have hw2 : w < D.1.length := hw
    have h66 := hDk.1
    obtain ⟨_, b1, b2, b3, b4⟩ := d3 w hw2
    rw [z4, z5, z6, z7, f4 w (by omega), f5 w (by omega), f6 w (by omega), f7 w (by omega)]
    exact ⟨b1, b2, b3, b4⟩
  · rw [z8]; decide
  · rw [z9]
    have h := pk_sub (a := 1000 + cd.length) (b := 1000) (by omega)
    rw [Nat.add_sub_cancel_left] at h
    exact h
  · rw [z10, f10 i (by omega)]
    exact hcd i hi
  · rcases hsm with ⟨a, b⟩ | h
    · exact Or.inl ⟨a, b⟩
    · exact Or.inr ⟨h.1, h.2.1⟩
  · have h66 := hDk.1
    rw [va_up_self, hl w (by omega)]
    exact (d3 w hw).1
set_option maxHeartbeats 4000000 in
theorem mc_forgets_loop {d : Nat} {sh : xSh} {R : xR} {L : xL} {I : xI} {Q : xQ} {m : Nat} (hm : xModel sh R m) (hQ : ∀ r', (∀ j, j < 6 → r' j = (-1)) → (∀ j, 6 ≤ j → r' j = I (m + 27) j) → Q none 0 sh R L (va_up I (m + 27) r')) : ∀ n i r, n + i = 6 → (∀ j, j < i → r j = (-1)) → (∀ j, 6 ≤ j → r j = I (m + 27) j) → Ex d 0 0 MX9_forgets 0 sh R L (va_up I (m + 27) r) 2 [some (.ref m), some (.int (nI i))] [] Q := by
  intro n
  induction n with
  | zero =>
    intro i r hi h1 h2
    have hx : i = 6 := by omega
    subst hx
    refine Ex_iload_n 3 (i := 1) dX9_forgets_2 rfl rfl rfl ?_
    refine Ex_bipush 5 (v := 6) dX9_forgets_3 (by decide) rfl ?_
    refine Ex_icmp_ge 8 21 dX9_forgets_5 (by decide) rfl (fun c1 => ?_) (fun c1 => absurd c1 (fun q => q (Int32.le_refl _)))
    refine Ex_ret0 dX9_forgets_21 rfl (Or.inl rfl) ?_
    exact hQ r h1 h2
  | succ n ih =>
    intro i r hi h1 h2
    refine Ex_iload_n 3 (i := 1) dX9_forgets_2 rfl rfl rfl ?_
    refine Ex_bipush 5 (v := 6) dX9_forgets_3 (by decide) rfl ?_
    refine Ex_icmp_ge 8 21 dX9_forgets_5 (by decide) rfl (fun c1 => absurd c1 (nI_ge (b := 6) (by omega) (by omega))) (fun c1 => ?_)
    refine Ex_aload_n 9 (i := 0) dX9_forgets_8 rfl rfl rfl ?_
    refine Ex_getR 12 dX9_forgets_9 fX9_90 (xMs_0 hm) rfl (xMr_38 hm) rfl ?_
    refine Ex_iload_n 13 (i := 1) dX9_forgets_12 rfl rfl rfl ?_
    refine Ex_iconst 14 (v := (-1)) dX9_forgets_13 (by decide) rfl ?_
    refine Ex_sI 15 i r (va_up I (m + 27) (va_up r i (-1))) dX9_forgets_14 (xMs_27 hm) rfl (by omega) (by decide) (va_up_self _ _ _) (va_up_up _ _ _ _) rfl ?_
    refine Ex_iinc 18 (v := (nI (i + 1))) (ls' := [some (.ref m), some (.int (nI (i + 1)))]) dX9_forgets_15 rfl (xinc _) (Nat.le_of_ble_eq_true rfl) rfl rfl rfl ?_
    refine Ex_goto 2 dX9_forgets_18 (by decide) ?_
    refine ih (i + 1) _ (by omega) (fun j hj => ?_) (fun j hj => ?_)
    · by_cases e : j = i
      · rw [e, va_up_self]
      · rw [va_up_ne _ _ e]
        exact h1 j (by omega)
    · rw [va_up_ne _ _ (by omega)]
      exact h2 j (by omega)
set_option maxHeartbeats 4000000 in
theorem mc_forgets {d : Nat} {sh : xSh} {R : xR} {L : xL} {I : xI} {Q : xQ} {m : Nat} (hm : xModel sh R m) (hQ : ∀ r', (∀ j, j < 6 → r' j = (-1)) → (∀ j, 6 ≤ j → r' j = I (m + 27) j) → Q none 0 sh R L (va_up I (m + 27) r')) : Ex d 0 0 MX9_forgets 0 sh R L I 0 [some (.ref m), none] [] Q := by
  refine Ex_iconst 1 (v := 0) dX9_forgets_0 (by decide) rfl ?_
  refine Ex_istore_n 2 (i := 1) (ls' := [some (.ref m), some (.int 0)]) dX9_forgets_1 rfl (Nat.le_of_ble_eq_true rfl) rfl rfl rfl ?_
  refine Ex_I (I' := va_up I (m + 27) (I (m + 27))) (by rw [va_up_id]) ?_
  exact mc_forgets_loop hm hQ 6 0 (I (m + 27)) rfl (fun j hj => absurd hj (Nat.not_lt_zero _)) (fun j _ => rfl)
