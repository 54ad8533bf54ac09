theorem hm_cpyself {f : Nat → Int32} {a b k n : Nat} (hab : a + n ≤ b ∨ b + n ≤ a) (hk : k < n) : va_up (va_cpy f f a b k) (b + k) (va_cpy f f a b k (a + k)) = va_cpy f f a b (k + 1) := by
  have e : va_cpy f f a b k (a + k) = f (a + k) := by
    unfold va_cpy
    rw [if_neg (by omega)]
  rw [e, hm_cpy_s]
theorem hm_cpyin {f g : Nat → Int32} {a b n j : Nat} (hj : j < n) : va_cpy f g a b n (b + j) = f (a + j) := by
  unfold va_cpy
  rw [if_pos (by omega)]
  congr 1
  omega
theorem hm_cpyout {f g : Nat → Int32} {a b n j : Nat} (hj : j < b ∨ b + n ≤ j) : va_cpy f g a b n j = g j := by
  unfold va_cpy
  rw [if_neg (by omega)]
set_option maxHeartbeats 4000000 in
theorem mc_laysLines_loop {d : Nat} {sh : xSh} {R : xR} {L : xL} {I : xI} {Q : xQ} {m fr to : Nat} (hm : xModel sh R m) (hfr : fr < 6) (hto : to < 6) (hne : fr ≠ to) (hQ : Q none 0 sh R L (va_up (va_up (va_up I (m + 24) (va_cpy (I (m + 24)) (I (m + 24)) (40 * fr) (40 * to) 40)) (m + 25) (va_cpy (I (m + 25)) (I (m + 25)) (40 * fr) (40 * to) 40)) (m + 26) (va_cpy (I (m + 26)) (I (m + 26)) (40 * fr) (40 * to) 40))) : ∀ n i, n + i = 40 → Ex d 0 0 MX9_laysLines 0 sh R L (va_up (va_up (va_up I (m + 24) (va_cpy (I (m + 24)) (I (m + 24)) (40 * fr) (40 * to) i)) (m + 25) (va_cpy (I (m + 25)) (I (m + 25)) (40 * fr) (40 * to) i)) (m + 26) (va_cpy (I (m + 26)) (I (m + 26)) (40 * fr) (40 * to) i)) 14 [some (.ref m), some (.int (nI fr)), some (.int (nI to)), some (.int (nI i))] [] Q := by
  intro n
  induction n with
  | zero =>
    intro i hi
    have h40 : i = 40 := by omega
    subst h40
    refine Ex_iload_n 15 (i := 3) dX9_laysLines_14 rfl rfl rfl ?_
    refine Ex_bipush 17 (v := 40) dX9_laysLines_15 (by decide) rfl ?_
    refine Ex_icmp_ge 20 92 dX9_laysLines_17 (by decide) rfl (fun c1 => ?_) (fun c1 => absurd c1 (fun q => q (nI_le (a := 40) (b := 40) (by omega) (by omega))))
    refine Ex_ret0 dX9_laysLines_92 rfl (Or.inl rfl) ?_
    exact hQ
  | succ n ih =>
    intro i hi
    refine Ex_iload_n 15 (i := 3) dX9_laysLines_14 rfl rfl rfl ?_
    refine Ex_bipush 17 (v := 40) dX9_laysLines_15 (by decide) rfl ?_
    refine Ex_icmp_ge 20 92 dX9_laysLines_17 (by decide) rfl (fun c1 => absurd c1 (nI_ge (b := 40) (by omega) (by omega))) (fun c1 => ?_)
    refine Ex_aload_n 21 (i := 0) dX9_laysLines_20 rfl rfl rfl ?_
    refine Ex_getR 24 dX9_laysLines_21 fX9_81 (xMs_0 hm) rfl (xMr_35 hm) rfl ?_
    refine Ex_bipush 26 (v := 40) dX9_laysLines_24 (by decide) rfl ?_
    refine Ex_iload_n 27 (i := 2) dX9_laysLines_26 rfl rfl rfl ?_
    refine Ex_imul 28 dX9_laysLines_27 rfl ?_
    refine Ex_iload_n 29 (i := 3) dX9_laysLines_28 rfl rfl rfl ?_
    refine Ex_iadd 30 dX9_laysLines_29 rfl ?_
    refine Ex_aload_n 31 (i := 0) dX9_laysLines_30 rfl rfl rfl ?_
    refine Ex_getR 34 dX9_laysLines_31 fX9_81 (xMs_0 hm) rfl (xMr_35 hm) rfl ?_
    refine Ex_bipush 36 (v := 40) dX9_laysLines_34 (by decide) rfl ?_
    refine Ex_iload_n 37 (i := 1) dX9_laysLines_36 rfl rfl rfl ?_
    refine Ex_imul 38 dX9_laysLines_37 rfl ?_
    refine Ex_iload_n 39 (i := 3) dX9_laysLines_38 rfl rfl rfl ?_
    refine Ex_iadd 40 dX9_laysLines_39 rfl ?_
    refine Ex_aI 41 ((40 * fr) + i) ((va_cpy (I (m + 24)) (I (m + 24)) (40 * fr) (40 * to) i) ((40 * fr) + i)) dX9_laysLines_40 (xMs_24 hm) (hm_ad (hm_mu rfl rfl) rfl) (by omega) (by decide) (congrFun ((va_up_ne _ _ (by omega)).trans ((va_up_ne _ _ (by omega)).trans (va_up_self _ _ _))) _) rfl ?_
    refine Ex_sI 42 ((40 * to) + i) (va_cpy (I (m + 24)) (I (m + 24)) (40 * fr) (40 * to) i) (va_up (va_up (va_up I (m + 25) (va_cpy (I (m + 25)) (I (m + 25)) (40 * fr) (40 * to) i)) (m + 26) (va_cpy (I (m + 26)) (I (m + 26)) (40 * fr) (40 * to) i)) (m + 24) (va_up (va_cpy (I (m + 24)) (I (m + 24)) (40 * fr) (40 * to) i) ((40 * to) + i) ((va_cpy (I (m + 24)) (I (m + 24)) (40 * fr) (40 * to) i) ((40 * fr) + i)))) dX9_laysLines_41 (xMs_24 hm) (hm_ad (hm_mu rfl rfl) rfl) (by omega) (by decide) ((va_up_ne _ _ (by omega)).trans ((va_up_ne _ _ (by omega)).trans (va_up_self _ _ _))) (x_agree (fun y hy => by simp only [va_up, if_neg hy])) rfl ?_
    refine Ex_aload_n 43 (i := 0) dX9_laysLines_42 rfl rfl rfl ?_
    refine Ex_getR 46 dX9_laysLines_43 fX9_84 (xMs_0 hm) rfl (xMr_36 hm) rfl ?_
    refine Ex_bipush 48 (v := 40) dX9_laysLines_46 (by decide) rfl ?_
    refine Ex_iload_n 49 (i := 2) dX9_laysLines_48 rfl rfl rfl ?_
    refine Ex_imul 50 dX9_laysLines_49 rfl ?_
    refine Ex_iload_n 51 (i := 3) dX9_laysLines_50 rfl rfl rfl ?_
    refine Ex_iadd 52 dX9_laysLines_51 rfl ?_
    refine Ex_aload_n 53 (i := 0) dX9_laysLines_52 rfl rfl rfl ?_
    refine Ex_getR 56 dX9_laysLines_53 fX9_84 (xMs_0 hm) rfl (xMr_36 hm) rfl ?_
    refine Ex_bipush 58 (v := 40) dX9_laysLines_56 (by decide) rfl ?_
    refine Ex_iload_n 59 (i := 1) dX9_laysLines_58 rfl rfl rfl ?_
    refine Ex_imul 60 dX9_laysLines_59 rfl ?_
    refine Ex_iload_n 61 (i := 3) dX9_laysLines_60 rfl rfl rfl ?_
    refine Ex_iadd 62 dX9_laysLines_61 rfl ?_
    refine Ex_aI 63 ((40 * fr) + i) ((va_cpy (I (m + 25)) (I (m + 25)) (40 * fr) (40 * to) i) ((40 * fr) + i)) dX9_laysLines_62 (xMs_25 hm) (hm_ad (hm_mu rfl rfl) rfl) (by omega) (by decide) (congrFun ((va_up_ne _ _ (by omega)).trans ((va_up_ne _ _ (by omega)).trans (va_up_self _ _ _))) _) rfl ?_
    refine Ex_sI 64 ((40 * to) + i) (va_cpy (I (m + 25)) (I (m + 25)) (40 * fr) (40 * to) i) (va_up (va_up (va_up I (m + 26) (va_cpy (I (m + 26)) (I (m + 26)) (40 * fr) (40 * to) i)) (m + 24) (va_up (va_cpy (I (m + 24)) (I (m + 24)) (40 * fr) (40 * to) i) ((40 * to) + i) ((va_cpy (I (m + 24)) (I (m + 24)) (40 * fr) (40 * to) i) ((40 * fr) + i)))) (m + 25) (va_up (va_cpy (I (m + 25)) (I (m + 25)) (40 * fr) (40 * to) i) ((40 * to) + i) ((va_cpy (I (m + 25)) (I (m + 25)) (40 * fr) (40 * to) i) ((40 * fr) + i)))) dX9_laysLines_63 (xMs_25 hm) (hm_ad (hm_mu rfl rfl) rfl) (by omega) (by decide) ((va_up_ne _ _ (by omega)).trans ((va_up_ne _ _ (by omega)).trans (va_up_self _ _ _))) (x_agree (fun y hy => by simp only [va_up, if_neg hy])) rfl ?_
    refine Ex_aload_n 65 (i := 0) dX9_laysLines_64 rfl rfl rfl ?_
    refine Ex_getR 68 dX9_laysLines_65 fX9_87 (xMs_0 hm) rfl (xMr_37 hm) rfl ?_
    refine Ex_bipush 70 (v := 40) dX9_laysLines_68 (by decide) rfl ?_
    refine Ex_iload_n 71 (i := 2) dX9_laysLines_70 rfl rfl rfl ?_
    refine Ex_imul 72 dX9_laysLines_71 rfl ?_
    refine Ex_iload_n 73 (i := 3) dX9_laysLines_72 rfl rfl rfl ?_
    refine Ex_iadd 74 dX9_laysLines_73 rfl ?_
    refine Ex_aload_n 75 (i := 0) dX9_laysLines_74 rfl rfl rfl ?_
    refine Ex_getR 78 dX9_laysLines_75 fX9_87 (xMs_0 hm) rfl (xMr_37 hm) rfl ?_
    refine Ex_bipush 80 (v := 40) dX9_laysLines_78 (by decide) rfl ?_
    refine Ex_iload_n 81 (i := 1) dX9_laysLines_80 rfl rfl rfl ?_
    refine Ex_imul 82 dX9_laysLines_81 rfl ?_
    refine Ex_iload_n 83 (i := 3) dX9_laysLines_82 rfl rfl rfl ?_
    refine Ex_iadd 84 dX9_laysLines_83 rfl ?_
    refine Ex_aI 85 ((40 * fr) + i) ((va_cpy (I (m + 26)) (I (m + 26)) (40 * fr) (40 * to) i) ((40 * fr) + i)) dX9_laysLines_84 (xMs_26 hm) (hm_ad (hm_mu rfl rfl) rfl) (by omega) (by decide) (congrFun ((va_up_ne _ _ (by omega)).trans ((va_up_ne _ _ (by omega)).trans (va_up_self _ _ _))) _) rfl ?_
    refine Ex_sI 86 ((40 * to) + i) (va_cpy (I (m + 26)) (I (m + 26)) (40 * fr) (40 * to) i) (va_up (va_up (va_up I (m + 24) (va_up (va_cpy (I (m + 24)) (I (m + 24)) (40 * fr) (40 * to) i) ((40 * to) + i) ((va_cpy (I (m + 24)) (I (m + 24)) (40 * fr) (40 * to) i) ((40 * fr) + i)))) (m + 25) (va_up (va_cpy (I (m + 25)) (I (m + 25)) (40 * fr) (40 * to) i) ((40 * to) + i) ((va_cpy (I (m + 25)) (I (m + 25)) (40 * fr) (40 * to) i) ((40 * fr) + i)))) (m + 26) (va_up (va_cpy (I (m + 26)) (I (m + 26)) (40 * fr) (40 * to) i) ((40 * to) + i) ((va_cpy (I (m + 26)) (I (m + 26)) (40 * fr) (40 * to) i) ((40 * fr) + i)))) dX9_laysLines_85 (xMs_26 hm) (hm_ad (hm_mu rfl rfl) rfl) (by omega) (by decide) ((va_up_ne _ _ (by omega)).trans ((va_up_ne _ _ (by omega)).trans (va_up_self _ _ _))) (x_agree (fun y hy => by simp only [va_up, if_neg hy])) rfl ?_
    refine Ex_iinc 89 (v := (nI (i + 1))) (ls' := [some (.ref m), some (.int (nI fr)), some (.int (nI to)), some (.int (nI (i + 1)))]) dX9_laysLines_86 rfl (xinc _) (Nat.le_of_ble_eq_true rfl) rfl rfl rfl ?_
    refine Ex_goto 14 dX9_laysLines_89 (by decide) ?_
    rw [hm_cpyself (n := 40) (by omega) (by omega), hm_cpyself (n := 40) (by omega) (by omega), hm_cpyself (n := 40) (by omega) (by omega)]
    exact ih (i + 1) (by omega)
set_option maxHeartbeats 4000000 in
theorem mc_laysLines {d : Nat} {sh : xSh} {R : xR} {L : xL} {I : xI} {Q : xQ} {m fr to : Nat} (hm : xModel sh R m) (hfr : fr < 6) (hto : to < 6) (hne : fr ≠ to) (hQ : ∀ I', (∀ x, ¬ (m + 23 ≤ x ∧ x < m + 27) → I' x = I x) → (∀ k D, k ≠ to → hmMd I m k D → hmMd I' m k D) → (∀ D, hmMd I m fr D → hmMd I' m to D) → Q none 0 sh R L I') : Ex d 0 0 MX9_laysLines 0 sh R L I 0 [some (.ref m), some (.int (nI fr)), some (.int (nI to)), none] [] Q := by
  refine Ex_aload_n 1 (i := 0) dX9_laysLines_0 rfl rfl rfl ?_
  refine Ex_getR 4 dX9_laysLines_1 fX9_78 (xMs_0 hm) rfl (xMr_34 hm) rfl ?_
  refine Ex_iload_n 5 (i := 2) dX9_laysLines_4 rfl rfl rfl ?_
  refine Ex_aload_n 6 (i := 0) dX9_laysLines_5 rfl rfl rfl ?_
  refine Ex_getR 9 dX9_laysLines_6 fX9_78 (xMs_0 hm) rfl (xMr_34 hm) rfl ?_
  refine Ex_iload_n 10 (i := 1) dX9_laysLines_9 rfl rfl rfl ?_
  refine Ex_aI 11 fr (I (m + 23) fr) dX9_laysLines_10 (xMs_23 hm) rfl (by omega) (by decide) rfl rfl ?_
  refine Ex_sI 12 to (I (m + 23)) (va_up I (m + 23) (va_up (I (m + 23)) to (I (m + 23) fr))) dX9_laysLines_11 (xMs_23 hm) rfl (by omega) (by decide) rfl rfl rfl ?_
  refine Ex_iconst 13 (v := 0) dX9_laysLines_12 (by decide) rfl ?_
  refine Ex_istore_n 14 (i := 3) (ls' := [some (.ref m), some (.int (nI fr)), some (.int (nI to)), some (.int 0)]) dX9_laysLines_13 rfl (Nat.le_of_ble_eq_true rfl) rfl rfl rfl ?_
  have e0 : ∀ (r : Nat → Int32) (a b : Nat), va_cpy r r a b 0 = r := fun r a b => hm_cpy_0
  obtain ⟨I0, eI0⟩ : ∃ I0, I0 = va_up I (m + 23) (va_up (I (m + 23)) to (I (m + 23) fr)) := ⟨_, rfl⟩
  rw [← eI0]
  refine Ex_I (I' := va_up (va_up (va_up I0 (m + 24) (va_cpy (I0 (m + 24)) (I0 (m + 24)) (40 * fr) (40 * to) 0)) (m + 25) (va_cpy (I0 (m + 25)) (I0 (m + 25)) (40 * fr) (40 * to) 0)) (m + 26) (va_cpy (I0 (m + 26)) (I0 (m + 26)) (40 * fr) (40 * to) 0)) (by
    rw [e0, e0, e0]
    funext x
    by_cases h6 : x = m + 26
    · rw [h6, va_up_self]
    · rw [va_up_ne _ _ h6]
      by_cases h5 : x = m + 25
      · rw [h5, va_up_self]
      · rw [va_up_ne _ _ h5, va_up_id]) ?_
  refine mc_laysLines_loop hm hfr hto hne ?_ 40 0 rfl
  have g23 : I0 (m + 23) = va_up (I (m + 23)) to (I (m + 23) fr) := by rw [eI0, va_up_self]
  have g24 : ∀ k, k ≠ m + 23 → I0 k = I k := fun k hk => by rw [eI0, va_up_ne _ _ hk]
  refine hQ _ (fun x hx => ?_) (fun k D hk hD => ?_) (fun D hD => ?_)
  · rw [va_up_ne _ _ (by omega), va_up_ne _ _ (by omega), va_up_ne _ _ (by omega), g24 x (by omega)]
  · obtain ⟨d1, d2, d3⟩ := hD
    refine ⟨d1, ?_, fun i hi => ?_⟩
    · rw [va_up_ne _ _ (by omega), va_up_ne _ _ (by omega), va_up_ne _ _ (by omega), g23, va_up_ne _ _ hk]
      exact d2
    · obtain ⟨l1, l2, l3⟩ := d3 i hi
      refine ⟨?_, fun q => ?_, fun q => ?_⟩
      · rw [va_up_ne _ _ (by omega), va_up_ne _ _ (by omega), va_up_self, hm_cpyout (by omega), g24 _ (by omega)]
        exact l1
      · rw [va_up_ne _ _ (by omega), va_up_self, hm_cpyout (by omega), g24 _ (by omega)]
        exact l2 q
      · rw [va_up_self, hm_cpyout (by omega), g24 _ (by omega)]
        exact l3 q
  · obtain ⟨d1, d2, d3⟩ := hD
    refine ⟨d1, ?_, fun i hi => ?_⟩
    · rw [va_up_ne _ _ (by omega), va_up_ne _ _ (by omega), va_up_ne _ _ (by omega), g23, va_up_self]
      exact d2
    · obtain ⟨l1, l2, l3⟩ := d3 i hi
      refine ⟨?_, fun q => ?_, fun q => ?_⟩
      · rw [va_up_ne _ _ (by omega), va_up_ne _ _ (by omega), va_up_self, hm_cpyin (by omega), g24 _ (by omega)]
        exact l1
      · rw [va_up_ne _ _ (by omega), va_up_self, hm_cpyin (by omega), g24 _ (by omega)]
        exact l2 q
      · rw [va_up_self, hm_cpyin (by omega), g24 _ (by omega)]
        exact l3 q
set_option maxHeartbeats 4000000 in
theorem mc_laysTale_loop {d : Nat} {sh : xSh} {R : xR} {L : xL} {I : xI} {Q : xQ} {m fr to : Nat} (hm : xModel sh R m) (hfr : fr < 5) (hto : to < 5) (hne : fr ≠ to) (hQ : Q none 0 sh R L (va_up I (m + 27) (va_cpy (I (m + 27)) (I (m + 27)) (6 * fr) (6 * to) 6))) : ∀ n i, n + i = 6 → Ex d 0 0 MX9_laysTale 0 sh R L (va_up I (m + 27) (va_cpy (I (m + 27)) (I (m + 27)) (6 * fr) (6 * to) i)) 2 [some (.ref m), some (.int (nI fr)), some (.int (nI to)), some (.int (nI i))] [] Q := by
  intro n
  induction n with
  | zero =>
    intro i hi
    have h6 : i = 6 := by omega
    subst h6
    refine Ex_iload_n 3 (i := 3) dX9_laysTale_2 rfl rfl rfl ?_
    refine Ex_bipush 5 (v := 6) dX9_laysTale_3 (by decide) rfl ?_
    refine Ex_icmp_ge 8 36 dX9_laysTale_5 (by decide) rfl (fun c1 => ?_) (fun c1 => absurd c1 (fun q => q (nI_le (a := 6) (b := 6) (by omega) (by omega))))
    refine Ex_ret0 dX9_laysTale_36 rfl (Or.inl rfl) ?_
    exact hQ
  | succ n ih =>
    intro i hi
    refine Ex_iload_n 3 (i := 3) dX9_laysTale_2 rfl rfl rfl ?_
    refine Ex_bipush 5 (v := 6) dX9_laysTale_3 (by decide) rfl ?_
    refine Ex_icmp_ge 8 36 dX9_laysTale_5 (by decide) rfl (fun c1 => absurd c1 (nI_ge (b := 6) (by omega) (by omega))) (fun c1 => ?_)
    refine Ex_aload_n 9 (i := 0) dX9_laysTale_8 rfl rfl rfl ?_
    refine Ex_getR 12 dX9_laysTale_9 fX9_90 (xMs_0 hm) rfl (xMr_38 hm) rfl ?_
    refine Ex_bipush 14 (v := 6) dX9_laysTale_12 (by decide) rfl ?_
    refine Ex_iload_n 15 (i := 2) dX9_laysTale_14 rfl rfl rfl ?_
    refine Ex_imul 16 dX9_laysTale_15 rfl ?_
    refine Ex_iload_n 17 (i := 3) dX9_laysTale_16 rfl rfl rfl ?_
    refine Ex_iadd 18 dX9_laysTale_17 rfl ?_
    refine Ex_aload_n 19 (i := 0) dX9_laysTale_18 rfl rfl rfl ?_
    refine Ex_getR 22 dX9_laysTale_19 fX9_90 (xMs_0 hm) rfl (xMr_38 hm) rfl ?_
    refine Ex_bipush 24 (v := 6) dX9_laysTale_22 (by decide) rfl ?_
    refine Ex_iload_n 25 (i := 1) dX9_laysTale_24 rfl rfl rfl ?_
    refine Ex_imul 26 dX9_laysTale_25 rfl ?_
    refine Ex_iload_n 27 (i := 3) dX9_laysTale_26 rfl rfl rfl ?_
    refine Ex_iadd 28 dX9_laysTale_27 rfl ?_
    refine Ex_aI 29 ((6 * fr) + i) ((va_cpy (I (m + 27)) (I (m + 27)) (6 * fr) (6 * to) i) ((6 * fr) + i)) dX9_laysTale_28 (xMs_27 hm) (hm_ad (hm_mu rfl rfl) rfl) (by omega) (by decide) (congrFun (va_up_self _ _ _) _) rfl ?_
    refine Ex_sI 30 ((6 * to) + i) (va_cpy (I (m + 27)) (I (m + 27)) (6 * fr) (6 * to) i) (va_up I (m + 27) (va_up (va_cpy (I (m + 27)) (I (m + 27)) (6 * fr) (6 * to) i) ((6 * to) + i) ((va_cpy (I (m + 27)) (I (m + 27)) (6 * fr) (6 * to) i) ((6 * fr) + i)))) dX9_laysTale_29 (xMs_27 hm) (hm_ad (hm_mu rfl rfl) rfl) (by omega) (by decide) (va_up_self _ _ _) (va_up_up _ _ _ _) rfl ?_
    refine Ex_iinc 33 (v := (nI (i + 1))) (ls' := [some (.ref m), some (.int (nI fr)), some (.int (nI to)), some (.int (nI (i + 1)))]) dX9_laysTale_30 rfl (xinc _) (Nat.le_of_ble_eq_true rfl) rfl rfl rfl ?_
    refine Ex_goto 2 dX9_laysTale_33 (by decide) ?_
    rw [hm_cpyself (n := 6) (by omega) (by omega)]
    exact ih (i + 1) (by omega)
set_option maxHeartbeats 4000000 in
theorem mc_laysTale {d : Nat} {sh : xSh} {R : xR} {L : xL} {I : xI} {Q : xQ} {m fr to : Nat} (hm : xModel sh R m) (hfr : fr < 5) (hto : to < 5) (hne : fr ≠ to) (hQ : ∀ I', (∀ x, x ≠ m + 27 → I' x = I x) → (∀ k t, k ≠ to → hmTa (I (m + 27)) k t → hmTa (I' (m + 27)) k t) → (∀ t, hmTa (I (m + 27)) fr t → hmTa (I' (m + 27)) to t) → Q none 0 sh R L I') : Ex d 0 0 MX9_laysTale 0 sh R L I 0 [some (.ref m), some (.int (nI fr)), some (.int (nI to)), none] [] Q := by
  refine Ex_iconst 1 (v := 0) dX9_laysTale_0 (by decide) rfl ?_
  refine Ex_istore_n 2 (i := 3) (ls' := [some (.ref m), some (.int (nI fr)), some (.int (nI to)), some (.int 0)]) dX9_laysTale_1 rfl (Nat.le_of_ble_eq_true rfl) rfl rfl rfl ?_
  refine Ex_I (I' := va_up I (m + 27) (va_cpy (I (m + 27)) (I (m + 27)) (6 * fr) (6 * to) 0)) (by rw [hm_cpy_0, va_up_id]) ?_
  refine mc_laysTale_loop hm hfr hto hne ?_ 6 0 rfl
  refine hQ _ (fun x hx => va_up_ne _ _ hx) (fun k t hk ht w hw => ?_) (fun t ht w hw => ?_)
  · rw [va_up_self, hm_cpyout (by omega)]
    exact ht w hw
  · rw [va_up_self, hm_cpyin (by omega)]
    exact ht w hw
def hmMK (I : xI) (m : Nat) (M : Nat → Option (hmH × hmDay × hmTo)) : Prop := ∀ i, i < 4 → I (m + 33) i = hmB (M i).isSome ∧ ∀ H D t, M i = some (H, D, t) → hmMr (fun k => I (m + 31) (58 * i + k)) H ∧ hmMd I m (1 + i) D ∧ hmTa (I (m + 27)) (1 + i) t
theorem hm_1p (w : Nat) : 1 + nI w = nI (1 + w) := by
  show nI 1 + nI w = _
  unfold nI
  rw [← Int32.ofNat_add]
set_option maxHeartbeats 4000000 in
theorem mb_mark {d : Nat} {sh : xSh} {R : xR} {L : xL} {I : xI} {Q : xQ} {m : Nat} {H : hmH} {D : hmDay} {t : hmTo} {M : Nat → Option (hmH × hmDay × hmTo)} (hm : xModel sh R m) (hS : hmMr (I (m + 28)) H) (hD : hmMd I m 0 D) (hT : hmTa (I (m + 27)) 0 t) (hM : hmMK I m M) {qv : Int32} {b : Bool} (hno : (hmCal 4 qv = false ∨ (b = true ∧ M (hmIx qv) = none)) → Q (some (.int 0)) 0 sh R L I) (hlay : hmCal 4 qv = true → b = false → ∀ I', (∀ x, ¬ (m + 23 ≤ x ∧ x < m + 28) → x ≠ m + 31 → x ≠ m + 33 → I' x = I x) → hmMr (I' (m + 28)) H → hmMK I' m (va_up M (hmIx qv) (some (H, D, t))) → hmMd I' m 0 D → hmTa (I' (m + 27)) 0 t → Q (some (.int 1)) 0 sh R L I') (hback : hmCal 4 qv = true → b = true → ∀ H' D' t', M (hmIx qv) = some (H', D', t') → ∀ I', (∀ x, x ≠ m → ¬ (m + 23 ≤ x ∧ x < m + 29) → x ≠ m + 33 → I' x = I x) → (∀ k, k ≠ 45 → I' m k = I m k) → I' m 45 = 0 → hmMr (I' (m + 28)) H' → hmMK I' m M → hmMd I' m 0 D' → hmTa (I' (m + 27)) 0 t' → Q (some (.int 1)) 0 sh R L I') : Ex (d + 1) 0 0 MX9_mark 0 sh R L I 5 [some (.ref m), some (.int qv), some (.int (hmB b)), none, none] [] Q := by
  cases b with
  | false =>
    refine Ex_iload_n 6 (i := 1) dX9_mark_5 rfl rfl rfl ?_
    refine Ex_iconst 7 (v := 0) dX9_mark_6 (by decide) rfl ?_
    refine Ex_iconst 8 (v := 3) dX9_mark_7 (by decide) rfl ?_
    refine Ex_callS (M' := MX9_within) 11 [.int qv, .int 0, .int 3] (rest := []) dX9_mark_8 lX9_244 mX9_within rfl rfl (Nat.le_of_ble_eq_true rfl) (Nat.le_of_ble_eq_true rfl) rfl ?_
    refine mc_within ?_
    simp only [Option.toList, List.cons_append, List.nil_append]
    refine Ex_if_eq 14 27 dX9_mark_11 (by decide) rfl (fun c1 => ?_) (fun c1 => ?_)
    · refine Ex_iconst 28 (v := 0) dX9_mark_27 (by decide) rfl ?_
      refine Ex_iret dX9_mark_28 rfl (by decide) (Or.inl rfl) ?_
      exact hno (Or.inl (by rw [← hmWith_cal (k := 3) (by omega)]; exact hmB_eq c1))
    · have hct : hmCal 4 qv = true := by
        rw [← hmWith_cal (k := 3) (by omega)]
        exact hmB_ne c1
      obtain ⟨w, hw, rfl⟩ := hmCal_of hct
      have hix : hmIx (nI w) = w := hmIx_nI (by omega)
      rw [hix] at hno hlay hback
      obtain ⟨mw1, mw2⟩ := hM w hw
      refine Ex_iload_n 15 (i := 2) dX9_mark_14 rfl rfl rfl ?_
      refine Ex_if_eq 18 29 dX9_mark_15 (by decide) rfl (fun c2 => ?_) (fun c2 => absurd c2 (fun q => q (by decide)))
      refine Ex_aload_n 30 (i := 0) dX9_mark_29 rfl rfl rfl ?_
      refine Ex_getR 33 dX9_mark_30 fX9_108 (xMs_0 hm) rfl (xMr_44 hm) rfl ?_
      refine Ex_iload_n 34 (i := 1) dX9_mark_33 rfl rfl rfl ?_
      refine Ex_iconst 35 (v := 1) dX9_mark_34 (by decide) rfl ?_
      refine Ex_sZ 36 w (I (m + 33)) (va_up I (m + 33) (va_up (I (m + 33)) w (vp_nar .boolean 1))) dX9_mark_35 (xMs_33 hm) rfl (by omega) (by decide) rfl rfl rfl ?_
      refine Ex_iload_n 37 (i := 2) dX9_mark_36 rfl rfl rfl ?_
      refine Ex_if_eq 40 46 dX9_mark_37 (by decide) rfl (fun c3 => ?_) (fun c3 => absurd c3 (fun q => q (by decide)))
      refine Ex_iconst 47 (v := 0) dX9_mark_46 (by decide) rfl ?_
      refine Ex_istore_n 48 (i := 3) (ls' := [some (.ref m), some (.int (nI w)), some (.int 0), some (.int 0), none]) dX9_mark_47 rfl (Nat.le_of_ble_eq_true rfl) rfl rfl rfl ?_
      refine Ex_iload_n 49 (i := 2) dX9_mark_48 rfl rfl rfl ?_
      refine Ex_if_eq 52 56 dX9_mark_49 (by decide) rfl (fun c4 => ?_) (fun c4 => absurd c4 (fun q => q (by decide)))
      refine Ex_iconst 57 (v := 1) dX9_mark_56 (by decide) rfl ?_
      refine Ex_iload_n 58 (i := 1) dX9_mark_57 rfl rfl rfl ?_
      refine Ex_iadd 59 dX9_mark_58 rfl ?_
      rw [hm_1p]
      refine Ex_istore 61 (ls' := [some (.ref m), some (.int (nI w)), some (.int 0), some (.int 0), some (.int (nI (1 + w)))]) dX9_mark_59 (Nat.le_of_ble_eq_true rfl) rfl rfl rfl ?_
      refine Ex_aload_n 62 (i := 0) dX9_mark_61 rfl rfl rfl ?_
      refine Ex_iload_n 63 (i := 3) dX9_mark_62 rfl rfl rfl ?_
      refine Ex_iload 65 dX9_mark_63 rfl rfl ?_
      refine Ex_callV (M' := MX9_laysLines) 68 [.int 0, .int (nI (1 + w))] (rest := []) dX9_mark_65 lX9_312 mX9_laysLines rfl (xMs_0 hm) rfl (Nat.le_of_ble_eq_true rfl) (Nat.le_of_ble_eq_true rfl) rfl ?_
      refine mc_laysLines (fr := 0) (to := (1 + w)) hm (by omega) (by omega) (by omega) (fun I1 f1 f2 f3 => ?_)
      simp only [Option.toList, List.nil_append, List.cons_append]
      refine Ex_aload_n 69 (i := 0) dX9_mark_68 rfl rfl rfl ?_
      refine Ex_iload_n 70 (i := 3) dX9_mark_69 rfl rfl rfl ?_
      refine Ex_iload 72 dX9_mark_70 rfl rfl ?_
      refine Ex_callV (M' := MX9_laysTale) 75 [.int 0, .int (nI (1 + w))] (rest := []) dX9_mark_72 lX9_467 mX9_laysTale rfl (xMs_0 hm) rfl (Nat.le_of_ble_eq_true rfl) (Nat.le_of_ble_eq_true rfl) rfl ?_
      refine mc_laysTale (fr := 0) (to := (1 + w)) hm (by omega) (by omega) (by omega) (fun I2 g1 g2 g3 => ?_)
      simp only [Option.toList, List.nil_append, List.cons_append]
      refine Ex_iload_n 76 (i := 2) dX9_mark_75 rfl rfl rfl ?_
      refine Ex_if_eq 79 103 dX9_mark_76 (by decide) rfl (fun c5 => ?_) (fun c5 => absurd c5 (fun q => q (by decide)))
      refine Ex_aload_n 104 (i := 0) dX9_mark_103 rfl rfl rfl ?_
      refine Ex_getR 107 dX9_mark_104 fX9_93 (xMs_0 hm) rfl (xMr_39 hm) rfl ?_
      refine Ex_iconst 108 (v := 0) dX9_mark_107 (by decide) rfl ?_
      refine Ex_aload_n 109 (i := 0) dX9_mark_108 rfl rfl rfl ?_
      refine Ex_getR 112 dX9_mark_109 fX9_102 (xMs_0 hm) rfl (xMr_42 hm) rfl ?_
      refine Ex_bipush 114 (v := 58) dX9_mark_112 (by decide) rfl ?_
      refine Ex_iload_n 115 (i := 1) dX9_mark_114 rfl rfl rfl ?_
      refine Ex_imul 116 dX9_mark_115 rfl ?_
      rw [hm_58]
      refine Ex_callS (M' := MX9_copies) 119 [.ref (m + 28), .int 0, .ref (m + 31), .int (nI (58 * w))] (rest := []) dX9_mark_116 lX9_350 mX9_copies rfl rfl (Nat.le_of_ble_eq_true rfl) (Nat.le_of_ble_eq_true rfl) rfl ?_
      refine mc_cp (np := 58) (nq := 232) (a := 0) (b := (58 * w)) (J := (va_up I2 (m + 31) (va_cpy (I2 (m + 28)) (I2 (m + 31)) 0 (58 * w) 58))) (xMs_28 hm) (xMs_31 hm) (by omega) (by omega) (by omega) (by omega) (by omega) rfl rfl rfl ?_
      simp only [Option.toList, List.nil_append, List.cons_append]
      refine Ex_iconst 120 (v := 1) dX9_mark_119 (by decide) rfl ?_
      refine Ex_iret dX9_mark_120 rfl (by decide) (Or.inl rfl) ?_
      have hv1 : vp_nar .boolean 1 = 1 := by decide
      have q27 : I1 (m + 27) = I (m + 27) := by rw [f1 _ (by omega), va_up_ne _ _ (by omega)]
      have q33 : I2 (m + 33) = va_up (I (m + 33)) w 1 := by rw [g1 _ (by omega), f1 _ (by omega), va_up_self, hv1]
      have q31 : I2 (m + 31) = I (m + 31) := by rw [g1 _ (by omega), f1 _ (by omega), va_up_ne _ _ (by omega)]
      have q28 : I2 (m + 28) = I (m + 28) := by rw [g1 _ (by omega), f1 _ (by omega), va_up_ne _ _ (by omega)]
      have k0 : ∀ k E, hmMd I m k E → hmMd (va_up I (m + 33) (va_up (I (m + 33)) w (vp_nar .boolean 1))) m k E := fun k E hE => hE.kept (fun x a b => va_up_ne _ _ (by omega))
      have k2 : ∀ k E, hmMd I1 m k E → hmMd I2 m k E := fun k E hE => hE.kept (fun x a b => g1 x (by omega))
      rw [q27] at g2 g3
      have es : ∀ G, hmMr (va_up I2 (m + 31) (va_cpy (I2 (m + 28)) (I2 (m + 31)) 0 (58 * w) 58) (m + 28)) G ↔ hmMr (I (m + 28)) G := fun G => by rw [va_up_ne _ _ (by omega), q28]
      refine hlay hct rfl _ (fun x a b c => by rw [va_up_ne _ _ b, g1 x (by omega), f1 x (by omega), va_up_ne _ _ c]) ((es H).mpr hS) (fun i hi => ?_) ((k2 0 D (f2 0 D (by omega) (k0 0 D hD))).kept (fun x a b => va_up_ne _ _ (by omega))) (by rw [va_up_ne _ _ (by omega)]; exact g2 0 t (by omega) hT)
      obtain ⟨n1, n2⟩ := hM i hi
      by_cases e : i = w
      · subst e
        rw [va_up_self]
        refine ⟨by rw [va_up_ne _ _ (by omega), q33, va_up_self]; rfl, fun H' D' t' h' => ?_⟩
        cases h'
        refine ⟨?_, (k2 _ D (f3 D (k0 0 D hD))).kept (fun x a b => va_up_ne _ _ (by omega)), by rw [va_up_ne _ _ (by omega)]; exact g3 t hT⟩
        rw [va_up_self]
        refine hS.ext (fun k hk => ?_)
        show va_cpy (I2 (m + 28)) (I2 (m + 31)) 0 (58 * i) 58 (58 * i + k) = _
        rw [hm_cpyin hk, q28, Nat.zero_add]
      · rw [va_up_ne _ _ e]
        refine ⟨by rw [va_up_ne _ _ (by omega), q33, va_up_ne _ _ e]; exact n1, fun H' D' t' h' => ?_⟩
        obtain ⟨p1, p2, p3⟩ := n2 H' D' t' h'
        refine ⟨?_, (k2 _ D' (f2 _ D' (by omega) (k0 _ D' p2))).kept (fun x a b => va_up_ne _ _ (by omega)), by rw [va_up_ne _ _ (by omega)]; exact g2 _ t' (by omega) p3⟩
        rw [va_up_self]
        refine p1.ext (fun k hk => ?_)
        show va_cpy (I2 (m + 28)) (I2 (m + 31)) 0 (58 * w) 58 (58 * i + k) = I (m + 31) (58 * i + k)
        rw [hm_cpyout (by omega), q31]
  | true =>
    refine Ex_iload_n 6 (i := 1) dX9_mark_5 rfl rfl rfl ?_
    refine Ex_iconst 7 (v := 0) dX9_mark_6 (by decide) rfl ?_
    refine Ex_iconst 8 (v := 3) dX9_mark_7 (by decide) rfl ?_
    refine Ex_callS (M' := MX9_within) 11 [.int qv, .int 0, .int 3] (rest := []) dX9_mark_8 lX9_244 mX9_within rfl rfl (Nat.le_of_ble_eq_true rfl) (Nat.le_of_ble_eq_true rfl) rfl ?_
    refine mc_within ?_
    simp only [Option.toList, List.cons_append, List.nil_append]
    refine Ex_if_eq 14 27 dX9_mark_11 (by decide) rfl (fun c1 => ?_) (fun c1 => ?_)
    · refine Ex_iconst 28 (v := 0) dX9_mark_27 (by decide) rfl ?_
      refine Ex_iret dX9_mark_28 rfl (by decide) (Or.inl rfl) ?_
      exact hno (Or.inl (by rw [← hmWith_cal (k := 3) (by omega)]; exact hmB_eq c1))
    · have hct : hmCal 4 qv = true := by
        rw [← hmWith_cal (k := 3) (by omega)]
        exact hmB_ne c1
      obtain ⟨w, hw, rfl⟩ := hmCal_of hct
      have hix : hmIx (nI w) = w := hmIx_nI (by omega)
      rw [hix] at hno hlay hback
      obtain ⟨mw1, mw2⟩ := hM w hw
      refine Ex_iload_n 15 (i := 2) dX9_mark_14 rfl rfl rfl ?_
      refine Ex_if_eq 18 29 dX9_mark_15 (by decide) rfl (fun c2 => absurd c2 (by decide)) (fun c2 => ?_)
      refine Ex_aload_n 19 (i := 0) dX9_mark_18 rfl rfl rfl ?_
      refine Ex_getR 22 dX9_mark_19 fX9_108 (xMs_0 hm) rfl (xMr_44 hm) rfl ?_
      refine Ex_iload_n 23 (i := 1) dX9_mark_22 rfl rfl rfl ?_
      refine Ex_aZ 24 w (I (m + 33) w) dX9_mark_23 (xMs_33 hm) rfl (by omega) (by decide) rfl rfl ?_
      refine Ex_if_ne 27 29 dX9_mark_24 (by decide) rfl (fun c3 => ?_) (fun c3 => ?_)
      · obtain ⟨⟨H', D', t'⟩, em⟩ : ∃ x, M w = some x := by
          cases em : M w with
          | none =>
            rw [em] at mw1
            exact absurd mw1 c3
          | some x => exact ⟨x, rfl⟩
        obtain ⟨p1, p2, p3⟩ := mw2 H' D' t' em
        refine Ex_aload_n 30 (i := 0) dX9_mark_29 rfl rfl rfl ?_
        refine Ex_getR 33 dX9_mark_30 fX9_108 (xMs_0 hm) rfl (xMr_44 hm) rfl ?_
        refine Ex_iload_n 34 (i := 1) dX9_mark_33 rfl rfl rfl ?_
        refine Ex_iconst 35 (v := 1) dX9_mark_34 (by decide) rfl ?_
        refine Ex_sZ 36 w (I (m + 33)) (va_up I (m + 33) (va_up (I (m + 33)) w (vp_nar .boolean 1))) dX9_mark_35 (xMs_33 hm) rfl (by omega) (by decide) rfl rfl rfl ?_
        refine Ex_iload_n 37 (i := 2) dX9_mark_36 rfl rfl rfl ?_
        refine Ex_if_eq 40 46 dX9_mark_37 (by decide) rfl (fun c4 => absurd c4 (by decide)) (fun c4 => ?_)
        refine Ex_iconst 41 (v := 1) dX9_mark_40 (by decide) rfl ?_
        refine Ex_iload_n 42 (i := 1) dX9_mark_41 rfl rfl rfl ?_
        refine Ex_iadd 43 dX9_mark_42 rfl ?_
        rw [hm_1p]
        refine Ex_goto 47 dX9_mark_43 (by decide) ?_
        refine Ex_istore_n 48 (i := 3) (ls' := [some (.ref m), some (.int (nI w)), some (.int 1), some (.int (nI (1 + w))), none]) dX9_mark_47 rfl (Nat.le_of_ble_eq_true rfl) rfl rfl rfl ?_
        refine Ex_iload_n 49 (i := 2) dX9_mark_48 rfl rfl rfl ?_
        refine Ex_if_eq 52 56 dX9_mark_49 (by decide) rfl (fun c5 => absurd c5 (by decide)) (fun c5 => ?_)
        refine Ex_iconst 53 (v := 0) dX9_mark_52 (by decide) rfl ?_
        refine Ex_goto 59 dX9_mark_53 (by decide) ?_
        refine Ex_istore 61 (ls' := [some (.ref m), some (.int (nI w)), some (.int 1), some (.int (nI (1 + w))), some (.int 0)]) dX9_mark_59 (Nat.le_of_ble_eq_true rfl) rfl rfl rfl ?_
        refine Ex_aload_n 62 (i := 0) dX9_mark_61 rfl rfl rfl ?_
        refine Ex_iload_n 63 (i := 3) dX9_mark_62 rfl rfl rfl ?_
        refine Ex_iload 65 dX9_mark_63 rfl rfl ?_
        refine Ex_callV (M' := MX9_laysLines) 68 [.int (nI (1 + w)), .int 0] (rest := []) dX9_mark_65 lX9_312 mX9_laysLines rfl (xMs_0 hm) rfl (Nat.le_of_ble_eq_true rfl) (Nat.le_of_ble_eq_true rfl) rfl ?_
        refine mc_laysLines (fr := (1 + w)) (to := 0) hm (by omega) (by omega) (by omega) (fun I1 f1 f2 f3 => ?_)
        simp only [Option.toList, List.nil_append, List.cons_append]
        refine Ex_aload_n 69 (i := 0) dX9_mark_68 rfl rfl rfl ?_
        refine Ex_iload_n 70 (i := 3) dX9_mark_69 rfl rfl rfl ?_
        refine Ex_iload 72 dX9_mark_70 rfl rfl ?_
        refine Ex_callV (M' := MX9_laysTale) 75 [.int (nI (1 + w)), .int 0] (rest := []) dX9_mark_72 lX9_467 mX9_laysTale rfl (xMs_0 hm) rfl (Nat.le_of_ble_eq_true rfl) (Nat.le_of_ble_eq_true rfl) rfl ?_
        refine mc_laysTale (fr := (1 + w)) (to := 0) hm (by omega) (by omega) (by omega) (fun I2 g1 g2 g3 => ?_)
        simp only [Option.toList, List.nil_append, List.cons_append]
        refine Ex_iload_n 76 (i := 2) dX9_mark_75 rfl rfl rfl ?_
        refine Ex_if_eq 79 103 dX9_mark_76 (by decide) rfl (fun c6 => absurd c6 (by decide)) (fun c6 => ?_)
        refine Ex_aload_n 80 (i := 0) dX9_mark_79 rfl rfl rfl ?_
        refine Ex_getR 83 dX9_mark_80 fX9_102 (xMs_0 hm) rfl (xMr_42 hm) rfl ?_
        refine Ex_bipush 85 (v := 58) dX9_mark_83 (by decide) rfl ?_
        refine Ex_iload_n 86 (i := 1) dX9_mark_85 rfl rfl rfl ?_
        refine Ex_imul 87 dX9_mark_86 rfl ?_
        rw [hm_58]
        refine Ex_aload_n 88 (i := 0) dX9_mark_87 rfl rfl rfl ?_
        refine Ex_getR 91 dX9_mark_88 fX9_93 (xMs_0 hm) rfl (xMr_39 hm) rfl ?_
        refine Ex_iconst 92 (v := 0) dX9_mark_91 (by decide) rfl ?_
        refine Ex_callS (M' := MX9_copies) 95 [.ref (m + 31), .int (nI (58 * w)), .ref (m + 28), .int 0] (rest := []) dX9_mark_92 lX9_350 mX9_copies rfl rfl (Nat.le_of_ble_eq_true rfl) (Nat.le_of_ble_eq_true rfl) rfl ?_
        refine mc_cp (np := 232) (nq := 58) (a := (58 * w)) (b := 0) (J := (va_up I2 (m + 28) (va_cpy (I2 (m + 31)) (I2 (m + 28)) (58 * w) 0 58))) (xMs_31 hm) (xMs_28 hm) (by omega) (by omega) (by omega) (by omega) (by omega) rfl rfl rfl ?_
        simp only [Option.toList, List.nil_append, List.cons_append]
        refine Ex_aload_n 96 (i := 0) dX9_mark_95 rfl rfl rfl ?_
        refine Ex_iconst 97 (v := 0) dX9_mark_96 (by decide) rfl ?_
        refine Ex_pI 100 (I2 m) (va_up (va_up I2 (m + 28) (va_cpy (I2 (m + 31)) (I2 (m + 28)) (58 * w) 0 58)) m (va_up (I2 m) 45 0)) dX9_mark_97 fX9_306 rfl (xMs_0 hm) rfl (fun _ => rfl) (va_up_ne _ _ (by omega)) rfl rfl rfl ?_
        refine Ex_goto 119 dX9_mark_100 (by decide) ?_
        refine Ex_iconst 120 (v := 1) dX9_mark_119 (by decide) rfl ?_
        refine Ex_iret dX9_mark_120 rfl (by decide) (Or.inl rfl) ?_
        have hv1 : vp_nar .boolean 1 = 1 := by decide
        have q27 : I1 (m + 27) = I (m + 27) := by rw [f1 _ (by omega), va_up_ne _ _ (by omega)]
        have q33 : I2 (m + 33) = va_up (I (m + 33)) w 1 := by rw [g1 _ (by omega), f1 _ (by omega), va_up_self, hv1]
        have q31 : I2 (m + 31) = I (m + 31) := by rw [g1 _ (by omega), f1 _ (by omega), va_up_ne _ _ (by omega)]
        have q28 : I2 (m + 28) = I (m + 28) := by rw [g1 _ (by omega), f1 _ (by omega), va_up_ne _ _ (by omega)]
        have k0 : ∀ k E, hmMd I m k E → hmMd (va_up I (m + 33) (va_up (I (m + 33)) w (vp_nar .boolean 1))) m k E := fun k E hE => hE.kept (fun x a b => va_up_ne _ _ (by omega))
        have k2 : ∀ k E, hmMd I1 m k E → hmMd I2 m k E := fun k E hE => hE.kept (fun x a b => g1 x (by omega))
        rw [q27] at g2 g3
        refine hback hct rfl H' D' t' em _ (fun x a b c => by rw [va_up_ne _ _ a, va_up_ne _ _ (by omega), g1 x (by omega), f1 x (by omega), va_up_ne _ _ c]) (fun k a => ?_) ?_ ?_ (fun i hi => ?_) ?_ ?_
        · rw [va_up_self, va_up_ne _ _ a, g1 m (by omega), f1 m (by omega), va_up_ne _ _ (by omega)]
        · rw [va_up_self, va_up_self]
        · rw [va_up_ne _ _ (by omega), va_up_self]
          refine p1.ext (fun k hk => ?_)
          have h1 := hm_cpyin (f := I2 (m + 31)) (g := I2 (m + 28)) (a := 58 * w) (b := 0) hk
          rw [Nat.zero_add] at h1
          rw [h1, q31]
        · obtain ⟨n1, n2⟩ := hM i hi
          refine ⟨?_, fun H2 D2 t2 h2 => ?_⟩
          · rw [va_up_ne _ _ (by omega), va_up_ne _ _ (by omega), q33]
            by_cases e : i = w
            · rw [e, va_up_self, em]
              rfl
            · rw [va_up_ne _ _ e]
              exact n1
          · obtain ⟨r1, r2, r3⟩ := n2 H2 D2 t2 h2
            refine ⟨?_, (k2 _ D2 (f2 _ D2 (by omega) (k0 _ D2 r2))).kept (fun x a b => by rw [va_up_ne _ _ (by omega), va_up_ne _ _ (by omega)]), by rw [va_up_ne _ _ (by omega), va_up_ne _ _ (by omega)]; exact g2 _ t2 (by omega) r3⟩
            rw [va_up_ne _ _ (by omega), va_up_ne _ _ (by omega), q31]
            exact r1
        · exact (k2 0 D' (f3 D' (k0 _ D' p2))).kept (fun x a b => by rw [va_up_ne _ _ (by omega), va_up_ne _ _ (by omega)])
        · rw [va_up_ne _ _ (by omega), va_up_ne _ _ (by omega)]
          exact g3 t' p3
      · refine Ex_iconst 28 (v := 0) dX9_mark_27 (by decide) rfl ?_
        refine Ex_iret dX9_mark_28 rfl (by decide) (Or.inl rfl) ?_
        have hz : M w = none := by
          cases em : M w with
          | none => rfl
          | some x =>
            rw [em, c3] at mw1
            exact absurd mw1 (show ¬ (0 : Int32) = hmB true by decide)
        exact hno (Or.inr ⟨rfl, hz⟩)
set_option maxHeartbeats 4000000 in
theorem mq_mark {d : Nat} {sh : xSh} {R : xR} {L : xL} {I : xI} {Q : xQ} {m : Nat} {H : hmH} {D : hmDay} {t : hmTo} {M : Nat → Option (hmH × hmDay × hmTo)} (hm : xModel sh R m) (hS : hmMr (I (m + 28)) H) (hD : hmMd I m 0 D) (hT : hmTa (I (m + 27)) 0 t) (hM : hmMK I m M) {qv : Int32} {b : Bool} (hno : (hmCal 4 qv = false ∨ (b = true ∧ M (hmIx qv) = none)) → Q (some (.int 0)) 0 sh R L (hmTh I m)) (hlay : hmCal 4 qv = true → b = false → ∀ I', (∀ x, ¬ (m + 23 ≤ x ∧ x < m + 28) → x ≠ m + 31 → x ≠ m + 33 → I' x = (hmTh I m) x) → hmMr (I' (m + 28)) H → hmMK I' m (va_up M (hmIx qv) (some (H, D, t))) → hmMd I' m 0 D → hmTa (I' (m + 27)) 0 t → Q (some (.int 1)) 0 sh R L I') (hback : hmCal 4 qv = true → b = true → ∀ H' D' t', M (hmIx qv) = some (H', D', t') → ∀ I', (∀ x, x ≠ m → ¬ (m + 23 ≤ x ∧ x < m + 29) → x ≠ m + 33 → I' x = (hmTh I m) x) → (∀ k, k ≠ 45 → I' m k = (hmTh I m) m k) → I' m 45 = 0 → hmMr (I' (m + 28)) H' → hmMK I' m M → hmMd I' m 0 D' → hmTa (I' (m + 27)) 0 t' → Q (some (.int 1)) 0 sh R L I') : Ex (d + 1) 0 0 MX9_mark 0 sh R L I 0 [some (.ref m), some (.int qv), some (.int (hmB b)), none, none] [] Q := by
  refine Ex_aload_n 1 (i := 0) dX9_mark_0 rfl rfl rfl ?_
  refine Ex_iconst 2 (v := 0) dX9_mark_1 (by decide) rfl ?_
  refine Ex_pI 5 (I m) (va_up I m (va_up (I m) 0 0)) dX9_mark_2 fX9_130 rfl (xMs_0 hm) rfl (fun _ => rfl) rfl rfl rfl rfl ?_
  have hM2 : hmMK (hmTh I m) m M := fun i hi => by
    obtain ⟨n1, n2⟩ := hM i hi
    refine ⟨by rw [hmTh_r (by omega)]; exact n1, fun H' D' t' h' => ?_⟩
    obtain ⟨p1, p2, p3⟩ := n2 H' D' t' h'
    exact ⟨by rw [hmTh_r (by omega)]; exact p1, p2.kept (fun x a b => va_up_ne _ _ (by omega)), by rw [hmTh_r (by omega)]; exact p3⟩
  exact mb_mark hm (hmTh_mr hS) (show hmMd (hmTh I m) m 0 D from hD.kept (fun x a b => va_up_ne _ _ (by omega))) (show hmTa (hmTh I m (m + 27)) 0 t by rw [hmTh_r (by omega)]; exact hT) hM2 hno hlay hback
