theorem hm_cpyself {f : Nat → Int32} {a b k n : Nat} (hab : a + n ≤ b ∨ b + n ≤ a) (hk : k < n) : va_up (va_cpy f f a b k) (b + k) (va_cpy f f a b k (a + k)) = va_cpy f f a b (k + 1) := by
  have e : va_cpy f f a b k (a + k) = f (a + k) := by
    unfold va_cpy
    rw [if_neg (by omega)]
  rw [e, hm_cpy_s]
theorem hm_cpyin {f g : Nat → Int32} {a b n j : Nat} (hj : j < n) : va_cpy f g a b n (b + j) = f (a + j) := by
  unfold va_cpy
  rw [if_pos (by omega)]
  congr 1
  omega
theorem hm_cpyout {f g : Nat → Int32} {a b n j : Nat} (hj : j < b ∨ b + n ≤ j) : va_cpy f g a b n j = g j := by
  unfold va_cpy
  rw [if_neg (by omega)]
set_option maxHeartbeats 4000000 in
theorem mc_laysLines_loop {d : Nat} {sh : xSh} {R : xR} {L : xL} {I : xI} {Q : xQ} {m fr to : Nat} (hm : xModel sh R m) (hfr : fr < 6) (hto : to < 6) (hne : fr ≠ to) (hQ : Q none 0 sh R L (va_up (va_up (va_up I (m + 24) (va_cpy (I (m + 24)) (I (m + 24)) (40 * fr) (40 * to) 40)) (m + 25) (va_cpy (I (m + 25)) (I (m + 25)) (40 * fr) (40 * to) 40)) (m + 26) (va_cpy (I (m + 26)) (I (m + 26)) (40 * fr) (40 * to) 40))) : ∀ n i, n + i = 40 → Ex d 0 0 MX9_laysLines 0 sh R L (va_up (va_up (va_up I (m + 24) (va_cpy (I (m + 24)) (I (m + 24)) (40 * fr) (40 * to) i)) (m + 25) (va_cpy (I (m + 25)) (I (m + 25)) (40 * fr) (40 * to) i)) (m + 26) (va_cpy (I (m + 26)) (I (m + 26)) (40 * fr) (40 * to) i)) 14 [some (.ref m), some (.int (nI fr)), some (.int (nI to)), some (.int (nI i))] [] Q := by
  intro n
  induction n with
  | zero =>
    intro i hi
    have h40 : i = 40 := by omega
    subst h40
    refine Ex_iload_n 15 (i := 3) dX9_laysLines_14 rfl rfl rfl ?_
    refine Ex_bipush 17 (v := 40) dX9_laysLines_15 (by decide) rfl ?_
    refine Ex_icmp_ge 20 92 dX9_laysLines_17 (by decide) rfl (fun c1 => ?_) (fun c1 => absurd c1 (fun q => q (nI_le (a := 40) (b := 40) (by omega) (by omega))))
    refine Ex_ret0 dX9_laysLines_92 rfl (Or.inl rfl) ?_
    exact hQ
  | succ n ih =>
    intro i hi
    refine Ex_iload_n 15 (i := 3) dX9_laysLines_14 rfl rfl rfl ?_
    refine Ex_bipush 17 (v := 40) dX9_laysLines_15 (by decide) rfl ?_
    refine Ex_icmp_ge 20 92 dX9_laysLines_17 (by decide) rfl (fun c1 => absurd c1 (nI_ge (b := 40) (by omega) (by omega))) (fun c1 => ?_)
    refine Ex_aload_n 21 (i := 0) dX9_laysLines_20 rfl rfl rfl ?_
    refine Ex_getR 24 dX9_laysLines_21 fX9_81 (xMs_0 hm) rfl (xMr_35 hm) rfl ?_
    refine Ex_bipush 26 (v := 40) dX9_laysLines_24 (by decide) rfl ?_
    refine Ex_iload_n 27 (i := 2) dX9_laysLines_26 rfl rfl rfl ?_
    refine Ex_imul 28 dX9_laysLines_27 rfl ?_
    refine Ex_iload_n 29 (i := 3) dX9_laysLines_28 rfl rfl rfl ?_
    refine Ex_iadd 30 dX9_laysLines_29 rfl ?_
    refine Ex_aload_n 31 (i := 0) dX9_laysLines_30 rfl rfl rfl ?_
    refine Ex_getR 34 dX9_laysLines_31 fX9_81 (xMs_0 hm) rfl (xMr_35 hm) rfl ?_
    refine Ex_bipush 36 (v := 40) dX9_laysLines_34 (by decide) rfl ?_
    refine Ex_iload_n 37 (i := 1) dX9_laysLines_36 rfl rfl rfl ?_
    refine Ex_imul 38 dX9_laysLines_37 rfl ?_
    refine Ex_iload_n 39 (i := 3) dX9_laysLines_38 rfl rfl rfl ?_
    refine Ex_iadd 40 dX9_laysLines_39 rfl ?_
    refine Ex_aI 41 ((40 * fr) + i) ((va_cpy (I (m + 24)) (I (m + 24)) (40 * fr) (40 * to) i) ((40 * fr) + i)) dX9_laysLines_40 (xMs_24 hm) (hm_ad (hm_mu rfl rfl) rfl) (by omega) (by decide) (congrFun ((va_up_ne _ _ (by omega)).trans ((va_up_ne _ _ (by omega)).trans (va_up_self _ _ _))) _) rfl ?_
    refine Ex_sI 42 ((40 * to) + i) (va_cpy (I (m + 24)) (I (m + 24)) (40 * fr) (40 * to) i) (va_up (va_up (va_up I (m + 25) (va_cpy (I (m + 25)) (I (m + 25)) (40 * fr) (40 * to) i)) (m + 26) (va_cpy (I (m + 26)) (I (m + 26)) (40 * fr) (40 * to) i)) (m + 24) (va_up (va_cpy (I (m + 24)) (I (m + 24)) (40 * fr) (40 * to) i) ((40 * to) + i) ((va_cpy (I (m + 24)) (I (m + 24)) (40 * fr) (40 * to) i) ((40 * fr) + i)))) dX9_laysLines_41 (xMs_24 hm) (hm_ad (hm_mu rfl rfl) rfl) (by omega) (by decide) ((va_up_ne _ _ (by omega)).trans ((va_up_ne _ _ (by omega)).trans (va_up_self _ _ _))) (x_agree (fun y hy => by simp only [va_up, if_neg hy])) rfl ?_
    refine Ex_aload_n 43 (i := 0) dX9_laysLines_42 rfl rfl rfl ?_
    refine Ex_getR 46 dX9_laysLines_43 fX9_84 (xMs_0 hm) rfl (xMr_36 hm) rfl ?_
    refine Ex_bipush 48 (v := 40) dX9_laysLines_46 (by decide) rfl ?_
    refine Ex_iload_n 49 (i := 2) dX9_laysLines_48 rfl rfl rfl ?_
    refine Ex_imul 50 dX9_laysLines_49 rfl ?_
    refine Ex_iload_n 51 (i := 3) dX9_laysLines_50 rfl rfl rfl ?_
    refine Ex_iadd 52 dX9_laysLines_51 rfl ?_
    refine Ex_aload_n 53 (i := 0) dX9_laysLines_52 rfl rfl rfl ?_
    refine Ex_getR 56 dX9_laysLines_53 fX9_84 (xMs_0 hm) rfl (xMr_36 hm) rfl ?_
    refine Ex_bipush 58 (v := 40) dX9_laysLines_56 (by decide) rfl ?_
    refine Ex_iload_n 59 (i := 1) dX9_laysLines_58 rfl rfl rfl ?_
    refine Ex_imul 60 dX9_laysLines_59 rfl ?_
    refine Ex_iload_n 61 (i := 3) dX9_laysLines_60 rfl rfl rfl ?_
    refine Ex_iadd 62 dX9_laysLines_61 rfl ?_
    refine Ex_aI 63 ((40 * fr) + i) ((va_cpy (I (m + 25)) (I (m + 25)) (40 * fr) (40 * to) i) ((40 * fr) + i)) dX9_laysLines_62 (xMs_25 hm) (hm_ad (hm_mu rfl rfl) rfl) (by omega) (by decide) (congrFun ((va_up_ne _ _ (by omega)).trans ((va_up_ne _ _ (by omega)).trans (va_up_self _ _ _))) _) rfl ?_
    refine Ex_sI 64 ((40 * to) + i) (va_cpy (I (m + 25)) (I (m + 25)) (40 * fr) (40 * to) i) (va_up (va_up (va_up I (m + 26) (va_cpy (I (m + 26)) (I (m + 26)) (40 * fr) (40 * to) i)) (m + 24) (va_up (va_cpy (I (m + 24)) (I (m + 24)) (40 * fr) (40 * to) i) ((40 * to) + i) ((va_cpy (I (m + 24)) (I (m + 24)) (40 * fr) (40 * to) i) ((40 * fr) + i)))) (m + 25) (va_up (va_cpy (I (m + 25)) (I (m + 25)) (40 * fr) (40 * to) i) ((40 * to) + i) ((va_cpy (I (m + 25)) (I (m + 25)) (40 * fr) (40 * to) i) ((40 * fr) + i)))) dX9_laysLines_63 (xMs_25 hm) (hm_ad (hm_mu rfl rfl) rfl) (by omega) (by decide) ((va_up_ne _ _ (by omega)).trans ((va_up_ne _ _ (by omega)).trans (va_up_self _ _ _))) (x_agree (fun y hy => by simp only [va_up, if_neg hy])) rfl ?_
    refine Ex_aload_n 65 (i := 0) dX9_laysLines_64 rfl rfl rfl ?_
    refine Ex_getR 68 dX9_laysLines_65 fX9_87 (xMs_0 hm) rfl (xMr_37 hm) rfl ?_
    refine Ex_bipush 70 (v := 40) dX9_laysLines_68 (by decide) rfl ?_
    refine Ex_iload_n 71 (i := 2) dX9_laysLines_70 rfl rfl rfl ?_
    refine Ex_imul 72 dX9_laysLines_71 rfl ?_
    refine Ex_iload_n 73 (i := 3) dX9_laysLines_72 rfl rfl rfl ?_
    refine Ex_iadd 74 dX9_laysLines_73 rfl ?_
    refine Ex_aload_n 75 (i := 0) dX9_laysLines_74 rfl rfl rfl ?_
    refine Ex_getR 78 dX9_laysLines_75 fX9_87 (xMs_0 hm) rfl (xMr_37 hm) rfl ?_
    refine Ex_bipush 80 (v := 40) dX9_laysLines_78 (by decide) rfl ?_
    refine Ex_iload_n 81 (i := 1) dX9_laysLines_80 rfl rfl rfl ?_
    refine Ex_imul 82 dX9_laysLines_81 rfl ?_
    refine Ex_iload_n 83 (i := 3) dX9_laysLines_82 rfl rfl rfl ?_
    refine Ex_iadd 84 dX9_laysLines_83 rfl ?_
    refine Ex_aI 85 ((40 * fr) + i) ((va_cpy (I (m + 26)) (I (m + 26)) (40 * fr) (40 * to) i) ((40 * fr) + i)) dX9_laysLines_84 (xMs_26 hm) (hm_ad (hm_mu rfl rfl) rfl) (by omega) (by decide) (congrFun ((va_up_ne _ _ (by omega)).trans ((va_up_ne _ _ (by omega)).trans (va_up_self _ _ _))) _) rfl ?_
    refine Ex_sI 86 ((40 * to) + i) (va_cpy (I (m + 26)) (I (m + 26)) (40 * fr) (40 * to) i) (va_up (va_up (va_up I (m + 24) (va_up (va_cpy (I (m + 24)) (I (m + 24)) (40 * fr) (40 * to) i) ((40 * to) + i) ((va_cpy (I (m + 24)) (I (m + 24)) (40 * fr) (40 * to) i) ((40 * fr) + i)))) (m + 25) (va_up (va_cpy (I (m + 25)) (I (m + 25)) (40 * fr) (40 * to) i) ((40 * to) + i) ((va_cpy (I (m + 25)) (I (m + 25)) (40 * fr) (40 * to) i) ((40 * fr) + i)))) (m + 26) (va_up (va_cpy (I (m + 26)) (I (m + 26)) (40 * fr) (40 * to) i) ((40 * to) + i) ((va_cpy (I (m + 26)) (I (m + 26)) (40 * fr) (40 * to) i) ((40 * fr) + i)))) dX9_laysLines_85 (xMs_26 hm) (hm_ad (hm_mu rfl rfl) rfl) (by omega) (by decide) ((va_up_ne _ _ (by omega)).trans ((va_up_ne _ _ (by omega)).trans (va_up_self _ _ _))) (x_agree (fun y hy => by simp only [va_up, if_neg hy])) rfl ?_
    refine Ex_iinc 89 (v := (nI (i + 1))) (ls' := [some (.ref m), some (.int (nI fr)), some (.int (nI to)), some (.int (nI (i + 1)))]) dX9_laysLines_86 rfl (xinc _) (Nat.le_of_ble_eq_true rfl) rfl rfl rfl ?_
    refine Ex_goto 14 dX9_laysLines_89 (by decide) ?_
    rw [hm_cpyself (n := 40) (by omega) (by omega), hm_cpyself (n := 40) (by omega) (by omega), hm_cpyself (n := 40) (by omega) (by omega)]
    exact ih (i + 1) (by omega)
set_option maxHeartbeats 4000000 in
theorem mc_laysLines {d : Nat} {sh : xSh} {R : xR} {L : xL} {I : xI} {Q : xQ} {m fr to : Nat} (hm : xModel sh R m) (hfr : fr < 6) (hto : to < 6) (hne : fr ≠ to) (hQ : ∀ I', (∀ x, ¬ (m + 23 ≤ x ∧ x < m + 27) → I' x = I x) → (∀ k D, k ≠ to → hmMd I m k D → hmMd I' m k D) → (∀ D, hmMd I m fr D → hmMd I' m to D) → Q none 0 sh R L I') : Ex d 0 0 MX9_laysLines 0 sh R L I 0 [some (.ref m), some (.int (nI fr)), some (.int (nI to)), none] [] Q := by
  refine Ex_aload_n 1 (i := 0) dX9_laysLines_0 rfl rfl rfl ?_
  refine Ex_getR 4 dX9_laysLines_1 fX9_78 (xMs_0 hm) rfl (xMr_34 hm) rfl ?_
  refine Ex_iload_n 5 (i := 2) dX9_laysLines_4 rfl rfl rfl ?_
  refine Ex_aload_n 6 (i := 0) dX9_laysLines_5 rfl rfl rfl ?_
  refine Ex_getR 9 dX9_laysLines_6 fX9_78 (xMs_0 hm) rfl (xMr_34 hm) rfl ?_
  refine Ex_iload_n 10 (i := 1) dX9_laysLines_9 rfl rfl rfl ?_
  refine Ex_aI 11 fr (I (m + 23) fr) dX9_laysLines_10 (xMs_23 hm) rfl (by omega) (by decide) rfl rfl ?_
  refine Ex_sI 12 to (I (m + 23)) (va_up I (m + 23) (va_up (I (m + 23)) to (I (m + 23) fr))) dX9_laysLines_11 (xMs_23 hm) rfl (by omega) (by decide) rfl rfl rfl ?_
  refine Ex_iconst 13 (v := 0) dX9_laysLines_12 (by decide) rfl ?_
  refine Ex_istore_n 14 (i := 3) (ls' := [some (.ref m), some (.int (nI fr)), some (.int (nI to)), some (.int 0)]) dX9_laysLines_13 rfl (Nat.le_of_ble_eq_true rfl) rfl rfl rfl ?_
  have e0 : ∀ (r : Nat → Int32) (a b : Nat), va_cpy r r a b 0 = r := fun r a b => hm_cpy_0
  obtain ⟨I0, eI0⟩ : ∃ I0, I0 = va_up I (m + 23) (va_up (I (m + 23)) to (I (m + 23) fr)) := ⟨_, rfl⟩
  rw [← eI0]
  refine Ex_I (I' := va_up (va_up (va_up I0 (m + 24) (va_cpy (I0 (m + 24)) (I0 (m + 24)) (40 * fr) (40 * to) 0)) (m + 25) (va_cpy (I0 (m + 25)) (I0 (m + 25)) (40 * fr) (40 * to) 0)) (m + 26) (va_cpy (I0 (m + 26)) (I0 (m + 26)) (40 * fr) (40 * to) 0)) (by
    rw [e0, e0, e0]
    funext x
    by_cases h6 : x = m + 26
    · rw [h6, va_up_self]
    · rw [va_up_ne _ _ h6]
      by_cases h5 : x = m + 25
      · rw [h5, va_up_self]
      · rw [va_up_ne _ _ h5, va_up_id]) ?_
  refine mc_laysLines_loop hm hfr hto hne ?_ 40 0 rfl
  have g23 : I0 (m + 23) = va_up (I (m + 23)) to (I (m + 23) fr) := by rw [eI0, va_up_self]
  have g24 : ∀ k, k ≠ m + 23 → I0 k = I k := fun k hk => by rw [eI0, va_up_ne _ _ hk]
  refine hQ _ (fun x hx => ?_) (fun k D hk hD => ?_) (fun D hD => ?_)
  · rw [va_up_ne _ _ (by omega), va_up_ne _ _ (by omega), va_up_ne _ _ (by omega), g24 x (by omega)]
  · obtain ⟨d1, d2, d3⟩ := hD
    refine ⟨d1, ?_, fun i hi => ?_⟩
    · rw [va_up_ne _ _ (by omega), va_up_ne _ _ (by omega), va_up_ne _ _ (by omega), g23, va_up_ne _ _ hk]
      exact d2
    · obtain ⟨l1, l2, l3⟩ := d3 i hi
      refine ⟨?_, fun q => ?_, fun q => ?_⟩
      · rw [va_up_ne _ _ (by omega), va_up_ne _ _ (by omega), va_up_self, hm_cpyout (by omega), g24 _ (by omega)]
        exact l1
      · rw [va_up_ne _ _ (by omega), va_up_self, hm_cpyout (by omega), g24 _ (by omega)]
        exact l2 q
      · rw [va_up_self, hm_cpyout (by omega), g24 _ (by omega)]
        exact l3 q
  · obtain ⟨d1, d2, d3⟩ := hD
    refine ⟨d1, ?_, fun i hi => ?_⟩
    · rw [va_up_ne _ _ (by omega), va_up_ne _ _ (by omega), va_up_ne _ _ (by omega), g23, va_up_self]
      exact d2
    · obtain ⟨l1, l2, l3⟩ := d3 i hi
      refine ⟨?_, fun q => ?_, fun q => ?_⟩
      · rw [va_up_ne _ _ (by omega), va_up_ne _ _ (by omega), va_up_self, hm_cpyin (by omega), g24 _ (by omega)]
        exact l1
      · rw [va_up_ne _ _ (by omega), va_up_self, hm_cpyin (by omega), g24 _ (by omega)]
        exact l2 q
      · rw [va_up_self, hm_cpyin (by omega), g24 _ (by omega)]
        exact l3 q
set_option maxHeartbeats 4000000 in
theorem mc_laysTale_loop {d : Nat} {sh : xSh} {R : xR} {L : xL} {I : xI} {Q : xQ} {m fr to : Nat} (hm : xModel sh R m) (hfr : fr < 5) (hto : to < 5) (hne : fr ≠ to) (hQ : Q none 0 sh R L (va_up I (m + 27) (va_cpy (I (m + 27)) (I (m + 27)) (6 * fr) (6 * to) 6))) : ∀ n i, n + i = 6 → Ex d 0 0 MX9_laysTale 0 sh R L (va_up I (m + 27) (va_cpy (I (m + 27)) (I (m + 27)) (6 * fr) (6 * to) i)) 2 [some (.ref m), some (.int (nI fr)), some (.int (nI to)), some (.int (nI i))] [] Q := by
  intro n
  induction n with
  | zero =>
    intro i hi
    have h6 : i = 6 := by omega
    subst h6
    refine Ex_iload_n 3 (i := 3) dX9_laysTale_2 rfl rfl rfl ?_
    refine Ex_bipush 5 (v := 6) dX9_laysTale_3 (by decide) rfl ?_
    refine Ex_icmp_ge 8 36 dX9_laysTale_5 (by decide) rfl (fun c1 => ?_) (fun c1 => absurd c1 (fun q => q (nI_le (a := 6) (b := 6) (by omega) (by omega))))
    refine Ex_ret0 dX9_laysTale_36 rfl (Or.inl rfl) ?_
    exact hQ
  | succ n ih =>
    intro i hi
    refine Ex_iload_n 3 (i := 3) dX9_laysTale_2 rfl rfl rfl ?_
    refine Ex_bipush 5 (v := 6) dX9_laysTale_3 (by decide) rfl ?_
    refine Ex_icmp_ge 8 36 dX9_laysTale_5 (by decide) rfl (fun c1 => absurd c1 (nI_ge (b := 6) (by omega) (by omega))) (fun c1 => ?_)
    refine Ex_aload_n 9 (i := 0) dX9_laysTale_8 rfl rfl rfl ?_
    refine Ex_getR 12 dX9_laysTale_9 fX9_90 (xMs_0 hm) rfl (xMr_38 hm) rfl ?_
    refine Ex_bipush 14 (v := 6) dX9_laysTale_12 (by decide) rfl ?_
    refine Ex_iload_n 15 (i := 2) dX9_laysTale_14 rfl rfl rfl ?_
    refine Ex_imul 16 dX9_laysTale_15 rfl ?_
    refine Ex_iload_n 17 (i := 3) dX9_laysTale_16 rfl rfl rfl ?_
    refine Ex_iadd 18 dX9_laysTale_17 rfl ?_
    refine Ex_aload_n 19 (i := 0) dX9_laysTale_18 rfl rfl rfl ?_
    refine Ex_getR 22 dX9_laysTale_19 fX9_90 (xMs_0 hm) rfl (xMr_38 hm) rfl ?_
    refine Ex_bipush 24 (v := 6) dX9_laysTale_22 (by decide) rfl ?_
    refine Ex_iload_n 25 (i := 1) dX9_laysTale_24 rfl rfl rfl ?_
    refine Ex_imul 26 dX9_laysTale_25 rfl ?_
    refine Ex_iload_n 27 (i := 3) dX9_laysTale_26 rfl rfl rfl ?_
    refine Ex_iadd 28 dX9_laysTale_27 rfl ?_
    refine Ex_aI 29 ((6 * fr) + i) ((va_cpy (I (m + 27)) (I (m + 27)) (6 * fr) (6 * to) i) ((6 * fr) + i)) dX9_laysTale_28 (xMs_27 hm) (hm_ad (hm_mu rfl rfl) rfl) (by omega) (by decide) (congrFun (va_up_self _ _ _) _) rfl ?_
    refine Ex_sI 30 ((6 * to) + i) (va_cpy (I (m + 27)) (I (m + 27)) (6 * fr) (6 * to) i) (va_up I (m + 27) (va_up (va_cpy (I (m + 27)) (I (m + 27)) (6 * fr) (6 * to) i) ((6 * to) + i) ((va_cpy (I (m + 27)) (I (m + 27)) (6 * fr) (6 * to) i) ((6 * fr) + i)))) dX9_laysTale_29 (xMs_27 hm) (hm_ad (hm_mu rfl rfl) rfl) (by omega) (by decide) (va_up_self _ _ _) (va_up_up _ _ _ _) rfl ?_
    refine Ex_iinc 33 (v := (nI (i + 1))) (ls' := [some (.ref m), some (.int (nI fr)), some (.int (nI to)), some (.int (nI (i + 1)))]) dX9_laysTale_30 rfl (xinc _) (Nat.le_of_ble_eq_true rfl) rfl rfl rfl ?_
    refine Ex_goto 2 dX9_laysTale_33 (by decide) ?_
    rw [hm_cpyself (n := 6) (by omega) (by omega)]
    exact ih (i + 1) (by omega)
set_option maxHeartbeats 4000000 in
theorem mc_laysTale {d : Nat} {sh : xSh} {R : xR} {L : xL} {I : xI} {Q : xQ} {m fr to : Nat} (hm : xModel sh R m) (hfr : fr < 5) (hto : to < 5) (hne : fr ≠ to) (hQ : ∀ I', (∀ x, x ≠ m + 27 → I' x = I x) → (∀ k t, k ≠ to → hmTa (I (m + 27)) k t → hmTa (I' (m + 27)) k t) → (∀ t, hmTa (I (m + 27)) fr t → hmTa (I' (m + 27)) to t) → Q none 0 sh R L I') : Ex d 0 0 MX9_laysTale 0 sh R L I 0 [some (.ref m), some (.int (nI fr)), some (.int (nI to)), none] [] Q := by
  refine Ex_iconst 1 (v := 0) dX9_laysTale_0 (by decide) rfl ?_
  refine Ex_istore_n 2 (i := 3) (ls' := [some (.ref m), some (.int (nI fr)), some (.int (nI to)), some (.int 0)]) dX9_laysTale_1 rfl (Nat.le_of_ble_eq_true rfl) rfl rfl rfl ?_
  refine Ex_I (I' := va_up I (m + 27) (va_cpy (I (m + 27)) (I (m + 27)) (6 * fr) (6 * to) 0)) (by rw [hm_cpy_0, va_up_id]) ?_
  refine mc_laysTale_loop hm hfr hto hne ?_ 6 0 rfl
  refine hQ _ (fun x hx => va_up_ne _ _ hx) (fun k t hk ht w hw => ?_) (fun t ht w hw => ?_)
  · rw [va_up_self, hm_cpyout (by omega)]
    exact ht w hw
  · rw [va_up_self, hm_cpyin (by omega)]
    exact ht w hw
