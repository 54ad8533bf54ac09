theorem hm_cpyself {f : Nat → Int32} {a b k n : Nat} (hab : a + n ≤ b ∨ b + n ≤ a) (hk : k < n) : va_up (va_cpy f f a b k) (b + k) (va_cpy f f a b k (a + k)) = va_cpy f f a b (k + 1) := by
  have e : va_cpy f f a b k (a + k) = f (a + k) := by
    unfold va_cpy
    rw [if_neg (by omega)]
  rw [e, hm_cpy_s]
theorem hm_cpyin {f g : Nat → Int32} {a b n j : Nat} (hj : j < n) : va_cpy f g a b n (b + j) = f (a + j) := by
  unfold va_cpy
  rw [if_pos (by omega)]
  congr 1
  omega
theorem hm_cpyout {f g : Nat → Int32} {a b n j : Nat} (hj : j < b ∨ b + n ≤ j) : va_cpy f g a b n j = g j := by
  unfold va_cpy
  rw [if_neg (by omega)]
set_option maxHeartbeats 4000000 in
theorem mc_laysLines_loop {d : Nat} {sh : xSh} {R : xR} {L : xL} {I : xI} {Q : xQ} {m fr to : Nat} (hm : xModel sh R m) (hfr : fr < 6) (hto : to < 6) (hne : fr ≠ to) (hQ : Q none 0 sh R L (va_up (va_up (va_up I (m + 24) (va_cpy (I (m + 24)) (I (m + 24)) (40 * fr) (40 * to) 40)) (m + 25) (va_cpy (I (m + 25)) (I (m + 25)) (40 * fr) (40 * to) 40)) (m + 26) (va_cpy (I (m + 26)) (I (m + 26)) (40 * fr) (40 * to) 40))) : ∀ n i, n + i = 40 → Ex d 0 0 MX9_laysLines 0 sh R L (va_up (va_up (va_up I (m + 24) (va_cpy (I (m + 24)) (I (m + 24)) (40 * fr) (40 * to) i)) (m + 25) (va_cpy (I (m + 25)) (I (m + 25)) (40 * fr) (40 * to) i)) (m + 26) (va_cpy (I (m + 26)) (I (m + 26)) (40 * fr) (40 * to) i)) 14 [some (.ref m), some (.int (nI fr)), some (.int (nI to)), some (.int (nI i))] [] Q := by
  intro n
  induction n with
  | zero =>
    intro i hi
    have h40 : i = 40 := by omega
    subst h40
    refine Ex_iload_n 15 (i := 3) dX9_laysLines_14 rfl rfl rfl ?_
    refine Ex_bipush 17 (v := 40) dX9_laysLines_15 (by decide) rfl ?_
    refine Ex_icmp_ge 20 92 dX9_laysLines_17 (by decide) rfl (fun c1 => ?_) (fun c1 => absurd c1 (fun q => q (nI_le (a := 40) (b := 40) (by omega) (by omega))))
    refine Ex_ret0 dX9_laysLines_92 rfl (Or.inl rfl) ?_
    exact hQ
  | succ n ih =>
    intro i hi
    refine Ex_iload_n 15 (i := 3) dX9_laysLines_14 rfl rfl rfl ?_
    refine Ex_bipush 17 (v := 40) dX9_laysLines_15 (by decide) rfl ?_
    refine Ex_icmp_ge 20 92 dX9_laysLines_17 (by decide) rfl (fun c1 => absurd c1 (nI_ge (b := 40) (by omega) (by omega))) (fun c1 => ?_)
    refine Ex_aload_n 21 (i := 0) dX9_laysLines_20 rfl rfl rfl ?_
    refine Ex_getR 24 dX9_laysLines_21 fX9_81 (xMs_0 hm) rfl (xMr_35 hm) rfl ?_
    refine Ex_bipush 26 (v := 40) dX9_laysLines_24 (by decide) rfl ?_
    refine Ex_iload_n 27 (i := 2) dX9_laysLines_26 rfl rfl rfl ?_
    refine Ex_imul 28 dX9_laysLines_27 rfl ?_
    refine Ex_iload_n 29 (i := 3) dX9_laysLines_28 rfl rfl rfl ?_
    refine Ex_iadd 30 dX9_laysLines_29 rfl ?_
    refine Ex_aload_n 31 (i := 0) dX9_laysLines_30 rfl rfl rfl ?_
    refine Ex_getR 34 dX9_laysLines_31 fX9_81 (xMs_0 hm) rfl (xMr_35 hm) rfl ?_
    refine Ex_bipush 36 (v := 40) dX9_laysLines_34 (by decide) rfl ?_
    refine Ex_iload_n 37 (i := 1) dX9_laysLines_36 rfl rfl rfl ?_
    refine Ex_imul 38 dX9_laysLines_37 rfl ?_
    refine Ex_iload_n 39 (i := 3) dX9_laysLines_38 rfl rfl rfl ?_
    refine Ex_iadd 40 dX9_laysLines_39 rfl ?_
    refine Ex_aI 41 ((40 * fr) + i) ((va_cpy (I (m + 24)) (I (m + 24)) (40 * fr) (40 * to) i) ((40 * fr) + i)) dX9_laysLines_40 (xMs_24 hm) (hm_ad (hm_mu rfl rfl) rfl) (by omega) (by decide) (congrFun ((va_up_ne _ _ (by omega)).trans ((va_up_ne _ _ (by omega)).trans (va_up_self _ _ _))) _) rfl ?_
    refine Ex_sI 42 ((40 * to) + i) (va_cpy (I (m + 24)) (I (m + 24)) (40 * fr) (40 * to) i) (va_up (va_up (va_up I (m + 25) (va_cpy (I (m + 25)) (I (m + 25)) (40 * fr) (40 * to) i)) (m + 26) (va_cpy (I (m + 26)) (I (m + 26)) (40 * fr) (40 * to) i)) (m + 24) (va_up (va_cpy (I (m + 24)) (I (m + 24)) (40 * fr) (40 * to) i) ((40 * to) + i) ((va_cpy (I (m + 24)) (I (m + 24)) (40 * fr) (40 * to) i) ((40 * fr) + i)))) dX9_laysLines_41 (xMs_24 hm) (hm_ad (hm_mu rfl rfl) rfl) (by omega) (by decide) ((va_up_ne _ _ (by omega)).trans ((va_up_ne _ _ (by omega)).trans (va_up_self _ _ _))) (x_agree (fun y hy => by simp only [va_up, if_neg hy])) rfl ?_
    refine Ex_aload_n 43 (i := 0) dX9_laysLines_42 rfl rfl rfl ?_
    refine Ex_getR 46 dX9_laysLines_43 fX9_84 (xMs_0 hm) rfl (xMr_36 hm) rfl ?_
    refine Ex_bipush 48 (v := 40) dX9_laysLines_46 (by decide) rfl ?_
    refine Ex_iload_n 49 (i := 2) dX9_laysLines_48 rfl rfl rfl ?_
    refine Ex_imul 50 dX9_laysLines_49 rfl ?_
    refine Ex_iload_n 51 (i := 3) dX9_laysLines_50 rfl rfl rfl ?_
    refine Ex_iadd 52 dX9_laysLines_51 rfl ?_
    refine Ex_aload_n 53 (i := 0) dX9_laysLines_52 rfl rfl rfl ?_
    refine Ex_getR 56 dX9_laysLines_53 fX9_84 (xMs_0 hm) rfl (xMr_36 hm) rfl ?_
    refine Ex_bipush 58 (v := 40) dX9_laysLines_56 (by decide) rfl ?_
    refine Ex_iload_n 59 (i := 1) dX9_laysLines_58 rfl rfl rfl ?_
    refine Ex_imul 60 dX9_laysLines_59 rfl ?_
    refine Ex_iload_n 61 (i := 3) dX9_laysLines_60 rfl rfl rfl ?_
    refine Ex_iadd 62 dX9_laysLines_61 rfl ?_
    refine Ex_aI 63 ((40 * fr) + i) ((va_cpy (I (m + 25)) (I (m + 25)) (40 * fr) (40 * to) i) ((40 * fr) + i)) dX9_laysLines_62 (xMs_25 hm) (hm_ad (hm_mu rfl rfl) rfl) (by omega) (by decide) (congrFun ((va_up_ne _ _ (by omega)).trans ((va_up_ne _ _ (by omega)).trans (va_up_self _ _ _))) _) rfl ?_
    refine Ex_sI 64 ((40 * to) + i) (va_cpy (I (m + 25)) (I (m + 25)) (40 * fr) (40 * to) i) (va_up (va_up (va_up I (m + 26) (va_cpy (I (m + 26)) (I (m + 26)) (40 * fr) (40 * to) i)) (m + 24) (va_up (va_cpy (I (m + 24)) (I (m + 24)) (40 * fr) (40 * to) i) ((40 * to) + i) ((va_cpy (I (m + 24)) (I (m + 24)) (40 * fr) (40 * to) i) ((40 * fr) + i)))) (m + 25) (va_up (va_cpy (I (m + 25)) (I (m + 25)) (40 * fr) (40 * to) i) ((40 * to) + i) ((va_cpy (I (m + 25)) (I (m + 25)) (40 * fr) (40 * to) i) ((40 * fr) + i)))) dX9_laysLines_63 (xMs_25 hm) (hm_ad (hm_mu rfl rfl) rfl) (by omega) (by decide) ((va_up_ne _ _ (by omega)).trans ((va_up_ne _ _ (by omega)).trans (va_up_self _ _ _))) (x_agree (fun y hy => by simp only [va_up, if_neg hy])) rfl ?_
    refine Ex_aload_n 65 (i := 0) dX9_laysLines_64 rfl rfl rfl ?_
    refine Ex_getR 68 dX9_laysLines_65 fX9_87 (xMs_0 hm) rfl (xMr_37 hm) rfl ?_
    refine Ex_bipush 70 (v := 40) dX9_laysLines_68 (by decide) rfl ?_
    refine Ex_iload_n 71 (i := 2) dX9_laysLines_70 rfl rfl rfl ?_
    refine Ex_imul 72 dX9_laysLines_71 rfl ?_
    refine Ex_iload_n 73 (i := 3) dX9_laysLines_72 rfl rfl rfl ?_
    refine Ex_iadd 74 dX9_laysLines_73 rfl ?_
    refine Ex_aload_n 75 (i := 0) dX9_laysLines_74 rfl rfl rfl ?_
    refine Ex_getR 78 dX9_laysLines_75 fX9_87 (xMs_0 hm) rfl (xMr_37 hm) rfl ?_
    refine Ex_bipush 80 (v := 40) dX9_laysLines_78 (by decide) rfl ?_
    refine Ex_iload_n 81 (i := 1) dX9_laysLines_80 rfl rfl rfl ?_
    refine Ex_imul 82 dX9_laysLines_81 rfl ?_
    refine Ex_iload_n 83 (i := 3) dX9_laysLines_82 rfl rfl rfl ?_
    refine Ex_iadd 84 dX9_laysLines_83 rfl ?_
    refine Ex_aI 85 ((40 * fr) + i) ((va_cpy (I (m + 26)) (I (m + 26)) (40 * fr) (40 * to) i) ((40 * fr) + i)) dX9_laysLines_84 (xMs_26 hm) (hm_ad (hm_mu rfl rfl) rfl) (by omega) (by decide) (congrFun ((va_up_ne _ _ (by omega)).trans ((va_up_ne _ _ (by omega)).trans (va_up_self _ _ _))) _) rfl ?_
    refine Ex_sI 86 ((40 * to) + i) (va_cpy (I (m + 26)) (I (m + 26)) (40 * fr) (40 * to) i) (va_up (va_up (va_up I (m + 24) (va_up (va_cpy (I (m + 24)) (I (m + 24)) (40 * fr) (40 * to) i) ((40 * to) + i) ((va_cpy (I (m + 24)) (I (m + 24)) (40 * fr) (40 * to) i) ((40 * fr) + i)))) (m + 25) (va_up (va_cpy (I (m + 25)) (I (m + 25)) (40 * fr) (40 * to) i) ((40 * to) + i) ((va_cpy (I (m + 25)) (I (m + 25)) (40 * fr) (40 * to) i) ((40 * fr) + i)))) (m + 26) (va_up (va_cpy (I (m + 26)) (I (m + 26)) (40 * fr) (40 * to) i) ((40 * to) + i) ((va_cpy (I (m + 26)) (I (m + 26)) (40 * fr) (40 * to) i) ((40 * fr) + i)))) dX9_laysLines_85 (xMs_26 hm) (hm_ad (hm_mu rfl rfl) rfl) (by omega) (by decide) ((va_up_ne _ _ (by omega)).trans ((va_up_ne _ _ (by omega)).trans (va_up_self _ _ _))) (x_agree (fun y hy => by simp only [va_up, if_neg hy])) rfl ?_
    refine Ex_iinc 89 (v := (nI (i + 1))) (ls' := [some (.ref m), some (.int (nI fr)), some (.int (nI to)), some (.int (nI (i + 1)))]) dX9_laysLines_86 rfl (xinc _) (Nat.le_of_ble_eq_true rfl) rfl rfl rfl ?_
    refine Ex_goto 14 dX9_laysLines_89 (by decide) ?_
    rw [hm_cpyself (n := 40) (by omega) (by omega), hm_cpyself (n := 40) (by omega) (by omega), hm_cpyself (n := 40) (by omega) (by omega)]
    exact ih (i + 1) (by omega)
