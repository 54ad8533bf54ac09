set_option maxHeartbeats 4000000 in
theorem c_lawClear {d : Nat} {sh : xSh} {R : xR} {L : xL} {I : xI} {Q : xQ} {a : Nat} (ha : xLaw sh R a) (hQ : Q none 0 sh R L (va_up I a (va_up (I a) 2 0))) : Ex d 0 0 MX2_clear 0 sh R L I 0 [some (.ref a)] [] Q := by
  refine Ex_aload_n 1 (i := 0) dX2_clear_0 rfl rfl rfl ?_
  refine Ex_iconst 2 (v := 0) dX2_clear_1 (by decide) rfl ?_
  refine Ex_pI 5 (I a) (va_up I a (va_up (I a) 2 0)) dX2_clear_2 fX2_18 rfl ha.1 rfl (fun _ => rfl) rfl rfl rfl rfl ?_
  refine Ex_ret0 dX2_clear_5 rfl (Or.inl rfl) ?_
  exact hQ
set_option maxHeartbeats 4000000 in
theorem c_lawAdd {d : Nat} {sh : xSh} {R : xR} {L : xL} {I : xI} {Q : xQ} {a n : Nat} {x : Int32} (ha : xLaw sh R a) (hn : I a 2 = nI n) (hn2 : n < 1000) (hQ : Q none 0 sh R L (va_up (va_up I (a + 1) (va_up (I (a + 1)) n x)) a (va_up (I a) 2 (nI (n + 1))))) : Ex d 0 0 MX2_add 0 sh R L I 0 [some (.ref a), some (.int x)] [] Q := by
  refine Ex_aload_n 1 (i := 0) dX2_add_0 rfl rfl rfl ?_
  refine Ex_gI 4 (I a 2) dX2_add_1 fX2_18 ha.1 rfl rfl rfl ?_
  rw [hn]
  refine Ex_aload_n 5 (i := 0) dX2_add_4 rfl rfl rfl ?_
  refine Ex_getR 8 dX2_add_5 fX2_9 ha.1 rfl ha.2.2.2.1 rfl ?_
  refine Ex_alen 9 0 dX2_add_8 ha.2.1 (fun _ => rfl) rfl ?_
  refine Ex_icmp_ge 12 32 dX2_add_9 (by decide) rfl (fun c1 => absurd c1 (nI_ge (b := 1000) (by omega) (by omega))) (fun c1 => ?_)
  refine Ex_aload_n 13 (i := 0) dX2_add_12 rfl rfl rfl ?_
  refine Ex_getR 16 dX2_add_13 fX2_9 ha.1 rfl ha.2.2.2.1 rfl ?_
  refine Ex_aload_n 17 (i := 0) dX2_add_16 rfl rfl rfl ?_
  refine Ex_gI 20 (I a 2) dX2_add_17 fX2_18 ha.1 rfl rfl rfl ?_
  rw [hn]
  refine Ex_iload_n 21 (i := 1) dX2_add_20 rfl rfl rfl ?_
  refine Ex_sI 22 n (I (a + 1)) (va_up I (a + 1) (va_up (I (a + 1)) n x)) dX2_add_21 ha.2.1 rfl (by omega) (by decide) rfl rfl rfl ?_
  refine Ex_aload_n 23 (i := 0) dX2_add_22 rfl rfl rfl ?_
  refine Ex_dup 24 dX2_add_23 rfl rfl ?_
  refine Ex_gI 27 (I a 2) dX2_add_24 fX2_18 ha.1 rfl (congrFun (va_up_ne _ _ (by omega)) _) rfl ?_
  rw [hn]
  refine Ex_iconst 28 (v := 1) dX2_add_27 (by decide) rfl ?_
  refine Ex_iadd 29 dX2_add_28 rfl ?_
  rw [nI_1]
  refine Ex_pI 32 (I a) (va_up (va_up I (a + 1) (va_up (I (a + 1)) n x)) a (va_up (I a) 2 (nI (n + 1)))) dX2_add_29 fX2_18 rfl ha.1 rfl (fun _ => rfl) (va_up_ne _ _ (by omega)) rfl rfl rfl ?_
  refine Ex_ret0 dX2_add_32 rfl (Or.inl rfl) ?_
  exact hQ
set_option maxHeartbeats 4000000 in
theorem c_planAdd {d : Nat} {sh : xSh} {R : xR} {L : xL} {I : xI} {Q : xQ} {a n : Nat} {x y z : Int32} (ha : xPlan sh R a) (hn : I a 3 = nI n) (hn2 : n < 40) (hQ : Q none 0 sh R L (va_up (va_up (va_up (va_up I (a + 1) (va_up (I (a + 1)) n x)) (a + 2) (va_up (I (a + 2)) n y)) (a + 3) (va_up (I (a + 3)) n z)) a (va_up (I a) 3 (nI (n + 1))))) : Ex d 0 0 MX4_add 0 sh R L I 0 [some (.ref a), some (.int x), some (.int y), some (.int z)] [] Q := by
  refine Ex_aload_n 1 (i := 0) dX4_add_0 rfl rfl rfl ?_
  refine Ex_gI 4 (I a 3) dX4_add_1 fX4_21 ha.1 rfl rfl rfl ?_
  rw [hn]
  refine Ex_bipush 6 (v := 40) dX4_add_4 (by decide) rfl ?_
  refine Ex_icmp_ge 9 49 dX4_add_6 (by decide) rfl (fun c1 => absurd c1 (nI_ge (b := 40) (by omega) (by omega))) (fun c1 => ?_)
  refine Ex_aload_n 10 (i := 0) dX4_add_9 rfl rfl rfl ?_
  refine Ex_getR 13 dX4_add_10 fX4_9 ha.1 rfl ha.2.2.2.2.1 rfl ?_
  refine Ex_aload_n 14 (i := 0) dX4_add_13 rfl rfl rfl ?_
  refine Ex_gI 17 (I a 3) dX4_add_14 fX4_21 ha.1 rfl rfl rfl ?_
  rw [hn]
  refine Ex_iload_n 18 (i := 1) dX4_add_17 rfl rfl rfl ?_
  refine Ex_sI 19 n (I (a + 1)) (va_up I (a + 1) (va_up (I (a + 1)) n x)) dX4_add_18 ha.2.1 rfl (by omega) (by decide) rfl rfl rfl ?_
  refine Ex_aload_n 20 (i := 0) dX4_add_19 rfl rfl rfl ?_
  refine Ex_getR 23 dX4_add_20 fX4_15 ha.1 rfl ha.2.2.2.2.2.1 rfl ?_
  refine Ex_aload_n 24 (i := 0) dX4_add_23 rfl rfl rfl ?_
  refine Ex_gI 27 (I a 3) dX4_add_24 fX4_21 ha.1 rfl (congrFun (va_up_ne _ _ (by omega)) _) rfl ?_
  rw [hn]
  refine Ex_iload_n 28 (i := 2) dX4_add_27 rfl rfl rfl ?_
  refine Ex_sI 29 n (I (a + 2)) (va_up (va_up I (a + 1) (va_up (I (a + 1)) n x)) (a + 2) (va_up (I (a + 2)) n y)) dX4_add_28 ha.2.2.1 rfl (by omega) (by decide) (va_up_ne _ _ (by omega)) rfl rfl ?_
  refine Ex_aload_n 30 (i := 0) dX4_add_29 rfl rfl rfl ?_
  refine Ex_getR 33 dX4_add_30 fX4_18 ha.1 rfl ha.2.2.2.2.2.2 rfl ?_
  refine Ex_aload_n 34 (i := 0) dX4_add_33 rfl rfl rfl ?_
  refine Ex_gI 37 (I a 3) dX4_add_34 fX4_21 ha.1 rfl (congrFun ((va_up_ne _ _ (by omega)).trans (va_up_ne _ _ (by omega))) _) rfl ?_
  rw [hn]
  refine Ex_iload_n 38 (i := 3) dX4_add_37 rfl rfl rfl ?_
  refine Ex_sI 39 n (I (a + 3)) (va_up (va_up (va_up I (a + 1) (va_up (I (a + 1)) n x)) (a + 2) (va_up (I (a + 2)) n y)) (a + 3) (va_up (I (a + 3)) n z)) dX4_add_38 ha.2.2.2.1 rfl (by omega) (by decide) ((va_up_ne _ _ (by omega)).trans (va_up_ne _ _ (by omega))) rfl rfl ?_
  refine Ex_aload_n 40 (i := 0) dX4_add_39 rfl rfl rfl ?_
  refine Ex_dup 41 dX4_add_40 rfl rfl ?_
  refine Ex_gI 44 (I a 3) dX4_add_41 fX4_21 ha.1 rfl (congrFun ((va_up_ne _ _ (by omega)).trans ((va_up_ne _ _ (by omega)).trans (va_up_ne _ _ (by omega)))) _) rfl ?_
  rw [hn]
  refine Ex_iconst 45 (v := 1) dX4_add_44 (by decide) rfl ?_
  refine Ex_iadd 46 dX4_add_45 rfl ?_
  rw [nI_1]
  refine Ex_pI 49 (I a) (va_up (va_up (va_up (va_up I (a + 1) (va_up (I (a + 1)) n x)) (a + 2) (va_up (I (a + 2)) n y)) (a + 3) (va_up (I (a + 3)) n z)) a (va_up (I a) 3 (nI (n + 1)))) dX4_add_46 fX4_21 rfl ha.1 rfl (fun _ => rfl) ((va_up_ne _ _ (by omega)).trans ((va_up_ne _ _ (by omega)).trans (va_up_ne _ _ (by omega)))) rfl rfl rfl ?_
  refine Ex_ret0 dX4_add_49 rfl (Or.inl rfl) ?_
  exact hQ
