theorem hmVp_ne {k : Nat} (hk : k < 10016) (h : 12 ≤ k) : ¬ hmVp k = -13 := fun e => by
  unfold hmVp at e
  by_cases h1 : k = 12
  · rw [if_pos h1] at e; exact absurd e (by decide)
  by_cases h2 : k = 13
  · rw [if_neg h1, if_pos h2] at e; exact absurd e (by decide)
  by_cases h3 : k = 14
  · rw [if_neg h1, if_neg h2, if_pos h3] at e; exact absurd e (by decide)
  by_cases h4 : k = 15
  · rw [if_neg h1, if_neg h2, if_neg h3, if_pos h4] at e; exact absurd e (by decide)
  rw [if_neg h1, if_neg h2, if_neg h3, if_neg h4] at e
  have h0 : 0 ≤ nI (k - 16) := hm_nI0 (by omega)
  rw [e] at h0
  exact absurd h0 (by decide)
set_option maxHeartbeats 4000000 in
theorem c_part_of {sh : xSh} {R : xR} {a la : Nat} {T : List Nat} (ha : xReader sh R a) (hla : xLaw sh R la) (hd : a + 3 ≤ la ∨ la + 3 ≤ a) (hc : ∀ x, x ∈ T → x < 127) {n : Nat} (hp : cp_part sh R a la T n) (hw : cp_wholeTest sh R a la T n) : cp_part sh R a la T (n + 1) := by
  intro dp t r lv cs lw I L Q d hn hdp hC hL hlen hlv _ hF hK
  have sk := hC.2.2.2.2.2.2.1
  have spl := hC.2.2.2.2.2.2.2
  have k2 := hm_kS (t := t) sk (c := 40) (k := 2) (by decide) (by decide)
  have k1 := hm_kW (t := t) sk (l := wNot) (k := 1) (by decide) (by decide)
  have zt : (t :: r).length = r.length + 1 := rfl
  have hkM : hmKd t < 10016 := by
    by_cases q : 16 ≤ hmKd t
    · have t3 := hm_kN.1.mpr q
      have := hm_kN.2 t3
      have := sk.2.1 t3
      omega
    · omega
  have hfl : ∀ k, 1 ≤ k → k ≤ 5 → hmLm (t :: r) true lv cs = .inl (k + 16 * t.2.2) → Q (some (.int 0)) 0 sh R L (va_up I a (va_up (I a) 1 (nI (hmFl k t)))) := fun k h1 h2 e => by
    refine hF (hmFl k t) _ L e (by unfold hmFl; omega) (by unfold hmFl; omega) (hmLr.tf (hmTf.up (Or.inl rfl))) hmSl.rf (by rw [va_up_self, va_up_self]) ?_
    exact hL.lq.kept (va_up_ne _ _ (by omega))
  by_cases hbad : hmKd t = 0 ∨ (3 ≤ hmKd t ∧ hmKd t ≤ 11)
  · have e40 : hmB (hmIsS t 40) = 0 := by rw [k2, hmB_0]; exact decide_eq_false (by omega)
    have eno : hmB (hmIsW t wNot) = 0 := by rw [k1, hmB_0]; exact decide_eq_false (by omega)
    have egv : hmGv t = -13 := by unfold hmGv; rw [if_neg (by omega)]
    have eM : hmLm (t :: r) true lv cs = .inl (1 + 16 * t.2.2) := by rw [hmLm_t, if_pos hbad]
    refine Ex_aload_n 1 (i := 0) dX5_part_0 rfl rfl rfl ?_
    refine Ex_getR 4 dX5_part_1 fX5_12 ha.1 rfl ha.2.2.2.1 rfl ?_
    refine Ex_bipush 6 (v := 40) dX5_part_4 (by decide) rfl ?_
    refine Ex_callV (M' := MX7_isSign) 9 [.int 40] (rest := []) dX5_part_6 lX5_68 mX7_isSign rfl ha.2.1 rfl (Nat.le_of_ble_eq_true rfl) (Nat.le_of_ble_eq_true rfl) rfl ?_
    refine c_isSign (xR_t ha) hC.2 (c := 40) (by decide) ?_
    simp only [Option.toList, List.cons_append, List.nil_append]
    rw [e40]
    refine Ex_istore_n 10 (i := 3) (ls' := [some (.ref a), some (.ref la), some (.int (nI dp)), some (.int 0), none, none, none]) dX5_part_9 rfl (Nat.le_of_ble_eq_true rfl) rfl rfl rfl ?_
    refine Ex_aload_n 11 (i := 0) dX5_part_10 rfl rfl rfl ?_
    refine Ex_getR 14 dX5_part_11 fX5_12 ha.1 rfl ha.2.2.2.1 rfl ?_
    refine Ex_ldc2 17 (v := 7237492) dX5_part_14 kX5_145 rfl ?_
    refine Ex_callV (M' := MX7_isWord) 20 [.long 7237492] (rest := []) dX5_part_17 lX5_57 mX7_isWord rfl ha.2.1 rfl (Nat.le_of_ble_eq_true rfl) (Nat.le_of_ble_eq_true rfl) rfl ?_
    refine c_isWord (xR_t ha) hC.2 (l := wNot) (by decide +kernel) (by unfold hmWd; decide) ?_
    simp only [Option.toList, List.cons_append, List.nil_append]
    rw [eno]
    refine Ex_istore 22 (ls' := [some (.ref a), some (.ref la), some (.int (nI dp)), some (.int 0), some (.int 0), none, none]) dX5_part_20 (Nat.le_of_ble_eq_true rfl) rfl rfl rfl ?_
    refine Ex_aload_n 23 (i := 0) dX5_part_22 rfl rfl rfl ?_
    refine Ex_callV (M' := MX5_givenPart) 26 [] (rest := []) dX5_part_23 lX5_218 mX5_givenPart rfl ha.1 rfl (Nat.le_of_ble_eq_true rfl) (Nat.le_of_ble_eq_true rfl) rfl ?_
    refine c_givenPart ha hC ?_
    simp only [Option.toList, List.cons_append, List.nil_append]
    rw [egv]
    refine Ex_istore 28 (ls' := [some (.ref a), some (.ref la), some (.int (nI dp)), some (.int 0), some (.int 0), some (.int (-13)), none]) dX5_part_26 (Nat.le_of_ble_eq_true rfl) rfl rfl rfl ?_
    refine Ex_iload_n 29 (i := 3) dX5_part_28 rfl rfl rfl ?_
    refine Ex_if_ne 32 50 dX5_part_29 (by decide) rfl (fun c1 => absurd c1 (fun q => q (by decide))) (fun c1 => ?_)
    refine Ex_iload 34 dX5_part_32 rfl rfl ?_
    refine Ex_if_ne 37 50 dX5_part_34 (by decide) rfl (fun c2 => absurd c2 (fun q => q (by decide))) (fun c2 => ?_)
    refine Ex_iload 39 dX5_part_37 rfl rfl ?_
    refine Ex_bipush 41 (v := (-13)) dX5_part_39 (by decide) rfl ?_
    refine Ex_icmp_ne 44 50 dX5_part_41 (by decide) rfl (fun c3 => absurd c3 (fun q => q (by decide))) (fun c3 => ?_)
    refine Ex_aload_n 45 (i := 0) dX5_part_44 rfl rfl rfl ?_
    refine Ex_iconst 46 (v := 1) dX5_part_45 (by decide) rfl ?_
    refine Ex_callV (M' := MX5_fail) 49 [.int 1] (rest := []) dX5_part_46 lX5_61 mX5_fail rfl ha.1 rfl (Nat.le_of_ble_eq_true rfl) (Nat.le_of_ble_eq_true rfl) rfl ?_
    refine c_fail (k := 1) ha hC ?_
    simp only [Option.toList, List.nil_append, List.cons_append]
    refine Ex_iret dX5_part_49 rfl (by decide) (Or.inl rfl) ?_
    exact hfl 1 (by omega) (by omega) eM
  have ht0 : ¬ t.1 = 0 := fun q => by rw [hm_k0 q] at hbad; exact hbad (Or.inl rfl)
  have egn : 12 ≤ hmKd t → ¬ hmGv t = -13 := fun q e => by
    unfold hmGv at e
    rw [if_pos q] at e
    exact hmVp_ne hkM q e
  by_cases hk1 : hmKd t = 1
  · have e40 : hmB (hmIsS t 40) = 0 := by rw [k2, hmB_0]; exact decide_eq_false (by omega)
    have eno : hmB (hmIsW t wNot) = 1 := by rw [k1, hmB_1]; exact decide_eq_true hk1
    by_cases h5 : dp = 5
    · have eM : hmLm (t :: r) true lv cs = .inl (5 + 16 * t.2.2) := by rw [hmLm_t, if_neg hbad, if_pos (by omega)]
      refine Ex_aload_n 1 (i := 0) dX5_part_0 rfl rfl rfl ?_
      refine Ex_getR 4 dX5_part_1 fX5_12 ha.1 rfl ha.2.2.2.1 rfl ?_
      refine Ex_bipush 6 (v := 40) dX5_part_4 (by decide) rfl ?_
      refine Ex_callV (M' := MX7_isSign) 9 [.int 40] (rest := []) dX5_part_6 lX5_68 mX7_isSign rfl ha.2.1 rfl (Nat.le_of_ble_eq_true rfl) (Nat.le_of_ble_eq_true rfl) rfl ?_
      refine c_isSign (xR_t ha) hC.2 (c := 40) (by decide) ?_
      simp only [Option.toList, List.cons_append, List.nil_append]
      rw [e40]
      refine Ex_istore_n 10 (i := 3) (ls' := [some (.ref a), some (.ref la), some (.int (nI dp)), some (.int 0), none, none, none]) dX5_part_9 rfl (Nat.le_of_ble_eq_true rfl) rfl rfl rfl ?_
      refine Ex_aload_n 11 (i := 0) dX5_part_10 rfl rfl rfl ?_
      refine Ex_getR 14 dX5_part_11 fX5_12 ha.1 rfl ha.2.2.2.1 rfl ?_
      refine Ex_ldc2 17 (v := 7237492) dX5_part_14 kX5_145 rfl ?_
      refine Ex_callV (M' := MX7_isWord) 20 [.long 7237492] (rest := []) dX5_part_17 lX5_57 mX7_isWord rfl ha.2.1 rfl (Nat.le_of_ble_eq_true rfl) (Nat.le_of_ble_eq_true rfl) rfl ?_
      refine c_isWord (xR_t ha) hC.2 (l := wNot) (by decide +kernel) (by unfold hmWd; decide) ?_
      simp only [Option.toList, List.cons_append, List.nil_append]
      rw [eno]
      refine Ex_istore 22 (ls' := [some (.ref a), some (.ref la), some (.int (nI dp)), some (.int 0), some (.int 1), none, none]) dX5_part_20 (Nat.le_of_ble_eq_true rfl) rfl rfl rfl ?_
      refine Ex_aload_n 23 (i := 0) dX5_part_22 rfl rfl rfl ?_
      refine Ex_callV (M' := MX5_givenPart) 26 [] (rest := []) dX5_part_23 lX5_218 mX5_givenPart rfl ha.1 rfl (Nat.le_of_ble_eq_true rfl) (Nat.le_of_ble_eq_true rfl) rfl ?_
      refine c_givenPart ha hC ?_
      simp only [Option.toList, List.cons_append, List.nil_append]
      refine Ex_istore 28 (ls' := [some (.ref a), some (.ref la), some (.int (nI dp)), some (.int 0), some (.int 1), some (.int (hmGv t)), none]) dX5_part_26 (Nat.le_of_ble_eq_true rfl) rfl rfl rfl ?_
      refine Ex_iload_n 29 (i := 3) dX5_part_28 rfl rfl rfl ?_
      refine Ex_if_ne 32 50 dX5_part_29 (by decide) rfl (fun c1 => absurd c1 (fun q => q (by decide))) (fun c1 => ?_)
      refine Ex_iload 34 dX5_part_32 rfl rfl ?_
      refine Ex_if_ne 37 50 dX5_part_34 (by decide) rfl (fun c2 => ?_) (fun c2 => absurd c2 (by decide))
      refine Ex_iload_n 51 (i := 2) dX5_part_50 rfl rfl rfl ?_
      refine Ex_iconst 52 (v := 5) dX5_part_51 (by decide) rfl ?_
      refine Ex_icmp_lt 55 61 dX5_part_52 (by decide) rfl (fun c3 => absurd c3 (fun q => absurd ((nI_ltI (b := 5) (by omega) (by omega)).mp q) (by omega))) (fun c3 => ?_)
      refine Ex_aload_n 56 (i := 0) dX5_part_55 rfl rfl rfl ?_
      refine Ex_iconst 57 (v := 5) dX5_part_56 (by decide) rfl ?_
      refine Ex_callV (M' := MX5_fail) 60 [.int 5] (rest := []) dX5_part_57 lX5_61 mX5_fail rfl ha.1 rfl (Nat.le_of_ble_eq_true rfl) (Nat.le_of_ble_eq_true rfl) rfl ?_
      refine c_fail (k := 5) ha hC ?_
      simp only [Option.toList, List.nil_append, List.cons_append]
      refine Ex_iret dX5_part_60 rfl (by decide) (Or.inl rfl) ?_
      exact hfl 5 (by omega) (by omega) eM
    have eM : hmLm (t :: r) true lv cs = hmLm r true ((1, false) :: lv) (cs ++ [30]) := by rw [hmLm_t, if_neg hbad, if_neg (by omega), if_pos hk1]
    refine Ex_aload_n 1 (i := 0) dX5_part_0 rfl rfl rfl ?_
    refine Ex_getR 4 dX5_part_1 fX5_12 ha.1 rfl ha.2.2.2.1 rfl ?_
    refine Ex_bipush 6 (v := 40) dX5_part_4 (by decide) rfl ?_
    refine Ex_callV (M' := MX7_isSign) 9 [.int 40] (rest := []) dX5_part_6 lX5_68 mX7_isSign rfl ha.2.1 rfl (Nat.le_of_ble_eq_true rfl) (Nat.le_of_ble_eq_true rfl) rfl ?_
    refine c_isSign (xR_t ha) hC.2 (c := 40) (by decide) ?_
    simp only [Option.toList, List.cons_append, List.nil_append]
    rw [e40]
    refine Ex_istore_n 10 (i := 3) (ls' := [some (.ref a), some (.ref la), some (.int (nI dp)), some (.int 0), none, none, none]) dX5_part_9 rfl (Nat.le_of_ble_eq_true rfl) rfl rfl rfl ?_
    refine Ex_aload_n 11 (i := 0) dX5_part_10 rfl rfl rfl ?_
    refine Ex_getR 14 dX5_part_11 fX5_12 ha.1 rfl ha.2.2.2.1 rfl ?_
    refine Ex_ldc2 17 (v := 7237492) dX5_part_14 kX5_145 rfl ?_
    refine Ex_callV (M' := MX7_isWord) 20 [.long 7237492] (rest := []) dX5_part_17 lX5_57 mX7_isWord rfl ha.2.1 rfl (Nat.le_of_ble_eq_true rfl) (Nat.le_of_ble_eq_true rfl) rfl ?_
    refine c_isWord (xR_t ha) hC.2 (l := wNot) (by decide +kernel) (by unfold hmWd; decide) ?_
    simp only [Option.toList, List.cons_append, List.nil_append]
    rw [eno]
    refine Ex_istore 22 (ls' := [some (.ref a), some (.ref la), some (.int (nI dp)), some (.int 0), some (.int 1), none, none]) dX5_part_20 (Nat.le_of_ble_eq_true rfl) rfl rfl rfl ?_
    refine Ex_aload_n 23 (i := 0) dX5_part_22 rfl rfl rfl ?_
    refine Ex_callV (M' := MX5_givenPart) 26 [] (rest := []) dX5_part_23 lX5_218 mX5_givenPart rfl ha.1 rfl (Nat.le_of_ble_eq_true rfl) (Nat.le_of_ble_eq_true rfl) rfl ?_
    refine c_givenPart ha hC ?_
    simp only [Option.toList, List.cons_append, List.nil_append]
    refine Ex_istore 28 (ls' := [some (.ref a), some (.ref la), some (.int (nI dp)), some (.int 0), some (.int 1), some (.int (hmGv t)), none]) dX5_part_26 (Nat.le_of_ble_eq_true rfl) rfl rfl rfl ?_
    refine Ex_iload_n 29 (i := 3) dX5_part_28 rfl rfl rfl ?_
    refine Ex_if_ne 32 50 dX5_part_29 (by decide) rfl (fun c1 => absurd c1 (fun q => q (by decide))) (fun c1 => ?_)
    refine Ex_iload 34 dX5_part_32 rfl rfl ?_
    refine Ex_if_ne 37 50 dX5_part_34 (by decide) rfl (fun c2 => ?_) (fun c2 => absurd c2 (by decide))
    refine Ex_iload_n 51 (i := 2) dX5_part_50 rfl rfl rfl ?_
    refine Ex_iconst 52 (v := 5) dX5_part_51 (by decide) rfl ?_
    refine Ex_icmp_lt 55 61 dX5_part_52 (by decide) rfl (fun c3 => ?_) (fun c3 => absurd c3 (fun q => q ((nI_ltI (b := 5) (by omega) (by omega)).mpr (by omega))))
    refine Ex_aload_n 62 (i := 0) dX5_part_61 rfl rfl rfl ?_
    refine Ex_getR 65 dX5_part_62 fX5_12 ha.1 rfl ha.2.2.2.1 rfl ?_
    refine Ex_callV (M' := MX7_step) 68 [] (rest := []) dX5_part_65 lX5_65 mX7_step rfl ha.2.1 rfl (Nat.le_of_ble_eq_true rfl) (Nat.le_of_ble_eq_true rfl) rfl ?_
    refine c_rstep ha hc hC ht0 (fun t2 r2 I2 L2 er2 gs2 gt2 hC2 => ?_)
    simp only [Option.toList, List.nil_append, List.cons_append]
    subst er2
    have z2 : (t :: t2 :: r2).length = (t2 :: r2).length + 1 := rfl
    have y2 : 1 ≤ (t2 :: r2).length := by simp
    refine Ex_iload_n 69 (i := 3) dX5_part_68 rfl rfl rfl ?_
    refine Ex_if_eq 72 98 dX5_part_69 (by decide) rfl (fun c4 => ?_) (fun c4 => absurd c4 (fun q => q (by decide)))
    refine Ex_iload 100 dX5_part_98 rfl rfl ?_
    refine Ex_if_eq 103 114 dX5_part_100 (by decide) rfl (fun c5 => absurd c5 (by decide)) (fun c5 => ?_)
    refine Ex_aload_n 104 (i := 0) dX5_part_103 rfl rfl rfl ?_
    refine Ex_aload_n 105 (i := 1) dX5_part_104 rfl rfl rfl ?_
    refine Ex_iload_n 106 (i := 2) dX5_part_105 rfl rfl rfl ?_
    refine Ex_iconst 107 (v := 1) dX5_part_106 (by decide) rfl ?_
    refine Ex_iadd 108 dX5_part_107 rfl ?_
    rw [nI_1]
    refine Ex_callV (M' := MX5_part) 111 [.ref la, .int (nI (dp + 1))] (rest := []) dX5_part_108 lX5_215 mX5_part rfl ha.1 rfl (Nat.le_of_ble_eq_true rfl) (Nat.le_of_ble_eq_true rfl) rfl ?_
    refine Ex_d (d' := (d + 4) + 5 * (5 - (dp + 1)) + 10) (by omega) (hp (dp + 1) t2 r2 ((1, false) :: lv) (cs ++ [30]) (lw) I2 L2 _ (d + 4) (by omega) (by omega) hC2 (hL.kept (gs2.1 _ (by omega)) (gs2.1 _ (by omega))) (by omega) (by rw [List.length_cons]; omega) trivial (fun F3 I3 L3 e3 fa3 fb3 g3 gl3 k3 q3 => ?_) (fun t3 r3 lv3 ci3 cp3 I3 L3 e3 po3 g3 gl3 hC3 hL3 l3 m3 n3 => ?_))
    · simp only [Option.toList, List.nil_append, List.cons_append]
      refine Ex_if_eq 114 118 dX5_part_111 (by decide) rfl (fun c6 => ?_) (fun c6 => absurd c6 (fun q => q (by decide)))
      refine Ex_iconst 119 (v := 0) dX5_part_118 (by decide) rfl ?_
      refine Ex_istore 121 (ls' := [some (.ref a), some (.ref la), some (.int (nI dp)), some (.int 0), some (.int 1), some (.int (hmGv t)), some (.int 0)]) dX5_part_119 (Nat.le_of_ble_eq_true rfl) rfl rfl rfl ?_
      refine Ex_aload_n 122 (i := 1) dX5_part_121 rfl rfl rfl ?_
      refine Ex_iload 124 dX5_part_122 rfl rfl ?_
      refine Ex_if_eq 127 132 dX5_part_124 (by decide) rfl (fun c7 => absurd c7 (by decide)) (fun c7 => ?_)
      refine Ex_bipush 129 (v := (-5)) dX5_part_127 (by decide) rfl ?_
      refine Ex_goto 134 dX5_part_129 (by decide) ?_
      refine Ex_callV (M' := MX2_add) 137 [.int (-5)] (rest := []) dX5_part_134 lX5_206 mX2_add rfl hla.1 rfl (Nat.le_of_ble_eq_true rfl) (Nat.le_of_ble_eq_true rfl) rfl ?_
      obtain ⟨nq4, hq14, hq24⟩ := q3
      refine c_lawAddQ hla hq24 hq14 (fun J4 nr4 hr14 hr24 hr34 => ?_)
      simp only [Option.toList, List.nil_append, List.cons_append]
      refine Ex_iload 139 dX5_part_137 rfl rfl ?_
      refine Ex_iret dX5_part_139 rfl (by decide) (Or.inl rfl) ?_
      have hre : hmLm (t :: t2 :: r2) true lv cs = .inl F3 := by rw [eM]; exact e3
      exact hF F3 J4 L3 hre fa3 fb3 (((hmLr.sp gs2).tr g3).tr (hmLr.ad hd hr24)) (gt2.tr gl3) (by rw [hr24 a (by omega) (by omega)]; exact k3) ⟨nr4, hr14, hr34⟩
    · simp only [Option.toList, List.nil_append, List.cons_append]
      have y3 : 1 ≤ (t3 :: r3).length := by simp
      have hn3 : (lw ++ cp3).length < 1000 := by omega
      refine Ex_if_eq 114 118 dX5_part_111 (by decide) rfl (fun c8 => absurd c8 (by decide)) (fun c8 => ?_)
      refine Ex_iconst 115 (v := 1) dX5_part_114 (by decide) rfl ?_
      refine Ex_goto 119 dX5_part_115 (by decide) ?_
      refine Ex_istore 121 (ls' := [some (.ref a), some (.ref la), some (.int (nI dp)), some (.int 0), some (.int 1), some (.int (hmGv t)), some (.int 1)]) dX5_part_119 (Nat.le_of_ble_eq_true rfl) rfl rfl rfl ?_
      refine Ex_aload_n 122 (i := 1) dX5_part_121 rfl rfl rfl ?_
      refine Ex_iload 124 dX5_part_122 rfl rfl ?_
      refine Ex_if_eq 127 132 dX5_part_124 (by decide) rfl (fun c9 => absurd c9 (by decide)) (fun c9 => ?_)
      refine Ex_bipush 129 (v := (-5)) dX5_part_127 (by decide) rfl ?_
      refine Ex_goto 134 dX5_part_129 (by decide) ?_
      refine Ex_callV (M' := MX2_add) 137 [.int (-5)] (rest := []) dX5_part_134 lX5_206 mX2_add rfl hla.1 rfl (Nat.le_of_ble_eq_true rfl) (Nat.le_of_ble_eq_true rfl) rfl ?_
      have hadd4 := hmLs.add (x := (-5)) hL3 hn3
      refine c_lawAdd hla hL3.2.1 hn3 ?_
      simp only [Option.toList, List.nil_append, List.cons_append]
      refine Ex_iload 139 dX5_part_137 rfl rfl ?_
      refine Ex_iret dX5_part_139 rfl (by decide) (Or.inl rfl) ?_
      have key := hmSP_not po3.2
      have hlx : lv3 = hmPn lv := po3.1
      rw [hlx] at e3
      have a1 : cs ++ [30] ++ ci3 = cs ++ 30 :: ci3 := by simp
      have a2 : lw ++ cp3 ++ [-5] = lw ++ (cp3 ++ [-5]) := by simp
      rw [a1] at e3
      rw [a2] at hadd4
      have d1 : (lw ++ (cp3 ++ [-5])).length = (lw ++ cp3).length + 1 := by rw [← a2, List.length_append]; rfl
      have d2 : ((30 : Int32) :: ci3).length = ci3.length + 1 := rfl
      exact hK t3 r3 (hmPn lv) (30 :: ci3) (cp3 ++ [-5]) _ L3 (by rw [eM, e3]) ⟨rfl, key⟩ (((hmLo.sp gs2).tr g3).tr (hmLo.ad hd (fun x p q => by rw [va_up_ne _ _ p, va_up_ne _ _ q]))) (gt2.tr gl3) (hC3.kept (by rw [va_up_ne _ _ (by omega), va_up_ne _ _ (by omega)]) (by rw [va_up_ne _ _ (by omega), va_up_ne _ _ (by omega)]) rfl) hadd4 (by omega) (by omega) (by omega)
  by_cases hk2 : hmKd t = 2
  · have e40 : hmB (hmIsS t 40) = 1 := by rw [k2, hmB_1]; exact decide_eq_true hk2
    have eno : hmB (hmIsW t wNot) = 0 := by rw [k1, hmB_0]; exact decide_eq_false (by omega)
    by_cases h5 : dp = 5
    · have eM : hmLm (t :: r) true lv cs = .inl (5 + 16 * t.2.2) := by rw [hmLm_t, if_neg hbad, if_pos (by omega)]
      refine Ex_aload_n 1 (i := 0) dX5_part_0 rfl rfl rfl ?_
      refine Ex_getR 4 dX5_part_1 fX5_12 ha.1 rfl ha.2.2.2.1 rfl ?_
      refine Ex_bipush 6 (v := 40) dX5_part_4 (by decide) rfl ?_
      refine Ex_callV (M' := MX7_isSign) 9 [.int 40] (rest := []) dX5_part_6 lX5_68 mX7_isSign rfl ha.2.1 rfl (Nat.le_of_ble_eq_true rfl) (Nat.le_of_ble_eq_true rfl) rfl ?_
      refine c_isSign (xR_t ha) hC.2 (c := 40) (by decide) ?_
      simp only [Option.toList, List.cons_append, List.nil_append]
      rw [e40]
      refine Ex_istore_n 10 (i := 3) (ls' := [some (.ref a), some (.ref la), some (.int (nI dp)), some (.int 1), none, none, none]) dX5_part_9 rfl (Nat.le_of_ble_eq_true rfl) rfl rfl rfl ?_
      refine Ex_aload_n 11 (i := 0) dX5_part_10 rfl rfl rfl ?_
      refine Ex_getR 14 dX5_part_11 fX5_12 ha.1 rfl ha.2.2.2.1 rfl ?_
      refine Ex_ldc2 17 (v := 7237492) dX5_part_14 kX5_145 rfl ?_
      refine Ex_callV (M' := MX7_isWord) 20 [.long 7237492] (rest := []) dX5_part_17 lX5_57 mX7_isWord rfl ha.2.1 rfl (Nat.le_of_ble_eq_true rfl) (Nat.le_of_ble_eq_true rfl) rfl ?_
      refine c_isWord (xR_t ha) hC.2 (l := wNot) (by decide +kernel) (by unfold hmWd; decide) ?_
      simp only [Option.toList, List.cons_append, List.nil_append]
      rw [eno]
      refine Ex_istore 22 (ls' := [some (.ref a), some (.ref la), some (.int (nI dp)), some (.int 1), some (.int 0), none, none]) dX5_part_20 (Nat.le_of_ble_eq_true rfl) rfl rfl rfl ?_
      refine Ex_aload_n 23 (i := 0) dX5_part_22 rfl rfl rfl ?_
      refine Ex_callV (M' := MX5_givenPart) 26 [] (rest := []) dX5_part_23 lX5_218 mX5_givenPart rfl ha.1 rfl (Nat.le_of_ble_eq_true rfl) (Nat.le_of_ble_eq_true rfl) rfl ?_
      refine c_givenPart ha hC ?_
      simp only [Option.toList, List.cons_append, List.nil_append]
      refine Ex_istore 28 (ls' := [some (.ref a), some (.ref la), some (.int (nI dp)), some (.int 1), some (.int 0), some (.int (hmGv t)), none]) dX5_part_26 (Nat.le_of_ble_eq_true rfl) rfl rfl rfl ?_
      refine Ex_iload_n 29 (i := 3) dX5_part_28 rfl rfl rfl ?_
      refine Ex_if_ne 32 50 dX5_part_29 (by decide) rfl (fun c1 => ?_) (fun c1 => absurd c1 (by decide))
      refine Ex_iload_n 51 (i := 2) dX5_part_50 rfl rfl rfl ?_
      refine Ex_iconst 52 (v := 5) dX5_part_51 (by decide) rfl ?_
      refine Ex_icmp_lt 55 61 dX5_part_52 (by decide) rfl (fun c2 => absurd c2 (fun q => absurd ((nI_ltI (b := 5) (by omega) (by omega)).mp q) (by omega))) (fun c2 => ?_)
      refine Ex_aload_n 56 (i := 0) dX5_part_55 rfl rfl rfl ?_
      refine Ex_iconst 57 (v := 5) dX5_part_56 (by decide) rfl ?_
      refine Ex_callV (M' := MX5_fail) 60 [.int 5] (rest := []) dX5_part_57 lX5_61 mX5_fail rfl ha.1 rfl (Nat.le_of_ble_eq_true rfl) (Nat.le_of_ble_eq_true rfl) rfl ?_
      refine c_fail (k := 5) ha hC ?_
      simp only [Option.toList, List.nil_append, List.cons_append]
      refine Ex_iret dX5_part_60 rfl (by decide) (Or.inl rfl) ?_
      exact hfl 5 (by omega) (by omega) eM
    have eM : hmLm (t :: r) true lv cs = hmLm r true ((2, false) :: lv) (cs ++ [28]) := by rw [hmLm_t, if_neg hbad, if_neg (by omega), if_neg hk1, if_pos hk2]
    refine Ex_aload_n 1 (i := 0) dX5_part_0 rfl rfl rfl ?_
    refine Ex_getR 4 dX5_part_1 fX5_12 ha.1 rfl ha.2.2.2.1 rfl ?_
    refine Ex_bipush 6 (v := 40) dX5_part_4 (by decide) rfl ?_
    refine Ex_callV (M' := MX7_isSign) 9 [.int 40] (rest := []) dX5_part_6 lX5_68 mX7_isSign rfl ha.2.1 rfl (Nat.le_of_ble_eq_true rfl) (Nat.le_of_ble_eq_true rfl) rfl ?_
    refine c_isSign (xR_t ha) hC.2 (c := 40) (by decide) ?_
    simp only [Option.toList, List.cons_append, List.nil_append]
    rw [e40]
    refine Ex_istore_n 10 (i := 3) (ls' := [some (.ref a), some (.ref la), some (.int (nI dp)), some (.int 1), none, none, none]) dX5_part_9 rfl (Nat.le_of_ble_eq_true rfl) rfl rfl rfl ?_
    refine Ex_aload_n 11 (i := 0) dX5_part_10 rfl rfl rfl ?_
    refine Ex_getR 14 dX5_part_11 fX5_12 ha.1 rfl ha.2.2.2.1 rfl ?_
    refine Ex_ldc2 17 (v := 7237492) dX5_part_14 kX5_145 rfl ?_
    refine Ex_callV (M' := MX7_isWord) 20 [.long 7237492] (rest := []) dX5_part_17 lX5_57 mX7_isWord rfl ha.2.1 rfl (Nat.le_of_ble_eq_true rfl) (Nat.le_of_ble_eq_true rfl) rfl ?_
    refine c_isWord (xR_t ha) hC.2 (l := wNot) (by decide +kernel) (by unfold hmWd; decide) ?_
    simp only [Option.toList, List.cons_append, List.nil_append]
    rw [eno]
    refine Ex_istore 22 (ls' := [some (.ref a), some (.ref la), some (.int (nI dp)), some (.int 1), some (.int 0), none, none]) dX5_part_20 (Nat.le_of_ble_eq_true rfl) rfl rfl rfl ?_
    refine Ex_aload_n 23 (i := 0) dX5_part_22 rfl rfl rfl ?_
    refine Ex_callV (M' := MX5_givenPart) 26 [] (rest := []) dX5_part_23 lX5_218 mX5_givenPart rfl ha.1 rfl (Nat.le_of_ble_eq_true rfl) (Nat.le_of_ble_eq_true rfl) rfl ?_
    refine c_givenPart ha hC ?_
    simp only [Option.toList, List.cons_append, List.nil_append]
    refine Ex_istore 28 (ls' := [some (.ref a), some (.ref la), some (.int (nI dp)), some (.int 1), some (.int 0), some (.int (hmGv t)), none]) dX5_part_26 (Nat.le_of_ble_eq_true rfl) rfl rfl rfl ?_
    refine Ex_iload_n 29 (i := 3) dX5_part_28 rfl rfl rfl ?_
    refine Ex_if_ne 32 50 dX5_part_29 (by decide) rfl (fun c1 => ?_) (fun c1 => absurd c1 (by decide))
    refine Ex_iload_n 51 (i := 2) dX5_part_50 rfl rfl rfl ?_
    refine Ex_iconst 52 (v := 5) dX5_part_51 (by decide) rfl ?_
    refine Ex_icmp_lt 55 61 dX5_part_52 (by decide) rfl (fun c2 => ?_) (fun c2 => absurd c2 (fun q => q ((nI_ltI (b := 5) (by omega) (by omega)).mpr (by omega))))
    refine Ex_aload_n 62 (i := 0) dX5_part_61 rfl rfl rfl ?_
    refine Ex_getR 65 dX5_part_62 fX5_12 ha.1 rfl ha.2.2.2.1 rfl ?_
    refine Ex_callV (M' := MX7_step) 68 [] (rest := []) dX5_part_65 lX5_65 mX7_step rfl ha.2.1 rfl (Nat.le_of_ble_eq_true rfl) (Nat.le_of_ble_eq_true rfl) rfl ?_
    refine c_rstep ha hc hC ht0 (fun t2 r2 I2 L2 er2 gs2 gt2 hC2 => ?_)
    simp only [Option.toList, List.nil_append, List.cons_append]
    subst er2
    have z2 : (t :: t2 :: r2).length = (t2 :: r2).length + 1 := rfl
    have y2 : 1 ≤ (t2 :: r2).length := by simp
    refine Ex_iload_n 69 (i := 3) dX5_part_68 rfl rfl rfl ?_
    refine Ex_if_eq 72 98 dX5_part_69 (by decide) rfl (fun c3 => absurd c3 (by decide)) (fun c3 => ?_)
    refine Ex_aload_n 73 (i := 0) dX5_part_72 rfl rfl rfl ?_
    refine Ex_aload_n 74 (i := 1) dX5_part_73 rfl rfl rfl ?_
    refine Ex_iload_n 75 (i := 2) dX5_part_74 rfl rfl rfl ?_
    refine Ex_iconst 76 (v := 1) dX5_part_75 (by decide) rfl ?_
    refine Ex_iadd 77 dX5_part_76 rfl ?_
    rw [nI_1]
    refine Ex_callV (M' := MX5_wholeTest) 80 [.ref la, .int (nI (dp + 1))] (rest := []) dX5_part_77 lX5_99 mX5_wholeTest rfl ha.1 rfl (Nat.le_of_ble_eq_true rfl) (Nat.le_of_ble_eq_true rfl) rfl ?_
    refine Ex_d (d' := d + 5 * (5 - (dp + 1)) + 14) (by omega) (hw (dp + 1) t2 r2 ((2, false) :: lv) (cs ++ [28]) (lw) I2 L2 _ d (by omega) (by omega) hC2 (hL.kept (gs2.1 _ (by omega)) (gs2.1 _ (by omega))) (by omega) (by rw [List.length_cons]; omega) ⟨rfl, rfl⟩ (fun F3 I3 L3 e3 fa3 fb3 g3 gl3 k3 q3 => ?_) (fun t3 r3 lv3 ci3 cp3 I3 L3 e3 po3 g3 gl3 hC3 hL3 l3 m3 n3 => ?_))
    · simp only [Option.toList, List.nil_append, List.cons_append]
      refine Ex_if_eq 83 96 dX5_part_80 (by decide) rfl (fun c4 => ?_) (fun c4 => absurd c4 (fun q => q (by decide)))
      refine Ex_iconst 97 (v := 0) dX5_part_96 (by decide) rfl ?_
      refine Ex_iret dX5_part_97 rfl (by decide) (Or.inl rfl) ?_
      have hre : hmLm (t :: t2 :: r2) true lv cs = .inl F3 := by rw [eM]; exact e3
      exact hF F3 I3 L3 hre fa3 fb3 ((hmLr.sp gs2).tr g3) (gt2.tr gl3) k3 q3
    · simp only [Option.toList, List.nil_append, List.cons_append]
      have y3 : 1 ≤ (t3 :: r3).length := by simp
      obtain ⟨⟨b3, hlx, hb38⟩, po4, po5⟩ := po3
      have hlx2 : lv3 = (2, b3) :: lv := hlx
      rw [hlx2] at e3
      have kc := hm_kS (t := t3) hC3.2.2.2.2.2.2.1 (c := 41) (k := 3) (by decide) (by decide)
      have sp3 := hC3.2.2.2.2.2.2.2
      have hcm3 : ¬ ((hmKd t3 = 8 ∨ hmKd t3 = 9) ∧ hmCm1 ((2, b3) :: lv) = false) := fun q => by
        have q2 : b3 = false := q.2
        rw [hb38 q.1] at q2
        exact absurd q2 (by decide)
      refine Ex_if_eq 83 96 dX5_part_80 (by decide) rfl (fun c5 => absurd c5 (by decide)) (fun c5 => ?_)
      refine Ex_aload_n 84 (i := 0) dX5_part_83 rfl rfl rfl ?_
      refine Ex_bipush 86 (v := 41) dX5_part_84 (by decide) rfl ?_
      refine Ex_callV (M' := MX5_passSign) 89 [.int 41] (rest := []) dX5_part_86 lX5_103 mX5_passSign rfl ha.1 rfl (Nat.le_of_ble_eq_true rfl) (Nat.le_of_ble_eq_true rfl) rfl ?_
      refine c_passSign (c := 41) ha hc hC3 (by decide) (fun hns => ?_) (fun hys t4 r4 I4 L4 er4 gs4 gt4 hC4 => ?_)
      · simp only [Option.toList, List.nil_append, List.cons_append]
        refine Ex_if_eq 92 96 dX5_part_89 (by decide) rfl (fun c6 => ?_) (fun c6 => absurd c6 (fun q => q (by decide)))
        refine Ex_iconst 97 (v := 0) dX5_part_96 (by decide) rfl ?_
        refine Ex_iret dX5_part_97 rfl (by decide) (Or.inl rfl) ?_
        have h3 : ¬ hmKd t3 = 3 := of_decide_eq_false (by rw [← kc]; exact hns)
        have hre : hmLm (t3 :: r3) false ((2, b3) :: lv) (cs ++ [28] ++ ci3) = .inl (hmFl 1 t3) := by
          rw [hmLm_f, if_neg (by omega), if_neg hcm3, if_neg (by omega), if_neg (fun q => h3 q.1), if_neg (fun q => by have := q.1; rw [List.length_cons] at this; omega)]
          rfl
        exact hF (hmFl 1 t3) _ L3 (by rw [eM, e3, hre]) (by unfold hmFl; omega) (by unfold hmFl; omega) (((hmLr.sp gs2).tr g3.1).tr (hmLr.tf (hmTf.up (Or.inl rfl)))) (gt2.tr gl3) (by rw [va_up_self, va_up_self]) (hL3.lq.kept (va_up_ne _ _ (by omega)))
      · simp only [Option.toList, List.nil_append, List.cons_append]
        refine Ex_if_eq 92 96 dX5_part_89 (by decide) rfl (fun c7 => absurd c7 (by decide)) (fun c7 => ?_)
        refine Ex_iconst 93 (v := 1) dX5_part_92 (by decide) rfl ?_
        refine Ex_goto 97 dX5_part_93 (by decide) ?_
        refine Ex_iret dX5_part_97 rfl (by decide) (Or.inl rfl) ?_
        have h3 : hmKd t3 = 3 := of_decide_eq_true (by rw [← kc]; exact hys)
        have hre : hmLm (t3 :: r3) false ((2, b3) :: lv) (cs ++ [28] ++ ci3) = hmLm r3 false (hmPn lv) (cs ++ [28] ++ ci3 ++ [29]) := by
          rw [hmLm_f, if_neg (by omega), if_neg (by omega), if_neg (by omega), if_pos ⟨h3, by rw [List.length_cons]; omega⟩]
          rfl
        subst er4
        have z4 : (t3 :: t4 :: r4).length = (t4 :: r4).length + 1 := rfl
        have y4 : 1 ≤ (t4 :: r4).length := by simp
        have key := hmSW_paren po4
        have a1 : cs ++ [28] ++ ci3 ++ [29] = cs ++ 28 :: (ci3 ++ [29]) := by simp
        rw [a1] at hre
        have d2 : ((28 : Int32) :: (ci3 ++ [29])).length = ci3.length + 2 := by simp
        exact hK t4 r4 (hmPn lv) (28 :: (ci3 ++ [29])) cp3 I4 L4 (by rw [eM, e3, hre]) ⟨rfl, key⟩ (((hmLo.sp gs2).tr g3).tr (hmLo.sp gs4)) ((gt2.tr gl3).tr gt4) hC4 (hL3.kept (gs4.1 _ (by omega)) (gs4.1 _ (by omega))) (by omega) (by omega) (by omega)
  have hkv : 12 ≤ hmKd t := by omega
  have e40 : hmB (hmIsS t 40) = 0 := by rw [k2, hmB_0]; exact decide_eq_false (by omega)
  have eno : hmB (hmIsW t wNot) = 0 := by rw [k1, hmB_0]; exact decide_eq_false (by omega)
  by_cases h5 : dp = 5
  · have eM : hmLm (t :: r) true lv cs = .inl (5 + 16 * t.2.2) := by rw [hmLm_t, if_neg hbad, if_pos (by omega)]
    refine Ex_aload_n 1 (i := 0) dX5_part_0 rfl rfl rfl ?_
    refine Ex_getR 4 dX5_part_1 fX5_12 ha.1 rfl ha.2.2.2.1 rfl ?_
    refine Ex_bipush 6 (v := 40) dX5_part_4 (by decide) rfl ?_
    refine Ex_callV (M' := MX7_isSign) 9 [.int 40] (rest := []) dX5_part_6 lX5_68 mX7_isSign rfl ha.2.1 rfl (Nat.le_of_ble_eq_true rfl) (Nat.le_of_ble_eq_true rfl) rfl ?_
    refine c_isSign (xR_t ha) hC.2 (c := 40) (by decide) ?_
    simp only [Option.toList, List.cons_append, List.nil_append]
    rw [e40]
    refine Ex_istore_n 10 (i := 3) (ls' := [some (.ref a), some (.ref la), some (.int (nI dp)), some (.int 0), none, none, none]) dX5_part_9 rfl (Nat.le_of_ble_eq_true rfl) rfl rfl rfl ?_
    refine Ex_aload_n 11 (i := 0) dX5_part_10 rfl rfl rfl ?_
    refine Ex_getR 14 dX5_part_11 fX5_12 ha.1 rfl ha.2.2.2.1 rfl ?_
    refine Ex_ldc2 17 (v := 7237492) dX5_part_14 kX5_145 rfl ?_
    refine Ex_callV (M' := MX7_isWord) 20 [.long 7237492] (rest := []) dX5_part_17 lX5_57 mX7_isWord rfl ha.2.1 rfl (Nat.le_of_ble_eq_true rfl) (Nat.le_of_ble_eq_true rfl) rfl ?_
    refine c_isWord (xR_t ha) hC.2 (l := wNot) (by decide +kernel) (by unfold hmWd; decide) ?_
    simp only [Option.toList, List.cons_append, List.nil_append]
    rw [eno]
    refine Ex_istore 22 (ls' := [some (.ref a), some (.ref la), some (.int (nI dp)), some (.int 0), some (.int 0), none, none]) dX5_part_20 (Nat.le_of_ble_eq_true rfl) rfl rfl rfl ?_
    refine Ex_aload_n 23 (i := 0) dX5_part_22 rfl rfl rfl ?_
    refine Ex_callV (M' := MX5_givenPart) 26 [] (rest := []) dX5_part_23 lX5_218 mX5_givenPart rfl ha.1 rfl (Nat.le_of_ble_eq_true rfl) (Nat.le_of_ble_eq_true rfl) rfl ?_
    refine c_givenPart ha hC ?_
    simp only [Option.toList, List.cons_append, List.nil_append]
    refine Ex_istore 28 (ls' := [some (.ref a), some (.ref la), some (.int (nI dp)), some (.int 0), some (.int 0), some (.int (hmGv t)), none]) dX5_part_26 (Nat.le_of_ble_eq_true rfl) rfl rfl rfl ?_
    refine Ex_iload_n 29 (i := 3) dX5_part_28 rfl rfl rfl ?_
    refine Ex_if_ne 32 50 dX5_part_29 (by decide) rfl (fun c1 => absurd c1 (fun q => q (by decide))) (fun c1 => ?_)
    refine Ex_iload 34 dX5_part_32 rfl rfl ?_
    refine Ex_if_ne 37 50 dX5_part_34 (by decide) rfl (fun c2 => absurd c2 (fun q => q (by decide))) (fun c2 => ?_)
    refine Ex_iload 39 dX5_part_37 rfl rfl ?_
    refine Ex_bipush 41 (v := (-13)) dX5_part_39 (by decide) rfl ?_
    refine Ex_icmp_ne 44 50 dX5_part_41 (by decide) rfl (fun c3 => ?_) (fun c3 => absurd c3 (egn hkv))
    refine Ex_iload_n 51 (i := 2) dX5_part_50 rfl rfl rfl ?_
    refine Ex_iconst 52 (v := 5) dX5_part_51 (by decide) rfl ?_
    refine Ex_icmp_lt 55 61 dX5_part_52 (by decide) rfl (fun c4 => absurd c4 (fun q => absurd ((nI_ltI (b := 5) (by omega) (by omega)).mp q) (by omega))) (fun c4 => ?_)
    refine Ex_aload_n 56 (i := 0) dX5_part_55 rfl rfl rfl ?_
    refine Ex_iconst 57 (v := 5) dX5_part_56 (by decide) rfl ?_
    refine Ex_callV (M' := MX5_fail) 60 [.int 5] (rest := []) dX5_part_57 lX5_61 mX5_fail rfl ha.1 rfl (Nat.le_of_ble_eq_true rfl) (Nat.le_of_ble_eq_true rfl) rfl ?_
    refine c_fail (k := 5) ha hC ?_
    simp only [Option.toList, List.nil_append, List.cons_append]
    refine Ex_iret dX5_part_60 rfl (by decide) (Or.inl rfl) ?_
    exact hfl 5 (by omega) (by omega) eM
  have eM : hmLm (t :: r) true lv cs = hmLm r false (hmPn lv) (cs ++ [hmVc (hmKd t)]) := by rw [hmLm_t, if_neg hbad, if_neg (by omega), if_neg hk1, if_neg hk2]
  have egv : hmGv t = hmVp (hmKd t) := by unfold hmGv; rw [if_pos hkv]
  refine Ex_aload_n 1 (i := 0) dX5_part_0 rfl rfl rfl ?_
  refine Ex_getR 4 dX5_part_1 fX5_12 ha.1 rfl ha.2.2.2.1 rfl ?_
  refine Ex_bipush 6 (v := 40) dX5_part_4 (by decide) rfl ?_
  refine Ex_callV (M' := MX7_isSign) 9 [.int 40] (rest := []) dX5_part_6 lX5_68 mX7_isSign rfl ha.2.1 rfl (Nat.le_of_ble_eq_true rfl) (Nat.le_of_ble_eq_true rfl) rfl ?_
  refine c_isSign (xR_t ha) hC.2 (c := 40) (by decide) ?_
  simp only [Option.toList, List.cons_append, List.nil_append]
  rw [e40]
  refine Ex_istore_n 10 (i := 3) (ls' := [some (.ref a), some (.ref la), some (.int (nI dp)), some (.int 0), none, none, none]) dX5_part_9 rfl (Nat.le_of_ble_eq_true rfl) rfl rfl rfl ?_
  refine Ex_aload_n 11 (i := 0) dX5_part_10 rfl rfl rfl ?_
  refine Ex_getR 14 dX5_part_11 fX5_12 ha.1 rfl ha.2.2.2.1 rfl ?_
  refine Ex_ldc2 17 (v := 7237492) dX5_part_14 kX5_145 rfl ?_
  refine Ex_callV (M' := MX7_isWord) 20 [.long 7237492] (rest := []) dX5_part_17 lX5_57 mX7_isWord rfl ha.2.1 rfl (Nat.le_of_ble_eq_true rfl) (Nat.le_of_ble_eq_true rfl) rfl ?_
  refine c_isWord (xR_t ha) hC.2 (l := wNot) (by decide +kernel) (by unfold hmWd; decide) ?_
  simp only [Option.toList, List.cons_append, List.nil_append]
  rw [eno]
  refine Ex_istore 22 (ls' := [some (.ref a), some (.ref la), some (.int (nI dp)), some (.int 0), some (.int 0), none, none]) dX5_part_20 (Nat.le_of_ble_eq_true rfl) rfl rfl rfl ?_
  refine Ex_aload_n 23 (i := 0) dX5_part_22 rfl rfl rfl ?_
  refine Ex_callV (M' := MX5_givenPart) 26 [] (rest := []) dX5_part_23 lX5_218 mX5_givenPart rfl ha.1 rfl (Nat.le_of_ble_eq_true rfl) (Nat.le_of_ble_eq_true rfl) rfl ?_
  refine c_givenPart ha hC ?_
  simp only [Option.toList, List.cons_append, List.nil_append]
  refine Ex_istore 28 (ls' := [some (.ref a), some (.ref la), some (.int (nI dp)), some (.int 0), some (.int 0), some (.int (hmGv t)), none]) dX5_part_26 (Nat.le_of_ble_eq_true rfl) rfl rfl rfl ?_
  refine Ex_iload_n 29 (i := 3) dX5_part_28 rfl rfl rfl ?_
  refine Ex_if_ne 32 50 dX5_part_29 (by decide) rfl (fun c1 => absurd c1 (fun q => q (by decide))) (fun c1 => ?_)
  refine Ex_iload 34 dX5_part_32 rfl rfl ?_
  refine Ex_if_ne 37 50 dX5_part_34 (by decide) rfl (fun c2 => absurd c2 (fun q => q (by decide))) (fun c2 => ?_)
  refine Ex_iload 39 dX5_part_37 rfl rfl ?_
  refine Ex_bipush 41 (v := (-13)) dX5_part_39 (by decide) rfl ?_
  refine Ex_icmp_ne 44 50 dX5_part_41 (by decide) rfl (fun c3 => ?_) (fun c3 => absurd c3 (egn hkv))
  refine Ex_iload_n 51 (i := 2) dX5_part_50 rfl rfl rfl ?_
  refine Ex_iconst 52 (v := 5) dX5_part_51 (by decide) rfl ?_
  refine Ex_icmp_lt 55 61 dX5_part_52 (by decide) rfl (fun c4 => ?_) (fun c4 => absurd c4 (fun q => q ((nI_ltI (b := 5) (by omega) (by omega)).mpr (by omega))))
  refine Ex_aload_n 62 (i := 0) dX5_part_61 rfl rfl rfl ?_
  refine Ex_getR 65 dX5_part_62 fX5_12 ha.1 rfl ha.2.2.2.1 rfl ?_
  refine Ex_callV (M' := MX7_step) 68 [] (rest := []) dX5_part_65 lX5_65 mX7_step rfl ha.2.1 rfl (Nat.le_of_ble_eq_true rfl) (Nat.le_of_ble_eq_true rfl) rfl ?_
  refine c_rstep ha hc hC ht0 (fun t2 r2 I2 L2 er2 gs2 gt2 hC2 => ?_)
  simp only [Option.toList, List.nil_append, List.cons_append]
  subst er2
  have z2 : (t :: t2 :: r2).length = (t2 :: r2).length + 1 := rfl
  have y2 : 1 ≤ (t2 :: r2).length := by simp
  refine Ex_iload_n 69 (i := 3) dX5_part_68 rfl rfl rfl ?_
  refine Ex_if_eq 72 98 dX5_part_69 (by decide) rfl (fun c5 => ?_) (fun c5 => absurd c5 (fun q => q (by decide)))
  refine Ex_iload 100 dX5_part_98 rfl rfl ?_
  refine Ex_if_eq 103 114 dX5_part_100 (by decide) rfl (fun c6 => ?_) (fun c6 => absurd c6 (fun q => q (by decide)))
  refine Ex_iconst 115 (v := 1) dX5_part_114 (by decide) rfl ?_
  refine Ex_goto 119 dX5_part_115 (by decide) ?_
  refine Ex_istore 121 (ls' := [some (.ref a), some (.ref la), some (.int (nI dp)), some (.int 0), some (.int 0), some (.int (hmGv t)), some (.int 1)]) dX5_part_119 (Nat.le_of_ble_eq_true rfl) rfl rfl rfl ?_
  refine Ex_aload_n 122 (i := 1) dX5_part_121 rfl rfl rfl ?_
  refine Ex_iload 124 dX5_part_122 rfl rfl ?_
  refine Ex_if_eq 127 132 dX5_part_124 (by decide) rfl (fun c7 => ?_) (fun c7 => absurd c7 (fun q => q (by decide)))
  refine Ex_iload 134 dX5_part_132 rfl rfl ?_
  refine Ex_callV (M' := MX2_add) 137 [.int (hmGv t)] (rest := []) dX5_part_134 lX5_206 mX2_add rfl hla.1 rfl (Nat.le_of_ble_eq_true rfl) (Nat.le_of_ble_eq_true rfl) rfl ?_
  have hn3 : lw.length < 1000 := by omega
  have hL2 := hL.kept (J := I2) (gs2.1 _ (by omega)) (gs2.1 _ (by omega))
  have hadd4 := hmLs.add (x := hmGv t) hL2 hn3
  refine c_lawAdd hla hL2.2.1 hn3 ?_
  simp only [Option.toList, List.nil_append, List.cons_append]
  refine Ex_iload 139 dX5_part_137 rfl rfl ?_
  refine Ex_iret dX5_part_139 rfl (by decide) (Or.inl rfl) ?_
  rw [egv] at hadd4
  have d1 : (lw ++ [hmVp (hmKd t)]).length = lw.length + 1 := by rw [List.length_append]; rfl
  have d2 : [hmVc (hmKd t)].length = 1 := rfl
  rw [egv]
  exact hK t2 r2 (hmPn lv) [hmVc (hmKd t)] [hmVp (hmKd t)] _ L2 eM ⟨rfl, hmSP_val (by omega) hkv hkM⟩ ((hmLo.sp gs2).tr (hmLo.ad hd (fun x p q => by rw [va_up_ne _ _ p, va_up_ne _ _ q]))) gt2 (hC2.kept (by rw [va_up_ne _ _ (by omega), va_up_ne _ _ (by omega)]) (by rw [va_up_ne _ _ (by omega), va_up_ne _ _ (by omega)]) rfl) hadd4 (by omega) (by omega) (by omega)
set_option maxHeartbeats 4000000 in
theorem c_part_all {sh : xSh} {R : xR} {a la : Nat} {T : List Nat} (ha : xReader sh R a) (hla : xLaw sh R la) (hd : a + 3 ≤ la ∨ la + 3 ≤ a) (hc : ∀ x, x ∈ T → x < 127) : ∀ n, cp_part sh R a la T n := by
  intro n
  induction n with
  | zero =>
    intro dp t r lv cs lw I L Q d hn
    simp at hn
  | succ n ih =>
    exact c_part_of ha hla hd hc ih (c_wholeTest_of ha hla hd hc (c_test_of ha hla hd hc (c_sum_of ha hla hd hc (c_product_of ha hla hd hc ih))))
set_option maxHeartbeats 4000000 in
theorem c_whole_all {sh : xSh} {R : xR} {a la : Nat} {T : List Nat} (ha : xReader sh R a) (hla : xLaw sh R la) (hd : a + 3 ≤ la ∨ la + 3 ≤ a) (hc : ∀ x, x ∈ T → x < 127) (n : Nat) : cp_wholeTest sh R a la T n := by
  exact c_wholeTest_of ha hla hd hc (c_test_of ha hla hd hc (c_sum_of ha hla hd hc (c_product_of ha hla hd hc (c_part_all ha hla hd hc n))))
