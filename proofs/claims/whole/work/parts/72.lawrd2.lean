theorem hmPn_len : ∀ lv : hmLv, (hmPn lv).length ≤ lv.length := by
  intro lv
  induction lv with
  | nil => exact Nat.le_refl _
  | cons x r ih =>
    obtain ⟨x, c⟩ := x
    unfold hmPn
    split
    · rw [List.length_cons]
      omega
    · exact Nat.le_refl _
theorem hmPn_ne {x : Nat} {c : Bool} {r : hmLv} (h : hmPn ((x, c) :: r) = (x, c) :: r) : ¬ x = 1 := fun q => by
  have e : hmPn ((x, c) :: r) = if x = 1 then hmPn r else (x, c) :: r := rfl
  rw [e, if_pos q] at h
  have h1 := hmPn_len r
  rw [h, List.length_cons] at h1
  omega
theorem hmPn_yes {x : Nat} {c : Bool} {r : hmLv} (h : ¬ x = 1) : hmPn ((x, c) :: r) = (x, c) :: r := by
  have e : hmPn ((x, c) :: r) = if x = 1 then hmPn r else (x, c) :: r := rfl
  rw [e, if_neg h]
theorem hmSc_pn {lv : hmLv} {b : Bool} (h : hmPn lv = lv) : hmPn (hmSc b lv) = hmSc b lv := by
  cases lv with
  | nil => rfl
  | cons x r =>
    obtain ⟨x, c⟩ := x
    exact hmPn_yes (hmPn_ne h)
theorem hmSc_len {lv : hmLv} {b : Bool} : (hmSc b lv).length = lv.length := by
  cases lv with
  | nil => rfl
  | cons x r => rfl
theorem hmSc_sc {lv : hmLv} {b c : Bool} : hmSc b (hmSc c lv) = hmSc b lv := by
  cases lv with
  | nil => rfl
  | cons x r => rfl
theorem hmSc_cm {lv : hmLv} {b : Bool} (h : 1 ≤ lv.length) : hmCm1 (hmSc b lv) = b := by
  cases lv with
  | nil => exact absurd h (by simp)
  | cons x r => rfl
theorem hmSc_id {lv : hmLv} (h : hmCm1 lv = false) : hmSc false lv = lv := by
  cases lv with
  | nil => rfl
  | cons x r =>
    obtain ⟨x, c⟩ := x
    have h2 : c = false := h
    rw [h2]
    rfl
theorem hmLm_f {t : hmTok} {r : List hmTok} {lv : hmLv} {cs : List Int32} : hmLm (t :: r) false lv cs = if hmKd t = 5 ∨ hmKd t = 6 ∨ hmKd t = 7 then hmLm r true lv (cs ++ [if hmKd t = 5 then 20 else if hmKd t = 6 then 21 else 22]) else if (hmKd t = 8 ∨ hmKd t = 9) ∧ hmCm1 lv = false then hmLm r true (hmSc true lv) (cs ++ [if hmKd t = 8 then 24 else 25]) else if hmKd t = 10 ∨ hmKd t = 11 then hmLm r true (hmSc false lv) (cs ++ [if hmKd t = 10 then 26 else 27]) else if hmKd t = 3 ∧ 1 < lv.length then hmLm r false (hmPn lv.tail) (cs ++ [29]) else if lv.length = 1 ∧ hmKd t = 4 then .inr (cs, r) else .inl (1 + 16 * t.2.2) := rfl
theorem hmLm_t {t : hmTok} {r : List hmTok} {lv : hmLv} {cs : List Int32} : hmLm (t :: r) true lv cs = if hmKd t = 0 ∨ (3 ≤ hmKd t ∧ hmKd t ≤ 11) then .inl (1 + 16 * t.2.2) else if lv.length = 6 then .inl (5 + 16 * t.2.2) else if hmKd t = 1 then hmLm r true ((1, false) :: lv) (cs ++ [30]) else if hmKd t = 2 then hmLm r true ((2, false) :: lv) (cs ++ [28]) else hmLm r false (hmPn lv) (cs ++ [hmVc (hmKd t)]) := rfl
theorem hm_step_cmp {t : hmTok} {r : List hmTok} {lv : hmLv} {cs : List Int32} (h : hmKd t = 8 ∨ hmKd t = 9) (hc : hmCm1 lv = false) : hmLm (t :: r) false lv cs = hmLm r true (hmSc true lv) (cs ++ [if hmKd t = 8 then 24 else 25]) := by
  rw [hmLm_f, if_neg (by omega), if_pos ⟨h, hc⟩]
theorem hm_step_join {t : hmTok} {r : List hmTok} {lv : hmLv} {cs : List Int32} (h : hmKd t = 10 ∨ hmKd t = 11) : hmLm (t :: r) false lv cs = hmLm r true (hmSc false lv) (cs ++ [if hmKd t = 10 then 26 else 27]) := by
  rw [hmLm_f, if_neg (by omega), if_neg (fun q => by omega), if_pos h]
set_option maxHeartbeats 4000000 in
theorem c_test_of {sh : xSh} {R : xR} {a la : Nat} {T : List Nat} (ha : xReader sh R a) (hla : xLaw sh R la) (hd : a + 3 ≤ la ∨ la + 3 ≤ a) (hc : ∀ x, x ∈ T → x < 127) {n : Nat} (hp : cp_sum sh R a la T n) : cp_test sh R a la T n := by
  intro dp t r lv cs lw I L Q d hn hdp hC hL hlen hlv ⟨hpn, hcm⟩ hF hK
  refine Ex_aload_n 1 (i := 0) dX5_test_0 rfl rfl rfl ?_
  refine Ex_aload_n 2 (i := 1) dX5_test_1 rfl rfl rfl ?_
  refine Ex_iload_n 3 (i := 2) dX5_test_2 rfl rfl rfl ?_
  refine Ex_callV (M' := MX5_sum) 6 [.ref la, .int (nI dp)] (rest := []) dX5_test_3 lX5_209 mX5_sum rfl ha.1 rfl (Nat.le_of_ble_eq_true rfl) (Nat.le_of_ble_eq_true rfl) rfl ?_
  refine Ex_d (d' := d + 5 * (5 - dp) + 12) (by omega) (hp dp t r lv (cs) (lw) I L _ d hn hdp hC hL hlen hlv hpn (fun F1 I1 L1 e1 fa1 fb1 g1 gl1 k1 q1 => ?_) (fun t1 r1 lv1 ci1 cp1 I1 L1 e1 po1 g1 gl1 hC1 hL1 l1 m1 n1 => ?_))
  · simp only [Option.toList, List.nil_append, List.cons_append]
    refine Ex_if_ne 9 11 dX5_test_6 (by decide) rfl (fun c1 => absurd c1 (fun q => q (by decide))) (fun c1 => ?_)
    refine Ex_iconst 10 (v := 0) dX5_test_9 (by decide) rfl ?_
    refine Ex_iret dX5_test_10 rfl (by decide) (Or.inl rfl) ?_
    exact hF F1 I1 L1 e1 fa1 fb1 g1 gl1 k1 q1
  · simp only [Option.toList, List.nil_append, List.cons_append]
    have sk1 := hC1.2.2.2.2.2.2.1
    have k8 := hm_kS (t := t1) sk1 (c := 60) (k := 8) (by decide) (by decide)
    have k9 := hm_kS (t := t1) sk1 (c := 61) (k := 9) (by decide) (by decide)
    obtain ⟨po0, po7⟩ := po1
    rw [po0] at e1
    refine Ex_if_ne 9 11 dX5_test_6 (by decide) rfl (fun c2 => ?_) (fun c2 => absurd c2 (by decide))
    refine Ex_aload_n 12 (i := 0) dX5_test_11 rfl rfl rfl ?_
    refine Ex_getR 15 dX5_test_12 fX5_12 ha.1 rfl ha.2.2.2.1 rfl ?_
    refine Ex_bipush 17 (v := 60) dX5_test_15 (by decide) rfl ?_
    refine Ex_callV (M' := MX7_isSign) 20 [.int 60] (rest := []) dX5_test_17 lX5_68 mX7_isSign rfl ha.2.1 rfl (Nat.le_of_ble_eq_true rfl) (Nat.le_of_ble_eq_true rfl) rfl ?_
    refine c_isSign (xR_t ha) hC1.2 (c := 60) (by decide) ?_
    simp only [Option.toList, List.cons_append, List.nil_append]
    refine Ex_if_ne 23 37 dX5_test_20 (by decide) rfl (fun c3 => ?_) (fun c3 => ?_)
    · have hk8 : hmKd t1 = 8 := of_decide_eq_true (by rw [← k8]; exact hmB_ne c3)
      have eM : hmLm (t1 :: r1) false lv (cs ++ ci1) = hmLm r1 true (hmSc true lv) (cs ++ ci1 ++ [24]) := by
        have e0 := hm_step_cmp (t := t1) (r := r1) (lv := lv) (cs := cs ++ ci1) (by omega) hcm
        rw [e0, hk8]
        rfl
      have ht0 : ¬ t1.1 = 0 := fun q => by rw [hm_k0 q] at hk8; exact absurd hk8 (by decide)
      refine Ex_aload_n 38 (i := 0) dX5_test_37 rfl rfl rfl ?_
      refine Ex_getR 41 dX5_test_38 fX5_12 ha.1 rfl ha.2.2.2.1 rfl ?_
      refine Ex_bipush 43 (v := 60) dX5_test_41 (by decide) rfl ?_
      refine Ex_callV (M' := MX7_isSign) 46 [.int 60] (rest := []) dX5_test_43 lX5_68 mX7_isSign rfl ha.2.1 rfl (Nat.le_of_ble_eq_true rfl) (Nat.le_of_ble_eq_true rfl) rfl ?_
      refine c_isSign (xR_t ha) hC1.2 (c := 60) (by decide) ?_
      simp only [Option.toList, List.cons_append, List.nil_append]
      refine Ex_if_eq 49 54 dX5_test_46 (by decide) rfl (fun c4 => absurd c4 c3) (fun c4 => ?_)
      refine Ex_bipush 51 (v := (-8)) dX5_test_49 (by decide) rfl ?_
      refine Ex_goto 56 dX5_test_51 (by decide) ?_
      refine Ex_istore_n 57 (i := 3) (ls' := [some (.ref a), some (.ref la), some (.int (nI dp)), some (.int (-8)), none]) dX5_test_56 rfl (Nat.le_of_ble_eq_true rfl) rfl rfl rfl ?_
      refine Ex_aload_n 58 (i := 0) dX5_test_57 rfl rfl rfl ?_
      refine Ex_getR 61 dX5_test_58 fX5_12 ha.1 rfl ha.2.2.2.1 rfl ?_
      refine Ex_callV (M' := MX7_step) 64 [] (rest := []) dX5_test_61 lX5_65 mX7_step rfl ha.2.1 rfl (Nat.le_of_ble_eq_true rfl) (Nat.le_of_ble_eq_true rfl) rfl ?_
      refine c_rstep ha hc hC1 ht0 (fun t2 r2 I2 L2 er2 gs2 gt2 hC2 => ?_)
      simp only [Option.toList, List.nil_append, List.cons_append]
      subst er2
      have z2 : (t1 :: t2 :: r2).length = (t2 :: r2).length + 1 := rfl
      have y2 : 1 ≤ (t2 :: r2).length := by simp
      refine Ex_aload_n 65 (i := 0) dX5_test_64 rfl rfl rfl ?_
      refine Ex_aload_n 66 (i := 1) dX5_test_65 rfl rfl rfl ?_
      refine Ex_iload_n 67 (i := 2) dX5_test_66 rfl rfl rfl ?_
      refine Ex_callV (M' := MX5_sum) 70 [.ref la, .int (nI dp)] (rest := []) dX5_test_67 lX5_209 mX5_sum rfl ha.1 rfl (Nat.le_of_ble_eq_true rfl) (Nat.le_of_ble_eq_true rfl) rfl ?_
      refine Ex_d (d' := d + 5 * (5 - dp) + 12) (by omega) (hp dp t2 r2 (hmSc true lv) (cs ++ ci1 ++ [24]) (lw ++ cp1) I2 L2 _ d (by omega) hdp hC2 (hL1.kept (gs2.1 _ (by omega)) (gs2.1 _ (by omega))) (by omega) (by rw [hmSc_len]; exact hlv) (hmSc_pn hpn) (fun F3 I3 L3 e3 fa3 fb3 g3 gl3 k3 q3 => ?_) (fun t3 r3 lv3 ci3 cp3 I3 L3 e3 po3 g3 gl3 hC3 hL3 l3 m3 n3 => ?_))
      · simp only [Option.toList, List.nil_append, List.cons_append]
        refine Ex_istore 72 (ls' := [some (.ref a), some (.ref la), some (.int (nI dp)), some (.int (-8)), some (.int 0)]) dX5_test_70 (Nat.le_of_ble_eq_true rfl) rfl rfl rfl ?_
        refine Ex_aload_n 73 (i := 1) dX5_test_72 rfl rfl rfl ?_
        refine Ex_iload_n 74 (i := 3) dX5_test_73 rfl rfl rfl ?_
        refine Ex_callV (M' := MX2_add) 77 [.int (-8)] (rest := []) dX5_test_74 lX5_206 mX2_add rfl hla.1 rfl (Nat.le_of_ble_eq_true rfl) (Nat.le_of_ble_eq_true rfl) rfl ?_
        obtain ⟨nq4, hq14, hq24⟩ := q3
        refine c_lawAddQ hla hq24 hq14 (fun J4 nr4 hr14 hr24 hr34 => ?_)
        simp only [Option.toList, List.nil_append, List.cons_append]
        refine Ex_iload 79 dX5_test_77 rfl rfl ?_
        refine Ex_iret dX5_test_79 rfl (by decide) (Or.inl rfl) ?_
        have hre : hmLm (t :: r) true lv cs = .inl F3 := by rw [e1, eM]; exact e3
        exact hF F3 J4 L3 hre fa3 fb3 (((g1.1.tr (hmLr.sp gs2)).tr g3).tr (hmLr.ad hd hr24)) ((gl1.tr gt2).tr gl3) (by rw [hr24 a (by omega) (by omega)]; exact k3) ⟨nr4, hr14, hr34⟩
      · simp only [Option.toList, List.nil_append, List.cons_append]
        have y3 : 1 ≤ (t3 :: r3).length := by simp
        have hn3 : (lw ++ cp1 ++ cp3).length < 1000 := by omega
        refine Ex_istore 72 (ls' := [some (.ref a), some (.ref la), some (.int (nI dp)), some (.int (-8)), some (.int 1)]) dX5_test_70 (Nat.le_of_ble_eq_true rfl) rfl rfl rfl ?_
        refine Ex_aload_n 73 (i := 1) dX5_test_72 rfl rfl rfl ?_
        refine Ex_iload_n 74 (i := 3) dX5_test_73 rfl rfl rfl ?_
        refine Ex_callV (M' := MX2_add) 77 [.int (-8)] (rest := []) dX5_test_74 lX5_206 mX2_add rfl hla.1 rfl (Nat.le_of_ble_eq_true rfl) (Nat.le_of_ble_eq_true rfl) rfl ?_
        have hadd4 := hmLs.add (x := (-8)) hL3 hn3
        refine c_lawAdd hla hL3.2.1 hn3 ?_
        simp only [Option.toList, List.nil_append, List.cons_append]
        refine Ex_iload 79 dX5_test_77 rfl rfl ?_
        refine Ex_iret dX5_test_79 rfl (by decide) (Or.inl rfl) ?_
        have key := hmSS_cmp (Or.inl ⟨rfl, rfl⟩) po7.1 po3.2.1
        have a1 : cs ++ ci1 ++ [24] ++ ci3 = cs ++ (ci1 ++ 24 :: ci3) := by simp
        have a2 : lw ++ cp1 ++ cp3 ++ [-8] = lw ++ (cp1 ++ cp3 ++ [-8]) := by simp
        rw [a1] at e3
        rw [a2] at hadd4
        have b1 : (lw ++ (cp1 ++ cp3 ++ [-8])).length = (lw ++ cp1 ++ cp3).length + 1 := by rw [← a2, List.length_append]; rfl
        have b2 : (ci1 ++ 24 :: ci3).length = ci1.length + (ci3.length + 1) := by rw [List.length_append]; rfl
        exact hK t3 r3 lv3 (ci1 ++ 24 :: ci3) (cp1 ++ cp3 ++ [-8]) _ L3 (by rw [e1, eM, e3]) ⟨⟨true, po3.1, fun _ => rfl⟩, key, po3.2.2⟩ (((g1.tr (hmLo.sp gs2)).tr g3).tr (hmLo.ad hd (fun x p q => by rw [va_up_ne _ _ p, va_up_ne _ _ q]))) ((gl1.tr gt2).tr gl3) (hC3.kept (by rw [va_up_ne _ _ (by omega), va_up_ne _ _ (by omega)]) (by rw [va_up_ne _ _ (by omega), va_up_ne _ _ (by omega)]) rfl) hadd4 (by omega) (by omega) (by omega)
    · refine Ex_aload_n 24 (i := 0) dX5_test_23 rfl rfl rfl ?_
      refine Ex_getR 27 dX5_test_24 fX5_12 ha.1 rfl ha.2.2.2.1 rfl ?_
      refine Ex_bipush 29 (v := 61) dX5_test_27 (by decide) rfl ?_
      refine Ex_callV (M' := MX7_isSign) 32 [.int 61] (rest := []) dX5_test_29 lX5_68 mX7_isSign rfl ha.2.1 rfl (Nat.le_of_ble_eq_true rfl) (Nat.le_of_ble_eq_true rfl) rfl ?_
      refine c_isSign (xR_t ha) hC1.2 (c := 61) (by decide) ?_
      simp only [Option.toList, List.cons_append, List.nil_append]
      refine Ex_if_ne 35 37 dX5_test_32 (by decide) rfl (fun c5 => ?_) (fun c5 => ?_)
      · have hk9 : hmKd t1 = 9 := of_decide_eq_true (by rw [← k9]; exact hmB_ne c5)
        have eM : hmLm (t1 :: r1) false lv (cs ++ ci1) = hmLm r1 true (hmSc true lv) (cs ++ ci1 ++ [25]) := by
          have e0 := hm_step_cmp (t := t1) (r := r1) (lv := lv) (cs := cs ++ ci1) (by omega) hcm
          rw [e0, hk9]
          rfl
        have ht0 : ¬ t1.1 = 0 := fun q => by rw [hm_k0 q] at hk9; exact absurd hk9 (by decide)
        refine Ex_aload_n 38 (i := 0) dX5_test_37 rfl rfl rfl ?_
        refine Ex_getR 41 dX5_test_38 fX5_12 ha.1 rfl ha.2.2.2.1 rfl ?_
        refine Ex_bipush 43 (v := 60) dX5_test_41 (by decide) rfl ?_
        refine Ex_callV (M' := MX7_isSign) 46 [.int 60] (rest := []) dX5_test_43 lX5_68 mX7_isSign rfl ha.2.1 rfl (Nat.le_of_ble_eq_true rfl) (Nat.le_of_ble_eq_true rfl) rfl ?_
        refine c_isSign (xR_t ha) hC1.2 (c := 60) (by decide) ?_
        simp only [Option.toList, List.cons_append, List.nil_append]
        refine Ex_if_eq 49 54 dX5_test_46 (by decide) rfl (fun c6 => ?_) (fun c6 => absurd c6 (fun q => q c3))
        refine Ex_bipush 56 (v := (-9)) dX5_test_54 (by decide) rfl ?_
        refine Ex_istore_n 57 (i := 3) (ls' := [some (.ref a), some (.ref la), some (.int (nI dp)), some (.int (-9)), none]) dX5_test_56 rfl (Nat.le_of_ble_eq_true rfl) rfl rfl rfl ?_
        refine Ex_aload_n 58 (i := 0) dX5_test_57 rfl rfl rfl ?_
        refine Ex_getR 61 dX5_test_58 fX5_12 ha.1 rfl ha.2.2.2.1 rfl ?_
        refine Ex_callV (M' := MX7_step) 64 [] (rest := []) dX5_test_61 lX5_65 mX7_step rfl ha.2.1 rfl (Nat.le_of_ble_eq_true rfl) (Nat.le_of_ble_eq_true rfl) rfl ?_
        refine c_rstep ha hc hC1 ht0 (fun t2 r2 I2 L2 er2 gs2 gt2 hC2 => ?_)
        simp only [Option.toList, List.nil_append, List.cons_append]
        subst er2
        have z2 : (t1 :: t2 :: r2).length = (t2 :: r2).length + 1 := rfl
        have y2 : 1 ≤ (t2 :: r2).length := by simp
        refine Ex_aload_n 65 (i := 0) dX5_test_64 rfl rfl rfl ?_
        refine Ex_aload_n 66 (i := 1) dX5_test_65 rfl rfl rfl ?_
        refine Ex_iload_n 67 (i := 2) dX5_test_66 rfl rfl rfl ?_
        refine Ex_callV (M' := MX5_sum) 70 [.ref la, .int (nI dp)] (rest := []) dX5_test_67 lX5_209 mX5_sum rfl ha.1 rfl (Nat.le_of_ble_eq_true rfl) (Nat.le_of_ble_eq_true rfl) rfl ?_
        refine Ex_d (d' := d + 5 * (5 - dp) + 12) (by omega) (hp dp t2 r2 (hmSc true lv) (cs ++ ci1 ++ [25]) (lw ++ cp1) I2 L2 _ d (by omega) hdp hC2 (hL1.kept (gs2.1 _ (by omega)) (gs2.1 _ (by omega))) (by omega) (by rw [hmSc_len]; exact hlv) (hmSc_pn hpn) (fun F3 I3 L3 e3 fa3 fb3 g3 gl3 k3 q3 => ?_) (fun t3 r3 lv3 ci3 cp3 I3 L3 e3 po3 g3 gl3 hC3 hL3 l3 m3 n3 => ?_))
        · simp only [Option.toList, List.nil_append, List.cons_append]
          refine Ex_istore 72 (ls' := [some (.ref a), some (.ref la), some (.int (nI dp)), some (.int (-9)), some (.int 0)]) dX5_test_70 (Nat.le_of_ble_eq_true rfl) rfl rfl rfl ?_
          refine Ex_aload_n 73 (i := 1) dX5_test_72 rfl rfl rfl ?_
          refine Ex_iload_n 74 (i := 3) dX5_test_73 rfl rfl rfl ?_
          refine Ex_callV (M' := MX2_add) 77 [.int (-9)] (rest := []) dX5_test_74 lX5_206 mX2_add rfl hla.1 rfl (Nat.le_of_ble_eq_true rfl) (Nat.le_of_ble_eq_true rfl) rfl ?_
          obtain ⟨nq4, hq14, hq24⟩ := q3
          refine c_lawAddQ hla hq24 hq14 (fun J4 nr4 hr14 hr24 hr34 => ?_)
          simp only [Option.toList, List.nil_append, List.cons_append]
          refine Ex_iload 79 dX5_test_77 rfl rfl ?_
          refine Ex_iret dX5_test_79 rfl (by decide) (Or.inl rfl) ?_
          have hre : hmLm (t :: r) true lv cs = .inl F3 := by rw [e1, eM]; exact e3
          exact hF F3 J4 L3 hre fa3 fb3 (((g1.1.tr (hmLr.sp gs2)).tr g3).tr (hmLr.ad hd hr24)) ((gl1.tr gt2).tr gl3) (by rw [hr24 a (by omega) (by omega)]; exact k3) ⟨nr4, hr14, hr34⟩
        · simp only [Option.toList, List.nil_append, List.cons_append]
          have y3 : 1 ≤ (t3 :: r3).length := by simp
          have hn3 : (lw ++ cp1 ++ cp3).length < 1000 := by omega
          refine Ex_istore 72 (ls' := [some (.ref a), some (.ref la), some (.int (nI dp)), some (.int (-9)), some (.int 1)]) dX5_test_70 (Nat.le_of_ble_eq_true rfl) rfl rfl rfl ?_
          refine Ex_aload_n 73 (i := 1) dX5_test_72 rfl rfl rfl ?_
          refine Ex_iload_n 74 (i := 3) dX5_test_73 rfl rfl rfl ?_
          refine Ex_callV (M' := MX2_add) 77 [.int (-9)] (rest := []) dX5_test_74 lX5_206 mX2_add rfl hla.1 rfl (Nat.le_of_ble_eq_true rfl) (Nat.le_of_ble_eq_true rfl) rfl ?_
          have hadd4 := hmLs.add (x := (-9)) hL3 hn3
          refine c_lawAdd hla hL3.2.1 hn3 ?_
          simp only [Option.toList, List.nil_append, List.cons_append]
          refine Ex_iload 79 dX5_test_77 rfl rfl ?_
          refine Ex_iret dX5_test_79 rfl (by decide) (Or.inl rfl) ?_
          have key := hmSS_cmp (Or.inr ⟨rfl, rfl⟩) po7.1 po3.2.1
          have a1 : cs ++ ci1 ++ [25] ++ ci3 = cs ++ (ci1 ++ 25 :: ci3) := by simp
          have a2 : lw ++ cp1 ++ cp3 ++ [-9] = lw ++ (cp1 ++ cp3 ++ [-9]) := by simp
          rw [a1] at e3
          rw [a2] at hadd4
          have b1 : (lw ++ (cp1 ++ cp3 ++ [-9])).length = (lw ++ cp1 ++ cp3).length + 1 := by rw [← a2, List.length_append]; rfl
          have b2 : (ci1 ++ 25 :: ci3).length = ci1.length + (ci3.length + 1) := by rw [List.length_append]; rfl
          exact hK t3 r3 lv3 (ci1 ++ 25 :: ci3) (cp1 ++ cp3 ++ [-9]) _ L3 (by rw [e1, eM, e3]) ⟨⟨true, po3.1, fun _ => rfl⟩, key, po3.2.2⟩ (((g1.tr (hmLo.sp gs2)).tr g3).tr (hmLo.ad hd (fun x p q => by rw [va_up_ne _ _ p, va_up_ne _ _ q]))) ((gl1.tr gt2).tr gl3) (hC3.kept (by rw [va_up_ne _ _ (by omega), va_up_ne _ _ (by omega)]) (by rw [va_up_ne _ _ (by omega), va_up_ne _ _ (by omega)]) rfl) hadd4 (by omega) (by omega) (by omega)
      · refine Ex_iconst 36 (v := 1) dX5_test_35 (by decide) rfl ?_
        refine Ex_iret dX5_test_36 rfl (by decide) (Or.inl rfl) ?_
        have hn8 : ¬ hmKd t1 = 8 := of_decide_eq_false (by rw [← k8]; exact hmB_eq c3)
        have hn9 : ¬ hmKd t1 = 9 := of_decide_eq_false (by rw [← k9]; exact hmB_eq c5)
        exact hK t1 r1 lv ci1 cp1 I1 L1 e1 ⟨⟨false, (hmSc_id hcm).symm, fun q => absurd q (by omega)⟩, hmSS_ST po7.1, po7.2⟩ g1 gl1 hC1 hL1 l1 m1 n1
set_option maxHeartbeats 4000000 in
theorem c_wholeTest_loop {sh : xSh} {R : xR} {a la : Nat} {T : List Nat} (ha : xReader sh R a) (hla : xLaw sh R la) (hd : a + 3 ≤ la ∨ la + 3 ≤ a) (hc : ∀ x, x ∈ T → x < 127) {n : Nat} (hp : cp_test sh R a la T n) {dp : Nat} (hdp : dp ≤ 5) {lv : hmLv} (hlv : lv.length = dp + 1) (hpn : hmPn lv = lv) {cs lw : List Int32} {ts : List hmTok} (htn : ts.length ≤ n) (htl : lw.length + ts.length ≤ 1001) {I : xI} {L : xL} {Q : xQ} {d : Nat} (hF : hmFail sh R a la I L (hmLm ts true lv cs) Q) (hK : hmOkG sh R a la T I L ts lv cs lw (hmPoW dp lv) Q) : ∀ (k i : Nat) (t1 : hmTok) (r1 : List hmTok) (ci cp : List Int32) (J : xI) (LL : xL), (t1 :: r1).length ≤ k → (t1 :: r1).length < ts.length → i + (t1 :: r1).length ≤ 1000 → ∀ b1 : Bool, hmLm ts true lv cs = hmLm (t1 :: r1) false (hmSc b1 lv) (cs ++ ci) → ((hmKd t1 = 8 ∨ hmKd t1 = 9) → b1 = true) → hmSW dp ci cp → hmLo a la I J → hmSl (a + 1) L LL → hmCx J LL a T t1 r1 → hmLs J la (lw ++ cp) → (lw ++ cp).length + (t1 :: r1).length ≤ lw.length + ts.length → ci.length + (t1 :: r1).length ≤ ts.length → (¬ hmKd t1 = 7 ∧ ¬ hmKd t1 = 5 ∧ ¬ hmKd t1 = 6) → Ex (d + 5 * (5 - dp) + 14) 0 0 MX5_wholeTest 0 sh R LL J 10 [some (.ref a), some (.ref la), some (.int (nI dp)), some (.int 1), some (.int (nI i)), none] [] Q := by
  intro k
  induction k with
  | zero =>
    intro i t1 r1 ci cp J LL hk
    simp at hk
  | succ k ih =>
    intro i t1 r1 ci cp J LL hk hts hi b1 he hb8 hS gJ gL hC hL hm1 hm2 hn7
    have hl1 : 1 ≤ (t1 :: r1).length := by simp
    have sk := hC.2.2.2.2.2.2.1
    have k10 := hm_kW (t := t1) sk (l := wAnd) (k := 10) (by decide) (by decide)
    have k11 := hm_kW (t := t1) sk (l := wOr) (k := 11) (by decide) (by decide)
    refine Ex_iload 12 dX5_wholeTest_10 rfl rfl ?_
    refine Ex_sipush 15 (v := 1000) dX5_wholeTest_12 (by decide) rfl ?_
    refine Ex_icmp_ge 18 77 dX5_wholeTest_15 (by decide) rfl (fun c1 => absurd c1 (nI_ge (b := 1000) (by omega) (by omega))) (fun c1 => ?_)
    refine Ex_iload_n 19 (i := 3) dX5_wholeTest_18 rfl rfl rfl ?_
    refine Ex_if_eq 22 77 dX5_wholeTest_19 (by decide) rfl (fun c2 => absurd c2 (by decide)) (fun c2 => ?_)
    refine Ex_aload_n 23 (i := 0) dX5_wholeTest_22 rfl rfl rfl ?_
    refine Ex_callV (M' := MX5_isJoin) 26 [] (rest := []) dX5_wholeTest_23 lX5_201 mX5_isJoin rfl ha.1 rfl (Nat.le_of_ble_eq_true rfl) (Nat.le_of_ble_eq_true rfl) rfl ?_
    refine c_isJoin ha hC ?_
    simp only [Option.toList, List.cons_append, List.nil_append]
    refine Ex_if_eq 29 77 dX5_wholeTest_26 (by decide) rfl (fun c3 => ?_) (fun c3 => ?_)
    · refine Ex_iload_n 78 (i := 3) dX5_wholeTest_77 rfl rfl rfl ?_
      refine Ex_iret dX5_wholeTest_78 rfl (by decide) (Or.inl rfl) ?_
      have hnj := of_decide_eq_false (hmB_eq c3)
      exact hK t1 r1 (hmSc b1 lv) ci cp J LL he ⟨⟨b1, rfl, hb8⟩, hS, hn7.1, hn7.2.1, hn7.2.2, fun q => hnj (Or.inl q), fun q => hnj (Or.inr q)⟩ gJ gL hC hL hts hm1 hm2
    · refine Ex_aload_n 30 (i := 0) dX5_wholeTest_29 rfl rfl rfl ?_
      refine Ex_getR 33 dX5_wholeTest_30 fX5_12 ha.1 rfl ha.2.2.2.1 rfl ?_
      refine Ex_ldc2 36 (v := 6385252) dX5_wholeTest_33 kX5_147 rfl ?_
      refine Ex_callV (M' := MX7_isWord) 39 [.long 6385252] (rest := []) dX5_wholeTest_36 lX5_57 mX7_isWord rfl ha.2.1 rfl (Nat.le_of_ble_eq_true rfl) (Nat.le_of_ble_eq_true rfl) rfl ?_
      refine c_isWord (xR_t ha) hC.2 (l := wAnd) (by decide +kernel) (by unfold hmWd; decide) ?_
      simp only [Option.toList, List.cons_append, List.nil_append]
      refine Ex_if_eq 42 47 dX5_wholeTest_39 (by decide) rfl (fun c4 => ?_) (fun c4 => ?_)
      · have hk11 : hmKd t1 = 11 := by
          have q1 : ¬ hmKd t1 = 10 := of_decide_eq_false (by rw [← k10]; exact hmB_eq c4)
          have q2 := of_decide_eq_true (hmB_ne c3)
          exact q2.resolve_left q1
        have eM : hmLm (t1 :: r1) false (hmSc b1 lv) (cs ++ ci) = hmLm r1 true (hmSc false lv) (cs ++ ci ++ [27]) := by
          have e0 := hm_step_join (t := t1) (r := r1) (lv := hmSc b1 lv) (cs := cs ++ ci) (by omega)
          rw [e0, hk11, hmSc_sc]
          rfl
        have ht0 : ¬ t1.1 = 0 := fun q => by rw [hm_k0 q] at hk11; exact absurd hk11 (by decide)
        refine Ex_bipush 49 (v := (-7)) dX5_wholeTest_47 (by decide) rfl ?_
        refine Ex_istore 51 (ls' := [some (.ref a), some (.ref la), some (.int (nI dp)), some (.int 1), some (.int (nI i)), some (.int (-7))]) dX5_wholeTest_49 (Nat.le_of_ble_eq_true rfl) rfl rfl rfl ?_
        refine Ex_aload_n 52 (i := 0) dX5_wholeTest_51 rfl rfl rfl ?_
        refine Ex_getR 55 dX5_wholeTest_52 fX5_12 ha.1 rfl ha.2.2.2.1 rfl ?_
        refine Ex_callV (M' := MX7_step) 58 [] (rest := []) dX5_wholeTest_55 lX5_65 mX7_step rfl ha.2.1 rfl (Nat.le_of_ble_eq_true rfl) (Nat.le_of_ble_eq_true rfl) rfl ?_
        refine c_rstep ha hc hC ht0 (fun t2 r2 I2 L2 er2 gs2 gt2 hC2 => ?_)
        simp only [Option.toList, List.nil_append, List.cons_append]
        subst er2
        have z2 : (t1 :: t2 :: r2).length = (t2 :: r2).length + 1 := rfl
        have y2 : 1 ≤ (t2 :: r2).length := by simp
        refine Ex_aload_n 59 (i := 0) dX5_wholeTest_58 rfl rfl rfl ?_
        refine Ex_aload_n 60 (i := 1) dX5_wholeTest_59 rfl rfl rfl ?_
        refine Ex_iload_n 61 (i := 2) dX5_wholeTest_60 rfl rfl rfl ?_
        refine Ex_callV (M' := MX5_test) 64 [.ref la, .int (nI dp)] (rest := []) dX5_wholeTest_61 lX5_198 mX5_test rfl ha.1 rfl (Nat.le_of_ble_eq_true rfl) (Nat.le_of_ble_eq_true rfl) rfl ?_
        refine Ex_d (d' := d + 5 * (5 - dp) + 13) (by omega) (hp dp t2 r2 (hmSc false lv) (cs ++ ci ++ [27]) (lw ++ cp) I2 L2 _ d (by omega) hdp hC2 (hL.kept (gs2.1 _ (by omega)) (gs2.1 _ (by omega))) (by omega) (by rw [hmSc_len]; exact hlv) ⟨hmSc_pn hpn, hmSc_cm (by omega)⟩ (fun F3 I3 L3 e3 fa3 fb3 g3 gl3 k3 q3 => ?_) (fun t3 r3 lv3 ci3 cp3 I3 L3 e3 po3 g3 gl3 hC3 hL3 l3 m3 n3 => ?_))
        · simp only [Option.toList, List.nil_append, List.cons_append]
          refine Ex_istore_n 65 (i := 3) (ls' := [some (.ref a), some (.ref la), some (.int (nI dp)), some (.int 0), some (.int (nI i)), some (.int (-7))]) dX5_wholeTest_64 rfl (Nat.le_of_ble_eq_true rfl) rfl rfl rfl ?_
          refine Ex_aload_n 66 (i := 1) dX5_wholeTest_65 rfl rfl rfl ?_
          refine Ex_iload 68 dX5_wholeTest_66 rfl rfl ?_
          refine Ex_callV (M' := MX2_add) 71 [.int (-7)] (rest := []) dX5_wholeTest_68 lX5_206 mX2_add rfl hla.1 rfl (Nat.le_of_ble_eq_true rfl) (Nat.le_of_ble_eq_true rfl) rfl ?_
          obtain ⟨nq4, hq14, hq24⟩ := q3
          refine c_lawAddQ hla hq24 hq14 (fun J4 nr4 hr14 hr24 hr34 => ?_)
          simp only [Option.toList, List.nil_append, List.cons_append]
          refine Ex_iinc 74 (v := (nI (i + 1))) (ls' := [some (.ref a), some (.ref la), some (.int (nI dp)), some (.int 0), some (.int (nI (i + 1))), some (.int (-7))]) dX5_wholeTest_71 rfl (xinc _) (Nat.le_of_ble_eq_true rfl) rfl rfl rfl ?_
          refine Ex_goto 10 dX5_wholeTest_74 (by decide) ?_
          refine Ex_iload 12 dX5_wholeTest_10 rfl rfl ?_
          refine Ex_sipush 15 (v := 1000) dX5_wholeTest_12 (by decide) rfl ?_
          refine Ex_icmp_ge 18 77 dX5_wholeTest_15 (by decide) rfl (fun c5 => absurd c5 (nI_ge (b := 1000) (by omega) (by omega))) (fun c5 => ?_)
          refine Ex_iload_n 19 (i := 3) dX5_wholeTest_18 rfl rfl rfl ?_
          refine Ex_if_eq 22 77 dX5_wholeTest_19 (by decide) rfl (fun c6 => ?_) (fun c6 => absurd c6 (fun q => q (by decide)))
          refine Ex_iload_n 78 (i := 3) dX5_wholeTest_77 rfl rfl rfl ?_
          refine Ex_iret dX5_wholeTest_78 rfl (by decide) (Or.inl rfl) ?_
          have hre : hmLm ts true lv cs = .inl F3 := by rw [he, eM]; exact e3
          exact hF F3 J4 L3 hre fa3 fb3 (((gJ.1.tr (hmLr.sp gs2)).tr g3).tr (hmLr.ad hd hr24)) ((gL.tr gt2).tr gl3) (by rw [hr24 a (by omega) (by omega)]; exact k3) ⟨nr4, hr14, hr34⟩
        · simp only [Option.toList, List.nil_append, List.cons_append]
          have y3 : 1 ≤ (t3 :: r3).length := by simp
          have hn3 : (lw ++ cp ++ cp3).length < 1000 := by omega
          refine Ex_istore_n 65 (i := 3) (ls' := [some (.ref a), some (.ref la), some (.int (nI dp)), some (.int 1), some (.int (nI i)), some (.int (-7))]) dX5_wholeTest_64 rfl (Nat.le_of_ble_eq_true rfl) rfl rfl rfl ?_
          refine Ex_aload_n 66 (i := 1) dX5_wholeTest_65 rfl rfl rfl ?_
          refine Ex_iload 68 dX5_wholeTest_66 rfl rfl ?_
          refine Ex_callV (M' := MX2_add) 71 [.int (-7)] (rest := []) dX5_wholeTest_68 lX5_206 mX2_add rfl hla.1 rfl (Nat.le_of_ble_eq_true rfl) (Nat.le_of_ble_eq_true rfl) rfl ?_
          have hadd4 := hmLs.add (x := (-7)) hL3 hn3
          refine c_lawAdd hla hL3.2.1 hn3 ?_
          simp only [Option.toList, List.nil_append, List.cons_append]
          refine Ex_iinc 74 (v := (nI (i + 1))) (ls' := [some (.ref a), some (.ref la), some (.int (nI dp)), some (.int 1), some (.int (nI (i + 1))), some (.int (-7))]) dX5_wholeTest_71 rfl (xinc _) (Nat.le_of_ble_eq_true rfl) rfl rfl rfl ?_
          refine Ex_goto 10 dX5_wholeTest_74 (by decide) ?_
          refine Ex_fgt (ls' := [some (.ref a), some (.ref la), some (.int (nI dp)), some (.int 1), some (.int (nI (i + 1))), none]) (by simp [xsub]) ?_
          obtain ⟨⟨b3, hlx, hb38⟩, po4, po5⟩ := po3
          rw [hmSc_sc] at hlx
          have key := hmSW_join (Or.inr ⟨rfl, rfl⟩) hS po4
          rw [hlx] at e3
          have a1 : cs ++ ci ++ [27] ++ ci3 = cs ++ (ci ++ 27 :: ci3) := by simp
          have a2 : lw ++ cp ++ cp3 ++ [-7] = lw ++ (cp ++ cp3 ++ [-7]) := by simp
          rw [a1] at e3
          rw [a2] at hadd4
          have d1 : (lw ++ (cp ++ cp3 ++ [-7])).length = (lw ++ cp ++ cp3).length + 1 := by rw [← a2, List.length_append]; rfl
          have d2 : (ci ++ 27 :: ci3).length = ci.length + (ci3.length + 1) := by rw [List.length_append]; rfl
          exact ih (i + 1) t3 r3 (ci ++ 27 :: ci3) (cp ++ cp3 ++ [-7]) _ L3 (by omega) (by omega) (by omega) b3 (by rw [he, eM, e3]) hb38 key (((gJ.tr (hmLo.sp gs2)).tr g3).tr (hmLo.ad hd (fun x p q => by rw [va_up_ne _ _ p, va_up_ne _ _ q]))) ((gL.tr gt2).tr gl3) (hC3.kept (by rw [va_up_ne _ _ (by omega), va_up_ne _ _ (by omega)]) (by rw [va_up_ne _ _ (by omega), va_up_ne _ _ (by omega)]) rfl) hadd4 (by omega) (by omega) po5
      · have hk10 : hmKd t1 = 10 := of_decide_eq_true (by rw [← k10]; exact hmB_ne c4)
        have eM : hmLm (t1 :: r1) false (hmSc b1 lv) (cs ++ ci) = hmLm r1 true (hmSc false lv) (cs ++ ci ++ [26]) := by
          have e0 := hm_step_join (t := t1) (r := r1) (lv := hmSc b1 lv) (cs := cs ++ ci) (by omega)
          rw [e0, hk10, hmSc_sc]
          rfl
        have ht0 : ¬ t1.1 = 0 := fun q => by rw [hm_k0 q] at hk10; exact absurd hk10 (by decide)
        refine Ex_bipush 44 (v := (-6)) dX5_wholeTest_42 (by decide) rfl ?_
        refine Ex_goto 49 dX5_wholeTest_44 (by decide) ?_
        refine Ex_istore 51 (ls' := [some (.ref a), some (.ref la), some (.int (nI dp)), some (.int 1), some (.int (nI i)), some (.int (-6))]) dX5_wholeTest_49 (Nat.le_of_ble_eq_true rfl) rfl rfl rfl ?_
        refine Ex_aload_n 52 (i := 0) dX5_wholeTest_51 rfl rfl rfl ?_
        refine Ex_getR 55 dX5_wholeTest_52 fX5_12 ha.1 rfl ha.2.2.2.1 rfl ?_
        refine Ex_callV (M' := MX7_step) 58 [] (rest := []) dX5_wholeTest_55 lX5_65 mX7_step rfl ha.2.1 rfl (Nat.le_of_ble_eq_true rfl) (Nat.le_of_ble_eq_true rfl) rfl ?_
        refine c_rstep ha hc hC ht0 (fun t2 r2 I2 L2 er2 gs2 gt2 hC2 => ?_)
        simp only [Option.toList, List.nil_append, List.cons_append]
        subst er2
        have z2 : (t1 :: t2 :: r2).length = (t2 :: r2).length + 1 := rfl
        have y2 : 1 ≤ (t2 :: r2).length := by simp
        refine Ex_aload_n 59 (i := 0) dX5_wholeTest_58 rfl rfl rfl ?_
        refine Ex_aload_n 60 (i := 1) dX5_wholeTest_59 rfl rfl rfl ?_
        refine Ex_iload_n 61 (i := 2) dX5_wholeTest_60 rfl rfl rfl ?_
        refine Ex_callV (M' := MX5_test) 64 [.ref la, .int (nI dp)] (rest := []) dX5_wholeTest_61 lX5_198 mX5_test rfl ha.1 rfl (Nat.le_of_ble_eq_true rfl) (Nat.le_of_ble_eq_true rfl) rfl ?_
        refine Ex_d (d' := d + 5 * (5 - dp) + 13) (by omega) (hp dp t2 r2 (hmSc false lv) (cs ++ ci ++ [26]) (lw ++ cp) I2 L2 _ d (by omega) hdp hC2 (hL.kept (gs2.1 _ (by omega)) (gs2.1 _ (by omega))) (by omega) (by rw [hmSc_len]; exact hlv) ⟨hmSc_pn hpn, hmSc_cm (by omega)⟩ (fun F3 I3 L3 e3 fa3 fb3 g3 gl3 k3 q3 => ?_) (fun t3 r3 lv3 ci3 cp3 I3 L3 e3 po3 g3 gl3 hC3 hL3 l3 m3 n3 => ?_))
        · simp only [Option.toList, List.nil_append, List.cons_append]
          refine Ex_istore_n 65 (i := 3) (ls' := [some (.ref a), some (.ref la), some (.int (nI dp)), some (.int 0), some (.int (nI i)), some (.int (-6))]) dX5_wholeTest_64 rfl (Nat.le_of_ble_eq_true rfl) rfl rfl rfl ?_
          refine Ex_aload_n 66 (i := 1) dX5_wholeTest_65 rfl rfl rfl ?_
          refine Ex_iload 68 dX5_wholeTest_66 rfl rfl ?_
          refine Ex_callV (M' := MX2_add) 71 [.int (-6)] (rest := []) dX5_wholeTest_68 lX5_206 mX2_add rfl hla.1 rfl (Nat.le_of_ble_eq_true rfl) (Nat.le_of_ble_eq_true rfl) rfl ?_
          obtain ⟨nq4, hq14, hq24⟩ := q3
          refine c_lawAddQ hla hq24 hq14 (fun J4 nr4 hr14 hr24 hr34 => ?_)
          simp only [Option.toList, List.nil_append, List.cons_append]
          refine Ex_iinc 74 (v := (nI (i + 1))) (ls' := [some (.ref a), some (.ref la), some (.int (nI dp)), some (.int 0), some (.int (nI (i + 1))), some (.int (-6))]) dX5_wholeTest_71 rfl (xinc _) (Nat.le_of_ble_eq_true rfl) rfl rfl rfl ?_
          refine Ex_goto 10 dX5_wholeTest_74 (by decide) ?_
          refine Ex_iload 12 dX5_wholeTest_10 rfl rfl ?_
          refine Ex_sipush 15 (v := 1000) dX5_wholeTest_12 (by decide) rfl ?_
          refine Ex_icmp_ge 18 77 dX5_wholeTest_15 (by decide) rfl (fun c7 => absurd c7 (nI_ge (b := 1000) (by omega) (by omega))) (fun c7 => ?_)
          refine Ex_iload_n 19 (i := 3) dX5_wholeTest_18 rfl rfl rfl ?_
          refine Ex_if_eq 22 77 dX5_wholeTest_19 (by decide) rfl (fun c8 => ?_) (fun c8 => absurd c8 (fun q => q (by decide)))
          refine Ex_iload_n 78 (i := 3) dX5_wholeTest_77 rfl rfl rfl ?_
          refine Ex_iret dX5_wholeTest_78 rfl (by decide) (Or.inl rfl) ?_
          have hre : hmLm ts true lv cs = .inl F3 := by rw [he, eM]; exact e3
          exact hF F3 J4 L3 hre fa3 fb3 (((gJ.1.tr (hmLr.sp gs2)).tr g3).tr (hmLr.ad hd hr24)) ((gL.tr gt2).tr gl3) (by rw [hr24 a (by omega) (by omega)]; exact k3) ⟨nr4, hr14, hr34⟩
        · simp only [Option.toList, List.nil_append, List.cons_append]
          have y3 : 1 ≤ (t3 :: r3).length := by simp
          have hn3 : (lw ++ cp ++ cp3).length < 1000 := by omega
          refine Ex_istore_n 65 (i := 3) (ls' := [some (.ref a), some (.ref la), some (.int (nI dp)), some (.int 1), some (.int (nI i)), some (.int (-6))]) dX5_wholeTest_64 rfl (Nat.le_of_ble_eq_true rfl) rfl rfl rfl ?_
          refine Ex_aload_n 66 (i := 1) dX5_wholeTest_65 rfl rfl rfl ?_
          refine Ex_iload 68 dX5_wholeTest_66 rfl rfl ?_
          refine Ex_callV (M' := MX2_add) 71 [.int (-6)] (rest := []) dX5_wholeTest_68 lX5_206 mX2_add rfl hla.1 rfl (Nat.le_of_ble_eq_true rfl) (Nat.le_of_ble_eq_true rfl) rfl ?_
          have hadd4 := hmLs.add (x := (-6)) hL3 hn3
          refine c_lawAdd hla hL3.2.1 hn3 ?_
          simp only [Option.toList, List.nil_append, List.cons_append]
          refine Ex_iinc 74 (v := (nI (i + 1))) (ls' := [some (.ref a), some (.ref la), some (.int (nI dp)), some (.int 1), some (.int (nI (i + 1))), some (.int (-6))]) dX5_wholeTest_71 rfl (xinc _) (Nat.le_of_ble_eq_true rfl) rfl rfl rfl ?_
          refine Ex_goto 10 dX5_wholeTest_74 (by decide) ?_
          refine Ex_fgt (ls' := [some (.ref a), some (.ref la), some (.int (nI dp)), some (.int 1), some (.int (nI (i + 1))), none]) (by simp [xsub]) ?_
          obtain ⟨⟨b3, hlx, hb38⟩, po4, po5⟩ := po3
          rw [hmSc_sc] at hlx
          have key := hmSW_join (Or.inl ⟨rfl, rfl⟩) hS po4
          rw [hlx] at e3
          have a1 : cs ++ ci ++ [26] ++ ci3 = cs ++ (ci ++ 26 :: ci3) := by simp
          have a2 : lw ++ cp ++ cp3 ++ [-6] = lw ++ (cp ++ cp3 ++ [-6]) := by simp
          rw [a1] at e3
          rw [a2] at hadd4
          have d1 : (lw ++ (cp ++ cp3 ++ [-6])).length = (lw ++ cp ++ cp3).length + 1 := by rw [← a2, List.length_append]; rfl
          have d2 : (ci ++ 26 :: ci3).length = ci.length + (ci3.length + 1) := by rw [List.length_append]; rfl
          exact ih (i + 1) t3 r3 (ci ++ 26 :: ci3) (cp ++ cp3 ++ [-6]) _ L3 (by omega) (by omega) (by omega) b3 (by rw [he, eM, e3]) hb38 key (((gJ.tr (hmLo.sp gs2)).tr g3).tr (hmLo.ad hd (fun x p q => by rw [va_up_ne _ _ p, va_up_ne _ _ q]))) ((gL.tr gt2).tr gl3) (hC3.kept (by rw [va_up_ne _ _ (by omega), va_up_ne _ _ (by omega)]) (by rw [va_up_ne _ _ (by omega), va_up_ne _ _ (by omega)]) rfl) hadd4 (by omega) (by omega) po5
set_option maxHeartbeats 4000000 in
theorem c_wholeTest_of {sh : xSh} {R : xR} {a la : Nat} {T : List Nat} (ha : xReader sh R a) (hla : xLaw sh R la) (hd : a + 3 ≤ la ∨ la + 3 ≤ a) (hc : ∀ x, x ∈ T → x < 127) {n : Nat} (hp : cp_test sh R a la T n) : cp_wholeTest sh R a la T n := by
  intro dp t r lv cs lw I L Q d hn hdp hC hL hlen hlv ⟨hpn, hcm⟩ hF hK
  refine Ex_aload_n 1 (i := 0) dX5_wholeTest_0 rfl rfl rfl ?_
  refine Ex_aload_n 2 (i := 1) dX5_wholeTest_1 rfl rfl rfl ?_
  refine Ex_iload_n 3 (i := 2) dX5_wholeTest_2 rfl rfl rfl ?_
  refine Ex_callV (M' := MX5_test) 6 [.ref la, .int (nI dp)] (rest := []) dX5_wholeTest_3 lX5_198 mX5_test rfl ha.1 rfl (Nat.le_of_ble_eq_true rfl) (Nat.le_of_ble_eq_true rfl) rfl ?_
  refine Ex_d (d' := d + 5 * (5 - dp) + 13) (by omega) (hp dp t r lv (cs) (lw) I L _ d hn hdp hC hL hlen hlv ⟨hpn, hcm⟩ (fun F1 I1 L1 e1 fa1 fb1 g1 gl1 k1 q1 => ?_) (fun t1 r1 lv1 ci1 cp1 I1 L1 e1 po1 g1 gl1 hC1 hL1 l1 m1 n1 => ?_))
  · simp only [Option.toList, List.nil_append, List.cons_append]
    refine Ex_istore_n 7 (i := 3) (ls' := [some (.ref a), some (.ref la), some (.int (nI dp)), some (.int 0), none, none]) dX5_wholeTest_6 rfl (Nat.le_of_ble_eq_true rfl) rfl rfl rfl ?_
    refine Ex_iconst 8 (v := 0) dX5_wholeTest_7 (by decide) rfl ?_
    refine Ex_istore 10 (ls' := [some (.ref a), some (.ref la), some (.int (nI dp)), some (.int 0), some (.int 0), none]) dX5_wholeTest_8 (Nat.le_of_ble_eq_true rfl) rfl rfl rfl ?_
    refine Ex_iload 12 dX5_wholeTest_10 rfl rfl ?_
    refine Ex_sipush 15 (v := 1000) dX5_wholeTest_12 (by decide) rfl ?_
    refine Ex_icmp_ge 18 77 dX5_wholeTest_15 (by decide) rfl (fun c1 => absurd c1 (by decide)) (fun c1 => ?_)
    refine Ex_iload_n 19 (i := 3) dX5_wholeTest_18 rfl rfl rfl ?_
    refine Ex_if_eq 22 77 dX5_wholeTest_19 (by decide) rfl (fun c2 => ?_) (fun c2 => absurd c2 (fun q => q (by decide)))
    refine Ex_iload_n 78 (i := 3) dX5_wholeTest_77 rfl rfl rfl ?_
    refine Ex_iret dX5_wholeTest_78 rfl (by decide) (Or.inl rfl) ?_
    exact hF F1 I1 L1 e1 fa1 fb1 g1 gl1 k1 q1
  · simp only [Option.toList, List.nil_append, List.cons_append]
    refine Ex_istore_n 7 (i := 3) (ls' := [some (.ref a), some (.ref la), some (.int (nI dp)), some (.int 1), none, none]) dX5_wholeTest_6 rfl (Nat.le_of_ble_eq_true rfl) rfl rfl rfl ?_
    refine Ex_iconst 8 (v := 0) dX5_wholeTest_7 (by decide) rfl ?_
    refine Ex_istore 10 (ls' := [some (.ref a), some (.ref la), some (.int (nI dp)), some (.int 1), some (.int 0), none]) dX5_wholeTest_8 (Nat.le_of_ble_eq_true rfl) rfl rfl rfl ?_
    obtain ⟨⟨b1, hlx, hb8⟩, po4, po5⟩ := po1
    rw [hlx] at e1
    exact c_wholeTest_loop ha hla hd hc hp hdp hlv hpn (ts := t :: r) hn hlen hF hK (t1 :: r1).length 0 t1 r1 ci1 cp1 I1 L1 (Nat.le_refl _) l1 (by omega) b1 e1 hb8 (hmST_SW po4) g1 gl1 hC1 hL1 m1 n1 po5
