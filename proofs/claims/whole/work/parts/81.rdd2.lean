theorem hmPl.add {I : xI} {pl : Nat} {D : hmDay} {x : Nat × Nat × Nat} {dv wv uv : Int32} (h : hmPl I pl D) (hn : D.length < 40) (h1 : dv = nI x.1) (h2 : ¬ x.1 = 3 → wv = nI x.2.1) (h3 : x.1 = 2 → uv = nI x.2.2) : hmPl (va_up (va_up (va_up (va_up I (pl + 1) (va_up (I (pl + 1)) D.length dv)) (pl + 2) (va_up (I (pl + 2)) D.length wv)) (pl + 3) (va_up (I (pl + 3)) D.length uv)) pl (va_up (I pl) 3 (nI (D.length + 1)))) pl (D ++ [x]) := by
  refine ⟨by rw [List.length_append, List.length_singleton]; omega, by rw [va_up_self, va_up_self, List.length_append, List.length_singleton], fun i hi => ?_⟩
  rw [List.length_append, List.length_singleton] at hi
  rw [va_up_ne _ _ (show pl + 1 ≠ pl by omega), va_up_ne _ _ (show pl + 1 ≠ pl + 3 by omega), va_up_ne _ _ (show pl + 1 ≠ pl + 2 by omega), va_up_self, va_up_ne _ _ (show pl + 2 ≠ pl by omega), va_up_ne _ _ (show pl + 2 ≠ pl + 3 by omega), va_up_self, va_up_ne _ _ (show pl + 3 ≠ pl by omega), va_up_self]
  by_cases e : i = D.length
  · have ex : (D ++ [x]).getD i (3, 0, 0) = x := by rw [e]; simp
    rw [ex, e, va_up_self, va_up_self, va_up_self]
    exact ⟨h1, h2, h3⟩
  · have ex : (D ++ [x]).getD i (3, 0, 0) = D.getD i (3, 0, 0) := by simp [List.getElem?_append_left (show i < D.length by omega)]
    rw [ex, va_up_ne _ _ e, va_up_ne _ _ e, va_up_ne _ _ e]
    exact h.2.2 i (by omega)
theorem hmY2_f {nms : List (List Nat)} {D : hmDay} {k F : Nat} {ts : List hmTok} (h : hmNc nms none ts = .inl F) : hmY2 nms D k ts = .inl F := by
  unfold hmY2
  rw [h]
  rfl
theorem hmY2_1 {nms : List (List Nat)} {D : hmDay} {k w : Nat} {ts rs : List hmTok} (hk : ¬ k = 2) (h : hmNc nms none ts = .inr (w, rs)) : hmY2 nms D k ts = hmY3 D (k, w, 0) rs := by
  unfold hmY2
  rw [h]
  exact if_neg hk
theorem hmY2_2 {nms : List (List Nat)} {D : hmDay} {w : Nat} {ts rs : List hmTok} (h : hmNc nms none ts = .inr (w, rs)) : hmY2 nms D 2 ts = hmBd (hmNc nms (some w) rs) (fun q => hmY3 D (2, w, q.1) q.2) := by
  unfold hmY2
  rw [h]
  rfl
def hmPf (a pd : Nat) (I I' : xI) : Prop := (∀ x, x ≠ a → x ≠ a + 1 → ¬ (pd ≤ x ∧ x < pd + 4) → I' x = I x) ∧ I' (a + 1) 1 = I (a + 1) 1
theorem hmPf.tr {a pd : Nat} {I J K : xI} (h1 : hmPf a pd I J) (h2 : hmPf a pd J K) : hmPf a pd I K := ⟨fun x p q r => (h2.1 x p q r).trans (h1.1 x p q r), h2.2.trans h1.2⟩
theorem hmPf.fl {a pd : Nat} {I : xI} {k : Nat} {v : Int32} : hmPf a pd I (va_up I a (va_up (I a) k v)) := ⟨fun x p _ _ => va_up_ne _ _ p, by rw [va_up_ne _ _ (by omega)]⟩
theorem hmPf.sp {a pd : Nat} {I J : xI} (h : hmSp (a + 1) I J) : hmPf a pd I J := ⟨fun x _ q _ => h.1 x q, h.2 1 (by omega) (by omega) (by omega)⟩
theorem hmPf.ad {a pd : Nat} {I J : xI} (hd : a + 3 ≤ pd ∨ pd + 4 ≤ a) (h : ∀ x, ¬ (pd ≤ x ∧ x < pd + 4) → J x = I x) : hmPf a pd I J := ⟨fun x _ _ r => h x r, by rw [h (a + 1) (by omega)]⟩
set_option maxHeartbeats 4000000 in
theorem c_dayLine {d : Nat} {sh : xSh} {R : xR} {L : xL} {I : xI} {Q : xQ} {a dk pd : Nat} {T : List Nat} {t : hmTok} {r : List hmTok} (ha : xReader sh R a) (hdk : xDesk sh R dk) (hpd : xPlan sh R pd) (hdis : a + 3 ≤ dk ∨ dk + 9 ≤ a) (hdp : a + 3 ≤ pd ∨ pd + 4 ≤ a) (hdq : dk + 9 ≤ pd ∨ pd + 4 ≤ dk) (hc : ∀ x, x ∈ T → x < 127) (hC : hmCx I L a T t r) {nms : List (List Nat)} (hnl : nms.length ≤ 6) (h6 : I dk 6 = nI nms.length) (hnm : ∀ i, i < nms.length → L (dk + 1) i = hmE256 (nms.getD i []) ∧ hmWd (nms.getD i [])) {D : hmDay} (hD : hmPl I pd D) (hF : ∀ F I' L', hmDL nms D (t :: r) = .inl F → 1 ≤ F → F < 20000 → hmPf a pd I I' → hmSl (a + 1) L L' → I' a 1 = nI F → Q (some (.int 0)) 0 sh R L' I') (hQ : ∀ D' t' r' I' L', hmDL nms D (t :: r) = .inr (D', t' :: r') → (t' :: r').length < (t :: r).length → hmPf a pd I I' → hmSl (a + 1) L L' → I' a 1 = I a 1 → hmPl I' pd D' → hmCx I' L' a T t' r' → Q (some (.int 1)) 0 sh R L' I') : Ex (d + 7) 0 0 MX5_dayLine 0 sh R L I 0 [some (.ref a), some (.ref pd), some (.ref dk), none, none, none] [] Q := by
  obtain ⟨p1, p2, p3⟩ := id hD
  cases ed : hmDw t with
  | none =>
    have eo : hmOi (hmDw t) = -1 := by rw [ed]; rfl
    refine Ex_aload_n 1 (i := 0) dX5_dayLine_0 rfl rfl rfl ?_
    refine Ex_callV (M' := MX5_deedWord) 4 [] (rest := []) dX5_dayLine_1 lX5_186 mX5_deedWord rfl ha.1 rfl (Nat.le_of_ble_eq_true rfl) (Nat.le_of_ble_eq_true rfl) rfl ?_
    refine c_deedWord ha hC ?_
    simp only [Option.toList, List.cons_append, List.nil_append]
    rw [eo]
    refine Ex_istore_n 5 (i := 3) (ls' := [some (.ref a), some (.ref pd), some (.ref dk), some (.int (-1)), none, none]) dX5_dayLine_4 rfl (Nat.le_of_ble_eq_true rfl) rfl rfl rfl ?_
    refine Ex_iload_n 6 (i := 3) dX5_dayLine_5 rfl rfl rfl ?_
    refine Ex_iconst 7 (v := (-1)) dX5_dayLine_6 (by decide) rfl ?_
    refine Ex_icmp_ne 10 16 dX5_dayLine_7 (by decide) rfl (fun c1 => absurd c1 (fun q => q (by decide))) (fun c1 => ?_)
    refine Ex_aload_n 11 (i := 0) dX5_dayLine_10 rfl rfl rfl ?_
    refine Ex_iconst 12 (v := 1) dX5_dayLine_11 (by decide) rfl ?_
    refine Ex_callV (M' := MX5_fail) 15 [.int 1] (rest := []) dX5_dayLine_12 lX5_61 mX5_fail rfl ha.1 rfl (Nat.le_of_ble_eq_true rfl) (Nat.le_of_ble_eq_true rfl) rfl ?_
    refine c_fail (k := 1) ha hC ?_
    simp only [Option.toList, List.nil_append, List.cons_append]
    refine Ex_iret dX5_dayLine_15 rfl (by decide) (Or.inl rfl) ?_
    have hfl := hmFl_lt (k := 1) (t := t) (by omega) (by omega) hC.2.2.2.2.2.2.2
    exact hF (hmFl 1 t) _ L (hmDL_no ed) hfl.1 hfl.2 hmPf.fl hmSl.rf (by rw [va_up_self, va_up_self])
  | some k =>
    have hkl := hmDw_lt ed
    have ht := hkl.2
    by_cases h40 : D.length = 40
    · have eo : hmOi (hmDw t) = nI k := by rw [ed]; rfl
      have ek : ¬ nI k = -1 := fun q => by
        have h0 : 0 ≤ nI k := hm_nI0 (by omega)
        rw [q] at h0
        exact absurd h0 (by decide)
      refine Ex_aload_n 1 (i := 0) dX5_dayLine_0 rfl rfl rfl ?_
      refine Ex_callV (M' := MX5_deedWord) 4 [] (rest := []) dX5_dayLine_1 lX5_186 mX5_deedWord rfl ha.1 rfl (Nat.le_of_ble_eq_true rfl) (Nat.le_of_ble_eq_true rfl) rfl ?_
      refine c_deedWord ha hC ?_
      simp only [Option.toList, List.cons_append, List.nil_append]
      rw [eo]
      refine Ex_istore_n 5 (i := 3) (ls' := [some (.ref a), some (.ref pd), some (.ref dk), some (.int (nI k)), none, none]) dX5_dayLine_4 rfl (Nat.le_of_ble_eq_true rfl) rfl rfl rfl ?_
      refine Ex_iload_n 6 (i := 3) dX5_dayLine_5 rfl rfl rfl ?_
      refine Ex_iconst 7 (v := (-1)) dX5_dayLine_6 (by decide) rfl ?_
      refine Ex_icmp_ne 10 16 dX5_dayLine_7 (by decide) rfl (fun c1 => ?_) (fun c1 => absurd c1 ek)
      refine Ex_aload_n 17 (i := 1) dX5_dayLine_16 rfl rfl rfl ?_
      refine Ex_gI 20 (I pd 3) dX5_dayLine_17 fX5_45 hpd.1 rfl rfl rfl ?_
      rw [p2]
      refine Ex_bipush 22 (v := 40) dX5_dayLine_20 (by decide) rfl ?_
      refine Ex_icmp_lt 25 31 dX5_dayLine_22 (by decide) rfl (fun c2 => absurd c2 (fun q => absurd ((nI_ltI (b := 40) (by omega) (by omega)).mp q) (by omega))) (fun c2 => ?_)
      refine Ex_aload_n 26 (i := 0) dX5_dayLine_25 rfl rfl rfl ?_
      refine Ex_iconst 27 (v := 5) dX5_dayLine_26 (by decide) rfl ?_
      refine Ex_callV (M' := MX5_fail) 30 [.int 5] (rest := []) dX5_dayLine_27 lX5_61 mX5_fail rfl ha.1 rfl (Nat.le_of_ble_eq_true rfl) (Nat.le_of_ble_eq_true rfl) rfl ?_
      refine c_fail (k := 5) ha hC ?_
      simp only [Option.toList, List.nil_append, List.cons_append]
      refine Ex_iret dX5_dayLine_30 rfl (by decide) (Or.inl rfl) ?_
      have hfl := hmFl_lt (k := 5) (t := t) (by omega) (by omega) hC.2.2.2.2.2.2.2
      exact hF (hmFl 5 t) _ L (by rw [hmDL_yes ed, if_pos h40]) hfl.1 hfl.2 hmPf.fl hmSl.rf (by rw [va_up_self, va_up_self])
    have e0 : hmDL nms D (t :: r) = if k = 3 then hmY3 D (3, 0, 0) r else hmY2 nms D k r := by rw [hmDL_yes ed, if_neg h40]
    have hk4 : k = 0 ∨ k = 1 ∨ k = 2 ∨ k = 3 := by omega
    rcases hk4 with rfl | rfl | rfl | rfl
    · refine Ex_aload_n 1 (i := 0) dX5_dayLine_0 rfl rfl rfl ?_
      refine Ex_callV (M' := MX5_deedWord) 4 [] (rest := []) dX5_dayLine_1 lX5_186 mX5_deedWord rfl ha.1 rfl (Nat.le_of_ble_eq_true rfl) (Nat.le_of_ble_eq_true rfl) rfl ?_
      refine c_deedWord ha hC ?_
      simp only [Option.toList, List.cons_append, List.nil_append]
      rw [show hmOi (hmDw t) = 0 by rw [ed]; rfl]
      refine Ex_istore_n 5 (i := 3) (ls' := [some (.ref a), some (.ref pd), some (.ref dk), some (.int 0), none, none]) dX5_dayLine_4 rfl (Nat.le_of_ble_eq_true rfl) rfl rfl rfl ?_
      refine Ex_iload_n 6 (i := 3) dX5_dayLine_5 rfl rfl rfl ?_
      refine Ex_iconst 7 (v := (-1)) dX5_dayLine_6 (by decide) rfl ?_
      refine Ex_icmp_ne 10 16 dX5_dayLine_7 (by decide) rfl (fun c1 => ?_) (fun c1 => absurd c1 (by decide))
      refine Ex_aload_n 17 (i := 1) dX5_dayLine_16 rfl rfl rfl ?_
      refine Ex_gI 20 (I pd 3) dX5_dayLine_17 fX5_45 hpd.1 rfl rfl rfl ?_
      rw [p2]
      refine Ex_bipush 22 (v := 40) dX5_dayLine_20 (by decide) rfl ?_
      refine Ex_icmp_lt 25 31 dX5_dayLine_22 (by decide) rfl (fun c2 => ?_) (fun c2 => absurd c2 (fun q => q ((nI_ltI (b := 40) (by omega) (by omega)).mpr (by omega))))
      refine Ex_aload_n 32 (i := 0) dX5_dayLine_31 rfl rfl rfl ?_
      refine Ex_getR 35 dX5_dayLine_32 fX5_12 ha.1 rfl ha.2.2.2.1 rfl ?_
      refine Ex_callV (M' := MX7_step) 38 [] (rest := []) dX5_dayLine_35 lX5_65 mX7_step rfl ha.2.1 rfl (Nat.le_of_ble_eq_true rfl) (Nat.le_of_ble_eq_true rfl) rfl ?_
      refine c_rstep ha hc hC ht (fun t1 r1 I1 L1 er1 gs1 gt1 hC1 => ?_)
      simp only [Option.toList, List.nil_append, List.cons_append]
      have hN1 : ∀ i, i < nms.length → L1 (dk + 1) i = hmE256 (nms.getD i []) ∧ hmWd (nms.getD i []) := fun i hi => by rw [gt1 (dk + 1) (by omega)]; exact hnm i hi
      have h61 : I1 dk 6 = nI nms.length := by rw [gs1.1 dk (by omega)]; exact h6
      have hP1 : hmPl I1 pd D := hD.kept (fun x p q => gs1.1 x (by omega))
      refine Ex_iconst 39 (v := (-1)) dX5_dayLine_38 (by decide) rfl ?_
      refine Ex_istore 41 (ls' := [some (.ref a), some (.ref pd), some (.ref dk), some (.int 0), some (.int (-1)), none]) dX5_dayLine_39 (Nat.le_of_ble_eq_true rfl) rfl rfl rfl ?_
      refine Ex_iconst 42 (v := (-1)) dX5_dayLine_41 (by decide) rfl ?_
      refine Ex_istore 44 (ls' := [some (.ref a), some (.ref pd), some (.ref dk), some (.int 0), some (.int (-1)), some (.int (-1))]) dX5_dayLine_42 (Nat.le_of_ble_eq_true rfl) rfl rfl rfl ?_
      refine Ex_iload_n 45 (i := 3) dX5_dayLine_44 rfl rfl rfl ?_
      refine Ex_iconst 46 (v := 3) dX5_dayLine_45 (by decide) rfl ?_
      refine Ex_icmp_eq 49 65 dX5_dayLine_46 (by decide) rfl (fun c3 => absurd c3 (by decide)) (fun c3 => ?_)
      refine Ex_aload_n 50 (i := 0) dX5_dayLine_49 rfl rfl rfl ?_
      refine Ex_aload_n 51 (i := 2) dX5_dayLine_50 rfl rfl rfl ?_
      refine Ex_iconst 52 (v := (-1)) dX5_dayLine_51 (by decide) rfl ?_
      refine Ex_callV (M' := MX5_namedCaller) 55 [.ref dk, .int (-1)] (rest := []) dX5_dayLine_52 lX5_190 mX5_namedCaller rfl ha.1 rfl (Nat.le_of_ble_eq_true rfl) (Nat.le_of_ble_eq_true rfl) rfl ?_
      refine c_namedCaller (ot := none) ha hdk hdis hc hC1 hnl h61 hN1 (fun k q => absurd q (by simp)) (fun k f1 f2 ef => ?_) (fun w2 t2 r2 I2 L2 hw2 ew2 ln2 gs2 gt2 hC2 => ?_)
      · simp only [Option.toList, List.nil_append, List.cons_append]
        refine Ex_istore 57 (ls' := [some (.ref a), some (.ref pd), some (.ref dk), some (.int 0), some (.int (-1)), some (.int (-1))]) dX5_dayLine_55 (Nat.le_of_ble_eq_true rfl) rfl rfl rfl ?_
        refine Ex_iload 59 dX5_dayLine_57 rfl rfl ?_
        refine Ex_iconst 60 (v := (-1)) dX5_dayLine_59 (by decide) rfl ?_
        refine Ex_icmp_ne 63 65 dX5_dayLine_60 (by decide) rfl (fun c4 => absurd c4 (fun q => q (by decide))) (fun c4 => ?_)
        refine Ex_iconst 64 (v := 0) dX5_dayLine_63 (by decide) rfl ?_
        refine Ex_iret dX5_dayLine_64 rfl (by decide) (Or.inl rfl) ?_
        have hfl := hmFl_lt (k := k) (t := t1) f1 f2 hC1.2.2.2.2.2.2.2
        exact hF (hmFl k t1) _ L1 (by rw [e0, if_neg (by decide), er1]; exact hmY2_f ef) hfl.1 hfl.2 ((hmPf.sp gs1).tr hmPf.fl) gt1 (by rw [va_up_self, va_up_self])
      · simp only [Option.toList, List.nil_append, List.cons_append]
        have hN2 : ∀ i, i < nms.length → L2 (dk + 1) i = hmE256 (nms.getD i []) ∧ hmWd (nms.getD i []) := fun i hi => by rw [gt2 (dk + 1) (by omega)]; exact hN1 i hi
        have h62 : I2 dk 6 = nI nms.length := by rw [gs2.1 dk (by omega)]; exact h61
        have hP2 : hmPl I2 pd D := hP1.kept (fun x p q => gs2.1 x (by omega))
        have hw82 : ¬ nI w2 = -1 := fun q => by
          have h0 : 0 ≤ nI w2 := hm_nI0 (by omega)
          rw [q] at h0
          exact absurd h0 (by decide)
        refine Ex_istore 57 (ls' := [some (.ref a), some (.ref pd), some (.ref dk), some (.int 0), some (.int (nI w2)), some (.int (-1))]) dX5_dayLine_55 (Nat.le_of_ble_eq_true rfl) rfl rfl rfl ?_
        refine Ex_iload 59 dX5_dayLine_57 rfl rfl ?_
        refine Ex_iconst 60 (v := (-1)) dX5_dayLine_59 (by decide) rfl ?_
        refine Ex_icmp_ne 63 65 dX5_dayLine_60 (by decide) rfl (fun c5 => ?_) (fun c5 => absurd c5 hw82)
        refine Ex_iload_n 66 (i := 3) dX5_dayLine_65 rfl rfl rfl ?_
        refine Ex_iconst 67 (v := 2) dX5_dayLine_66 (by decide) rfl ?_
        refine Ex_icmp_ne 70 87 dX5_dayLine_67 (by decide) rfl (fun c6 => ?_) (fun c6 => absurd c6 (by decide))
        refine Ex_aload_n 88 (i := 1) dX5_dayLine_87 rfl rfl rfl ?_
        refine Ex_iload_n 89 (i := 3) dX5_dayLine_88 rfl rfl rfl ?_
        refine Ex_iload 91 dX5_dayLine_89 rfl rfl ?_
        refine Ex_iload 93 dX5_dayLine_91 rfl rfl ?_
        refine Ex_callV (M' := MX4_add) 96 [.int 0, .int (nI w2), .int (-1)] (rest := []) dX5_dayLine_93 lX5_194 mX4_add rfl hpd.1 rfl (Nat.le_of_ble_eq_true rfl) (Nat.le_of_ble_eq_true rfl) rfl ?_
        have hadd := hmPl.add (x := (0, w2, 0)) (dv := 0) (wv := (nI w2)) (uv := (-1)) hP2 (by omega) rfl (fun _ => rfl) (fun q => absurd (show (0 : Nat) = 2 from q) (by decide))
        have hCx : hmCx (va_up (va_up (va_up (va_up I2 (pd + 1) (va_up (I2 (pd + 1)) D.length 0)) (pd + 2) (va_up (I2 (pd + 2)) D.length (nI w2))) (pd + 3) (va_up (I2 (pd + 3)) D.length (-1))) pd (va_up (I2 pd) 3 (nI (D.length + 1)))) L2 a T t2 r2 := hC2.kept (by rw [va_up_ne _ _ (by omega), va_up_ne _ _ (by omega), va_up_ne _ _ (by omega), va_up_ne _ _ (by omega)]) (by rw [va_up_ne _ _ (by omega), va_up_ne _ _ (by omega), va_up_ne _ _ (by omega), va_up_ne _ _ (by omega)]) rfl
        have gX : hmPf a pd I (va_up (va_up (va_up (va_up I2 (pd + 1) (va_up (I2 (pd + 1)) D.length 0)) (pd + 2) (va_up (I2 (pd + 2)) D.length (nI w2))) (pd + 3) (va_up (I2 (pd + 3)) D.length (-1))) pd (va_up (I2 pd) 3 (nI (D.length + 1)))) := ((hmPf.sp gs1).tr (hmPf.sp gs2)).tr (hmPf.ad hdp (fun x p => by rw [va_up_ne _ _ (by omega), va_up_ne _ _ (by omega), va_up_ne _ _ (by omega), va_up_ne _ _ (by omega)]))
        have aX : (va_up (va_up (va_up (va_up I2 (pd + 1) (va_up (I2 (pd + 1)) D.length 0)) (pd + 2) (va_up (I2 (pd + 2)) D.length (nI w2))) (pd + 3) (va_up (I2 (pd + 3)) D.length (-1))) pd (va_up (I2 pd) 3 (nI (D.length + 1)))) a = I a := by rw [va_up_ne _ _ (by omega), va_up_ne _ _ (by omega), va_up_ne _ _ (by omega), va_up_ne _ _ (by omega), gs2.1 a (by omega), gs1.1 a (by omega)]
        refine c_planAdd hpd hP2.2.1 (by omega) ?_
        simp only [Option.toList, List.nil_append, List.cons_append]
        refine Ex_aload_n 97 (i := 0) dX5_dayLine_96 rfl rfl rfl ?_
        refine Ex_bipush 99 (v := 59) dX5_dayLine_97 (by decide) rfl ?_
        refine Ex_callV (M' := MX5_passSign) 102 [.int 59] (rest := []) dX5_dayLine_99 lX5_103 mX5_passSign rfl ha.1 rfl (Nat.le_of_ble_eq_true rfl) (Nat.le_of_ble_eq_true rfl) rfl ?_
        refine c_passSign (c := 59) ha hc hCx (by decide) (fun hb => ?_) (fun hb t9 r9 I9 L9 er9 gs9 gt9 hC9 => ?_)
        · simp only [Option.toList, List.nil_append, List.cons_append]
          refine Ex_iret dX5_dayLine_102 rfl (by decide) (Or.inl rfl) ?_
          have hfl := hmFl_lt (k := 1) (t := t2) (by omega) (by omega) hC2.2.2.2.2.2.2.2
          exact hF (hmFl 1 t2) _ L2 (by rw [e0, if_neg (by decide), er1, hmY2_1 (by decide) ew2]; unfold hmY3; rw [hmXs_no hb]; rfl) hfl.1 hfl.2 (gX.tr hmPf.fl) (gt1.tr gt2) (by rw [va_up_self, va_up_self])
        · simp only [Option.toList, List.nil_append, List.cons_append]
          refine Ex_iret dX5_dayLine_102 rfl (by decide) (Or.inl rfl) ?_
          have hs9 : ∀ x, (pd ≤ x ∧ x < pd + 4) → I9 x = _ := fun x hx => gs9.1 x (by omega)
          exact hQ (D ++ [(0, w2, 0)]) t9 r9 I9 L9 (by rw [e0, if_neg (by decide), er1, hmY2_1 (by decide) ew2]; unfold hmY3; rw [hmXs_yes hb, er9]; rfl) (by rw [er9] at ln2; rw [er1]; simp at ln2 ⊢; omega) (gX.tr (hmPf.sp gs9)) ((gt1.tr gt2).tr gt9) (by rw [gs9.1 a (by omega), aX]) (hadd.kept (fun x p q => hs9 x ⟨p, q⟩)) hC9
    · refine Ex_aload_n 1 (i := 0) dX5_dayLine_0 rfl rfl rfl ?_
      refine Ex_callV (M' := MX5_deedWord) 4 [] (rest := []) dX5_dayLine_1 lX5_186 mX5_deedWord rfl ha.1 rfl (Nat.le_of_ble_eq_true rfl) (Nat.le_of_ble_eq_true rfl) rfl ?_
      refine c_deedWord ha hC ?_
      simp only [Option.toList, List.cons_append, List.nil_append]
      rw [show hmOi (hmDw t) = 1 by rw [ed]; rfl]
      refine Ex_istore_n 5 (i := 3) (ls' := [some (.ref a), some (.ref pd), some (.ref dk), some (.int 1), none, none]) dX5_dayLine_4 rfl (Nat.le_of_ble_eq_true rfl) rfl rfl rfl ?_
      refine Ex_iload_n 6 (i := 3) dX5_dayLine_5 rfl rfl rfl ?_
      refine Ex_iconst 7 (v := (-1)) dX5_dayLine_6 (by decide) rfl ?_
      refine Ex_icmp_ne 10 16 dX5_dayLine_7 (by decide) rfl (fun c1 => ?_) (fun c1 => absurd c1 (by decide))
      refine Ex_aload_n 17 (i := 1) dX5_dayLine_16 rfl rfl rfl ?_
      refine Ex_gI 20 (I pd 3) dX5_dayLine_17 fX5_45 hpd.1 rfl rfl rfl ?_
      rw [p2]
      refine Ex_bipush 22 (v := 40) dX5_dayLine_20 (by decide) rfl ?_
      refine Ex_icmp_lt 25 31 dX5_dayLine_22 (by decide) rfl (fun c2 => ?_) (fun c2 => absurd c2 (fun q => q ((nI_ltI (b := 40) (by omega) (by omega)).mpr (by omega))))
      refine Ex_aload_n 32 (i := 0) dX5_dayLine_31 rfl rfl rfl ?_
      refine Ex_getR 35 dX5_dayLine_32 fX5_12 ha.1 rfl ha.2.2.2.1 rfl ?_
      refine Ex_callV (M' := MX7_step) 38 [] (rest := []) dX5_dayLine_35 lX5_65 mX7_step rfl ha.2.1 rfl (Nat.le_of_ble_eq_true rfl) (Nat.le_of_ble_eq_true rfl) rfl ?_
      refine c_rstep ha hc hC ht (fun t1 r1 I1 L1 er1 gs1 gt1 hC1 => ?_)
      simp only [Option.toList, List.nil_append, List.cons_append]
      have hN1 : ∀ i, i < nms.length → L1 (dk + 1) i = hmE256 (nms.getD i []) ∧ hmWd (nms.getD i []) := fun i hi => by rw [gt1 (dk + 1) (by omega)]; exact hnm i hi
      have h61 : I1 dk 6 = nI nms.length := by rw [gs1.1 dk (by omega)]; exact h6
      have hP1 : hmPl I1 pd D := hD.kept (fun x p q => gs1.1 x (by omega))
      refine Ex_iconst 39 (v := (-1)) dX5_dayLine_38 (by decide) rfl ?_
      refine Ex_istore 41 (ls' := [some (.ref a), some (.ref pd), some (.ref dk), some (.int 1), some (.int (-1)), none]) dX5_dayLine_39 (Nat.le_of_ble_eq_true rfl) rfl rfl rfl ?_
      refine Ex_iconst 42 (v := (-1)) dX5_dayLine_41 (by decide) rfl ?_
      refine Ex_istore 44 (ls' := [some (.ref a), some (.ref pd), some (.ref dk), some (.int 1), some (.int (-1)), some (.int (-1))]) dX5_dayLine_42 (Nat.le_of_ble_eq_true rfl) rfl rfl rfl ?_
      refine Ex_iload_n 45 (i := 3) dX5_dayLine_44 rfl rfl rfl ?_
      refine Ex_iconst 46 (v := 3) dX5_dayLine_45 (by decide) rfl ?_
      refine Ex_icmp_eq 49 65 dX5_dayLine_46 (by decide) rfl (fun c3 => absurd c3 (by decide)) (fun c3 => ?_)
      refine Ex_aload_n 50 (i := 0) dX5_dayLine_49 rfl rfl rfl ?_
      refine Ex_aload_n 51 (i := 2) dX5_dayLine_50 rfl rfl rfl ?_
      refine Ex_iconst 52 (v := (-1)) dX5_dayLine_51 (by decide) rfl ?_
      refine Ex_callV (M' := MX5_namedCaller) 55 [.ref dk, .int (-1)] (rest := []) dX5_dayLine_52 lX5_190 mX5_namedCaller rfl ha.1 rfl (Nat.le_of_ble_eq_true rfl) (Nat.le_of_ble_eq_true rfl) rfl ?_
      refine c_namedCaller (ot := none) ha hdk hdis hc hC1 hnl h61 hN1 (fun k q => absurd q (by simp)) (fun k f1 f2 ef => ?_) (fun w2 t2 r2 I2 L2 hw2 ew2 ln2 gs2 gt2 hC2 => ?_)
      · simp only [Option.toList, List.nil_append, List.cons_append]
        refine Ex_istore 57 (ls' := [some (.ref a), some (.ref pd), some (.ref dk), some (.int 1), some (.int (-1)), some (.int (-1))]) dX5_dayLine_55 (Nat.le_of_ble_eq_true rfl) rfl rfl rfl ?_
        refine Ex_iload 59 dX5_dayLine_57 rfl rfl ?_
        refine Ex_iconst 60 (v := (-1)) dX5_dayLine_59 (by decide) rfl ?_
        refine Ex_icmp_ne 63 65 dX5_dayLine_60 (by decide) rfl (fun c4 => absurd c4 (fun q => q (by decide))) (fun c4 => ?_)
        refine Ex_iconst 64 (v := 0) dX5_dayLine_63 (by decide) rfl ?_
        refine Ex_iret dX5_dayLine_64 rfl (by decide) (Or.inl rfl) ?_
        have hfl := hmFl_lt (k := k) (t := t1) f1 f2 hC1.2.2.2.2.2.2.2
        exact hF (hmFl k t1) _ L1 (by rw [e0, if_neg (by decide), er1]; exact hmY2_f ef) hfl.1 hfl.2 ((hmPf.sp gs1).tr hmPf.fl) gt1 (by rw [va_up_self, va_up_self])
      · simp only [Option.toList, List.nil_append, List.cons_append]
        have hN2 : ∀ i, i < nms.length → L2 (dk + 1) i = hmE256 (nms.getD i []) ∧ hmWd (nms.getD i []) := fun i hi => by rw [gt2 (dk + 1) (by omega)]; exact hN1 i hi
        have h62 : I2 dk 6 = nI nms.length := by rw [gs2.1 dk (by omega)]; exact h61
        have hP2 : hmPl I2 pd D := hP1.kept (fun x p q => gs2.1 x (by omega))
        have hw82 : ¬ nI w2 = -1 := fun q => by
          have h0 : 0 ≤ nI w2 := hm_nI0 (by omega)
          rw [q] at h0
          exact absurd h0 (by decide)
        refine Ex_istore 57 (ls' := [some (.ref a), some (.ref pd), some (.ref dk), some (.int 1), some (.int (nI w2)), some (.int (-1))]) dX5_dayLine_55 (Nat.le_of_ble_eq_true rfl) rfl rfl rfl ?_
        refine Ex_iload 59 dX5_dayLine_57 rfl rfl ?_
        refine Ex_iconst 60 (v := (-1)) dX5_dayLine_59 (by decide) rfl ?_
        refine Ex_icmp_ne 63 65 dX5_dayLine_60 (by decide) rfl (fun c5 => ?_) (fun c5 => absurd c5 hw82)
        refine Ex_iload_n 66 (i := 3) dX5_dayLine_65 rfl rfl rfl ?_
        refine Ex_iconst 67 (v := 2) dX5_dayLine_66 (by decide) rfl ?_
        refine Ex_icmp_ne 70 87 dX5_dayLine_67 (by decide) rfl (fun c6 => ?_) (fun c6 => absurd c6 (by decide))
        refine Ex_aload_n 88 (i := 1) dX5_dayLine_87 rfl rfl rfl ?_
        refine Ex_iload_n 89 (i := 3) dX5_dayLine_88 rfl rfl rfl ?_
        refine Ex_iload 91 dX5_dayLine_89 rfl rfl ?_
        refine Ex_iload 93 dX5_dayLine_91 rfl rfl ?_
        refine Ex_callV (M' := MX4_add) 96 [.int 1, .int (nI w2), .int (-1)] (rest := []) dX5_dayLine_93 lX5_194 mX4_add rfl hpd.1 rfl (Nat.le_of_ble_eq_true rfl) (Nat.le_of_ble_eq_true rfl) rfl ?_
        have hadd := hmPl.add (x := (1, w2, 0)) (dv := 1) (wv := (nI w2)) (uv := (-1)) hP2 (by omega) rfl (fun _ => rfl) (fun q => absurd (show (1 : Nat) = 2 from q) (by decide))
        have hCx : hmCx (va_up (va_up (va_up (va_up I2 (pd + 1) (va_up (I2 (pd + 1)) D.length 1)) (pd + 2) (va_up (I2 (pd + 2)) D.length (nI w2))) (pd + 3) (va_up (I2 (pd + 3)) D.length (-1))) pd (va_up (I2 pd) 3 (nI (D.length + 1)))) L2 a T t2 r2 := hC2.kept (by rw [va_up_ne _ _ (by omega), va_up_ne _ _ (by omega), va_up_ne _ _ (by omega), va_up_ne _ _ (by omega)]) (by rw [va_up_ne _ _ (by omega), va_up_ne _ _ (by omega), va_up_ne _ _ (by omega), va_up_ne _ _ (by omega)]) rfl
        have gX : hmPf a pd I (va_up (va_up (va_up (va_up I2 (pd + 1) (va_up (I2 (pd + 1)) D.length 1)) (pd + 2) (va_up (I2 (pd + 2)) D.length (nI w2))) (pd + 3) (va_up (I2 (pd + 3)) D.length (-1))) pd (va_up (I2 pd) 3 (nI (D.length + 1)))) := ((hmPf.sp gs1).tr (hmPf.sp gs2)).tr (hmPf.ad hdp (fun x p => by rw [va_up_ne _ _ (by omega), va_up_ne _ _ (by omega), va_up_ne _ _ (by omega), va_up_ne _ _ (by omega)]))
        have aX : (va_up (va_up (va_up (va_up I2 (pd + 1) (va_up (I2 (pd + 1)) D.length 1)) (pd + 2) (va_up (I2 (pd + 2)) D.length (nI w2))) (pd + 3) (va_up (I2 (pd + 3)) D.length (-1))) pd (va_up (I2 pd) 3 (nI (D.length + 1)))) a = I a := by rw [va_up_ne _ _ (by omega), va_up_ne _ _ (by omega), va_up_ne _ _ (by omega), va_up_ne _ _ (by omega), gs2.1 a (by omega), gs1.1 a (by omega)]
        refine c_planAdd hpd hP2.2.1 (by omega) ?_
        simp only [Option.toList, List.nil_append, List.cons_append]
        refine Ex_aload_n 97 (i := 0) dX5_dayLine_96 rfl rfl rfl ?_
        refine Ex_bipush 99 (v := 59) dX5_dayLine_97 (by decide) rfl ?_
        refine Ex_callV (M' := MX5_passSign) 102 [.int 59] (rest := []) dX5_dayLine_99 lX5_103 mX5_passSign rfl ha.1 rfl (Nat.le_of_ble_eq_true rfl) (Nat.le_of_ble_eq_true rfl) rfl ?_
        refine c_passSign (c := 59) ha hc hCx (by decide) (fun hb => ?_) (fun hb t9 r9 I9 L9 er9 gs9 gt9 hC9 => ?_)
        · simp only [Option.toList, List.nil_append, List.cons_append]
          refine Ex_iret dX5_dayLine_102 rfl (by decide) (Or.inl rfl) ?_
          have hfl := hmFl_lt (k := 1) (t := t2) (by omega) (by omega) hC2.2.2.2.2.2.2.2
          exact hF (hmFl 1 t2) _ L2 (by rw [e0, if_neg (by decide), er1, hmY2_1 (by decide) ew2]; unfold hmY3; rw [hmXs_no hb]; rfl) hfl.1 hfl.2 (gX.tr hmPf.fl) (gt1.tr gt2) (by rw [va_up_self, va_up_self])
        · simp only [Option.toList, List.nil_append, List.cons_append]
          refine Ex_iret dX5_dayLine_102 rfl (by decide) (Or.inl rfl) ?_
          have hs9 : ∀ x, (pd ≤ x ∧ x < pd + 4) → I9 x = _ := fun x hx => gs9.1 x (by omega)
          exact hQ (D ++ [(1, w2, 0)]) t9 r9 I9 L9 (by rw [e0, if_neg (by decide), er1, hmY2_1 (by decide) ew2]; unfold hmY3; rw [hmXs_yes hb, er9]; rfl) (by rw [er9] at ln2; rw [er1]; simp at ln2 ⊢; omega) (gX.tr (hmPf.sp gs9)) ((gt1.tr gt2).tr gt9) (by rw [gs9.1 a (by omega), aX]) (hadd.kept (fun x p q => hs9 x ⟨p, q⟩)) hC9
    · refine Ex_aload_n 1 (i := 0) dX5_dayLine_0 rfl rfl rfl ?_
      refine Ex_callV (M' := MX5_deedWord) 4 [] (rest := []) dX5_dayLine_1 lX5_186 mX5_deedWord rfl ha.1 rfl (Nat.le_of_ble_eq_true rfl) (Nat.le_of_ble_eq_true rfl) rfl ?_
      refine c_deedWord ha hC ?_
      simp only [Option.toList, List.cons_append, List.nil_append]
      rw [show hmOi (hmDw t) = 2 by rw [ed]; rfl]
      refine Ex_istore_n 5 (i := 3) (ls' := [some (.ref a), some (.ref pd), some (.ref dk), some (.int 2), none, none]) dX5_dayLine_4 rfl (Nat.le_of_ble_eq_true rfl) rfl rfl rfl ?_
      refine Ex_iload_n 6 (i := 3) dX5_dayLine_5 rfl rfl rfl ?_
      refine Ex_iconst 7 (v := (-1)) dX5_dayLine_6 (by decide) rfl ?_
      refine Ex_icmp_ne 10 16 dX5_dayLine_7 (by decide) rfl (fun c1 => ?_) (fun c1 => absurd c1 (by decide))
      refine Ex_aload_n 17 (i := 1) dX5_dayLine_16 rfl rfl rfl ?_
      refine Ex_gI 20 (I pd 3) dX5_dayLine_17 fX5_45 hpd.1 rfl rfl rfl ?_
      rw [p2]
      refine Ex_bipush 22 (v := 40) dX5_dayLine_20 (by decide) rfl ?_
      refine Ex_icmp_lt 25 31 dX5_dayLine_22 (by decide) rfl (fun c2 => ?_) (fun c2 => absurd c2 (fun q => q ((nI_ltI (b := 40) (by omega) (by omega)).mpr (by omega))))
      refine Ex_aload_n 32 (i := 0) dX5_dayLine_31 rfl rfl rfl ?_
      refine Ex_getR 35 dX5_dayLine_32 fX5_12 ha.1 rfl ha.2.2.2.1 rfl ?_
      refine Ex_callV (M' := MX7_step) 38 [] (rest := []) dX5_dayLine_35 lX5_65 mX7_step rfl ha.2.1 rfl (Nat.le_of_ble_eq_true rfl) (Nat.le_of_ble_eq_true rfl) rfl ?_
      refine c_rstep ha hc hC ht (fun t1 r1 I1 L1 er1 gs1 gt1 hC1 => ?_)
      simp only [Option.toList, List.nil_append, List.cons_append]
      have hN1 : ∀ i, i < nms.length → L1 (dk + 1) i = hmE256 (nms.getD i []) ∧ hmWd (nms.getD i []) := fun i hi => by rw [gt1 (dk + 1) (by omega)]; exact hnm i hi
      have h61 : I1 dk 6 = nI nms.length := by rw [gs1.1 dk (by omega)]; exact h6
      have hP1 : hmPl I1 pd D := hD.kept (fun x p q => gs1.1 x (by omega))
      refine Ex_iconst 39 (v := (-1)) dX5_dayLine_38 (by decide) rfl ?_
      refine Ex_istore 41 (ls' := [some (.ref a), some (.ref pd), some (.ref dk), some (.int 2), some (.int (-1)), none]) dX5_dayLine_39 (Nat.le_of_ble_eq_true rfl) rfl rfl rfl ?_
      refine Ex_iconst 42 (v := (-1)) dX5_dayLine_41 (by decide) rfl ?_
      refine Ex_istore 44 (ls' := [some (.ref a), some (.ref pd), some (.ref dk), some (.int 2), some (.int (-1)), some (.int (-1))]) dX5_dayLine_42 (Nat.le_of_ble_eq_true rfl) rfl rfl rfl ?_
      refine Ex_iload_n 45 (i := 3) dX5_dayLine_44 rfl rfl rfl ?_
      refine Ex_iconst 46 (v := 3) dX5_dayLine_45 (by decide) rfl ?_
      refine Ex_icmp_eq 49 65 dX5_dayLine_46 (by decide) rfl (fun c3 => absurd c3 (by decide)) (fun c3 => ?_)
      refine Ex_aload_n 50 (i := 0) dX5_dayLine_49 rfl rfl rfl ?_
      refine Ex_aload_n 51 (i := 2) dX5_dayLine_50 rfl rfl rfl ?_
      refine Ex_iconst 52 (v := (-1)) dX5_dayLine_51 (by decide) rfl ?_
      refine Ex_callV (M' := MX5_namedCaller) 55 [.ref dk, .int (-1)] (rest := []) dX5_dayLine_52 lX5_190 mX5_namedCaller rfl ha.1 rfl (Nat.le_of_ble_eq_true rfl) (Nat.le_of_ble_eq_true rfl) rfl ?_
      refine c_namedCaller (ot := none) ha hdk hdis hc hC1 hnl h61 hN1 (fun k q => absurd q (by simp)) (fun k f1 f2 ef => ?_) (fun w2 t2 r2 I2 L2 hw2 ew2 ln2 gs2 gt2 hC2 => ?_)
      · simp only [Option.toList, List.nil_append, List.cons_append]
        refine Ex_istore 57 (ls' := [some (.ref a), some (.ref pd), some (.ref dk), some (.int 2), some (.int (-1)), some (.int (-1))]) dX5_dayLine_55 (Nat.le_of_ble_eq_true rfl) rfl rfl rfl ?_
        refine Ex_iload 59 dX5_dayLine_57 rfl rfl ?_
        refine Ex_iconst 60 (v := (-1)) dX5_dayLine_59 (by decide) rfl ?_
        refine Ex_icmp_ne 63 65 dX5_dayLine_60 (by decide) rfl (fun c4 => absurd c4 (fun q => q (by decide))) (fun c4 => ?_)
        refine Ex_iconst 64 (v := 0) dX5_dayLine_63 (by decide) rfl ?_
        refine Ex_iret dX5_dayLine_64 rfl (by decide) (Or.inl rfl) ?_
        have hfl := hmFl_lt (k := k) (t := t1) f1 f2 hC1.2.2.2.2.2.2.2
        exact hF (hmFl k t1) _ L1 (by rw [e0, if_neg (by decide), er1]; exact hmY2_f ef) hfl.1 hfl.2 ((hmPf.sp gs1).tr hmPf.fl) gt1 (by rw [va_up_self, va_up_self])
      · simp only [Option.toList, List.nil_append, List.cons_append]
        have hN2 : ∀ i, i < nms.length → L2 (dk + 1) i = hmE256 (nms.getD i []) ∧ hmWd (nms.getD i []) := fun i hi => by rw [gt2 (dk + 1) (by omega)]; exact hN1 i hi
        have h62 : I2 dk 6 = nI nms.length := by rw [gs2.1 dk (by omega)]; exact h61
        have hP2 : hmPl I2 pd D := hP1.kept (fun x p q => gs2.1 x (by omega))
        have hw82 : ¬ nI w2 = -1 := fun q => by
          have h0 : 0 ≤ nI w2 := hm_nI0 (by omega)
          rw [q] at h0
          exact absurd h0 (by decide)
        refine Ex_istore 57 (ls' := [some (.ref a), some (.ref pd), some (.ref dk), some (.int 2), some (.int (nI w2)), some (.int (-1))]) dX5_dayLine_55 (Nat.le_of_ble_eq_true rfl) rfl rfl rfl ?_
        refine Ex_iload 59 dX5_dayLine_57 rfl rfl ?_
        refine Ex_iconst 60 (v := (-1)) dX5_dayLine_59 (by decide) rfl ?_
        refine Ex_icmp_ne 63 65 dX5_dayLine_60 (by decide) rfl (fun c5 => ?_) (fun c5 => absurd c5 hw82)
        refine Ex_iload_n 66 (i := 3) dX5_dayLine_65 rfl rfl rfl ?_
        refine Ex_iconst 67 (v := 2) dX5_dayLine_66 (by decide) rfl ?_
        refine Ex_icmp_ne 70 87 dX5_dayLine_67 (by decide) rfl (fun c6 => absurd c6 (fun q => q (by decide))) (fun c6 => ?_)
        refine Ex_aload_n 71 (i := 0) dX5_dayLine_70 rfl rfl rfl ?_
        refine Ex_aload_n 72 (i := 2) dX5_dayLine_71 rfl rfl rfl ?_
        refine Ex_iload 74 dX5_dayLine_72 rfl rfl ?_
        refine Ex_callV (M' := MX5_namedCaller) 77 [.ref dk, .int (nI w2)] (rest := []) dX5_dayLine_74 lX5_190 mX5_namedCaller rfl ha.1 rfl (Nat.le_of_ble_eq_true rfl) (Nat.le_of_ble_eq_true rfl) rfl ?_
        refine c_namedCaller (ot := (some w2)) ha hdk hdis hc hC2 hnl h62 hN2 (fun k q => by have q2 := Option.some.inj q; omega) (fun k f1 f2 ef => ?_) (fun w3 t3 r3 I3 L3 hw3 ew3 ln3 gs3 gt3 hC3 => ?_)
        · simp only [Option.toList, List.nil_append, List.cons_append]
          refine Ex_istore 79 (ls' := [some (.ref a), some (.ref pd), some (.ref dk), some (.int 2), some (.int (nI w2)), some (.int (-1))]) dX5_dayLine_77 (Nat.le_of_ble_eq_true rfl) rfl rfl rfl ?_
          refine Ex_iload 81 dX5_dayLine_79 rfl rfl ?_
          refine Ex_iconst 82 (v := (-1)) dX5_dayLine_81 (by decide) rfl ?_
          refine Ex_icmp_ne 85 87 dX5_dayLine_82 (by decide) rfl (fun c7 => absurd c7 (fun q => q (by decide))) (fun c7 => ?_)
          refine Ex_iconst 86 (v := 0) dX5_dayLine_85 (by decide) rfl ?_
          refine Ex_iret dX5_dayLine_86 rfl (by decide) (Or.inl rfl) ?_
          have hfl := hmFl_lt (k := k) (t := t2) f1 f2 hC2.2.2.2.2.2.2.2
          exact hF (hmFl k t2) _ L2 (by rw [e0, if_neg (by decide), er1, hmY2_2 ew2, ef]; rfl) hfl.1 hfl.2 (((hmPf.sp gs1).tr (hmPf.sp gs2)).tr hmPf.fl) (gt1.tr gt2) (by rw [va_up_self, va_up_self])
        · simp only [Option.toList, List.nil_append, List.cons_append]
          have hN3 : ∀ i, i < nms.length → L3 (dk + 1) i = hmE256 (nms.getD i []) ∧ hmWd (nms.getD i []) := fun i hi => by rw [gt3 (dk + 1) (by omega)]; exact hN2 i hi
          have h63 : I3 dk 6 = nI nms.length := by rw [gs3.1 dk (by omega)]; exact h62
          have hP3 : hmPl I3 pd D := hP2.kept (fun x p q => gs3.1 x (by omega))
          have hw83 : ¬ nI w3 = -1 := fun q => by
            have h0 : 0 ≤ nI w3 := hm_nI0 (by omega)
            rw [q] at h0
            exact absurd h0 (by decide)
          refine Ex_istore 79 (ls' := [some (.ref a), some (.ref pd), some (.ref dk), some (.int 2), some (.int (nI w2)), some (.int (nI w3))]) dX5_dayLine_77 (Nat.le_of_ble_eq_true rfl) rfl rfl rfl ?_
          refine Ex_iload 81 dX5_dayLine_79 rfl rfl ?_
          refine Ex_iconst 82 (v := (-1)) dX5_dayLine_81 (by decide) rfl ?_
          refine Ex_icmp_ne 85 87 dX5_dayLine_82 (by decide) rfl (fun c8 => ?_) (fun c8 => absurd c8 hw83)
          refine Ex_aload_n 88 (i := 1) dX5_dayLine_87 rfl rfl rfl ?_
          refine Ex_iload_n 89 (i := 3) dX5_dayLine_88 rfl rfl rfl ?_
          refine Ex_iload 91 dX5_dayLine_89 rfl rfl ?_
          refine Ex_iload 93 dX5_dayLine_91 rfl rfl ?_
          refine Ex_callV (M' := MX4_add) 96 [.int 2, .int (nI w2), .int (nI w3)] (rest := []) dX5_dayLine_93 lX5_194 mX4_add rfl hpd.1 rfl (Nat.le_of_ble_eq_true rfl) (Nat.le_of_ble_eq_true rfl) rfl ?_
          have hadd := hmPl.add (x := (2, w2, w3)) (dv := 2) (wv := (nI w2)) (uv := (nI w3)) hP3 (by omega) rfl (fun _ => rfl) (fun _ => rfl)
          have hCx : hmCx (va_up (va_up (va_up (va_up I3 (pd + 1) (va_up (I3 (pd + 1)) D.length 2)) (pd + 2) (va_up (I3 (pd + 2)) D.length (nI w2))) (pd + 3) (va_up (I3 (pd + 3)) D.length (nI w3))) pd (va_up (I3 pd) 3 (nI (D.length + 1)))) L3 a T t3 r3 := hC3.kept (by rw [va_up_ne _ _ (by omega), va_up_ne _ _ (by omega), va_up_ne _ _ (by omega), va_up_ne _ _ (by omega)]) (by rw [va_up_ne _ _ (by omega), va_up_ne _ _ (by omega), va_up_ne _ _ (by omega), va_up_ne _ _ (by omega)]) rfl
          have gX : hmPf a pd I (va_up (va_up (va_up (va_up I3 (pd + 1) (va_up (I3 (pd + 1)) D.length 2)) (pd + 2) (va_up (I3 (pd + 2)) D.length (nI w2))) (pd + 3) (va_up (I3 (pd + 3)) D.length (nI w3))) pd (va_up (I3 pd) 3 (nI (D.length + 1)))) := (((hmPf.sp gs1).tr (hmPf.sp gs2)).tr (hmPf.sp gs3)).tr (hmPf.ad hdp (fun x p => by rw [va_up_ne _ _ (by omega), va_up_ne _ _ (by omega), va_up_ne _ _ (by omega), va_up_ne _ _ (by omega)]))
          have aX : (va_up (va_up (va_up (va_up I3 (pd + 1) (va_up (I3 (pd + 1)) D.length 2)) (pd + 2) (va_up (I3 (pd + 2)) D.length (nI w2))) (pd + 3) (va_up (I3 (pd + 3)) D.length (nI w3))) pd (va_up (I3 pd) 3 (nI (D.length + 1)))) a = I a := by rw [va_up_ne _ _ (by omega), va_up_ne _ _ (by omega), va_up_ne _ _ (by omega), va_up_ne _ _ (by omega), gs3.1 a (by omega), gs2.1 a (by omega), gs1.1 a (by omega)]
          refine c_planAdd hpd hP3.2.1 (by omega) ?_
          simp only [Option.toList, List.nil_append, List.cons_append]
          refine Ex_aload_n 97 (i := 0) dX5_dayLine_96 rfl rfl rfl ?_
          refine Ex_bipush 99 (v := 59) dX5_dayLine_97 (by decide) rfl ?_
          refine Ex_callV (M' := MX5_passSign) 102 [.int 59] (rest := []) dX5_dayLine_99 lX5_103 mX5_passSign rfl ha.1 rfl (Nat.le_of_ble_eq_true rfl) (Nat.le_of_ble_eq_true rfl) rfl ?_
          refine c_passSign (c := 59) ha hc hCx (by decide) (fun hb => ?_) (fun hb t9 r9 I9 L9 er9 gs9 gt9 hC9 => ?_)
          · simp only [Option.toList, List.nil_append, List.cons_append]
            refine Ex_iret dX5_dayLine_102 rfl (by decide) (Or.inl rfl) ?_
            have hfl := hmFl_lt (k := 1) (t := t3) (by omega) (by omega) hC3.2.2.2.2.2.2.2
            exact hF (hmFl 1 t3) _ L3 (by rw [e0, if_neg (by decide), er1, hmY2_2 ew2, ew3]; show hmY3 D (2, w2, w3) (t3 :: r3) = _; unfold hmY3; rw [hmXs_no hb]; rfl) hfl.1 hfl.2 (gX.tr hmPf.fl) ((gt1.tr gt2).tr gt3) (by rw [va_up_self, va_up_self])
          · simp only [Option.toList, List.nil_append, List.cons_append]
            refine Ex_iret dX5_dayLine_102 rfl (by decide) (Or.inl rfl) ?_
            have hs9 : ∀ x, (pd ≤ x ∧ x < pd + 4) → I9 x = _ := fun x hx => gs9.1 x (by omega)
            exact hQ (D ++ [(2, w2, w3)]) t9 r9 I9 L9 (by rw [e0, if_neg (by decide), er1, hmY2_2 ew2, ew3]; show hmY3 D (2, w2, w3) (t3 :: r3) = _; unfold hmY3; rw [hmXs_yes hb, er9]; rfl) (by rw [er9] at ln3; rw [er1]; simp at ln2 ln3 ⊢; omega) (gX.tr (hmPf.sp gs9)) (((gt1.tr gt2).tr gt3).tr gt9) (by rw [gs9.1 a (by omega), aX]) (hadd.kept (fun x p q => hs9 x ⟨p, q⟩)) hC9
    · refine Ex_aload_n 1 (i := 0) dX5_dayLine_0 rfl rfl rfl ?_
      refine Ex_callV (M' := MX5_deedWord) 4 [] (rest := []) dX5_dayLine_1 lX5_186 mX5_deedWord rfl ha.1 rfl (Nat.le_of_ble_eq_true rfl) (Nat.le_of_ble_eq_true rfl) rfl ?_
      refine c_deedWord ha hC ?_
      simp only [Option.toList, List.cons_append, List.nil_append]
      rw [show hmOi (hmDw t) = 3 by rw [ed]; rfl]
      refine Ex_istore_n 5 (i := 3) (ls' := [some (.ref a), some (.ref pd), some (.ref dk), some (.int 3), none, none]) dX5_dayLine_4 rfl (Nat.le_of_ble_eq_true rfl) rfl rfl rfl ?_
      refine Ex_iload_n 6 (i := 3) dX5_dayLine_5 rfl rfl rfl ?_
      refine Ex_iconst 7 (v := (-1)) dX5_dayLine_6 (by decide) rfl ?_
      refine Ex_icmp_ne 10 16 dX5_dayLine_7 (by decide) rfl (fun c1 => ?_) (fun c1 => absurd c1 (by decide))
      refine Ex_aload_n 17 (i := 1) dX5_dayLine_16 rfl rfl rfl ?_
      refine Ex_gI 20 (I pd 3) dX5_dayLine_17 fX5_45 hpd.1 rfl rfl rfl ?_
      rw [p2]
      refine Ex_bipush 22 (v := 40) dX5_dayLine_20 (by decide) rfl ?_
      refine Ex_icmp_lt 25 31 dX5_dayLine_22 (by decide) rfl (fun c2 => ?_) (fun c2 => absurd c2 (fun q => q ((nI_ltI (b := 40) (by omega) (by omega)).mpr (by omega))))
      refine Ex_aload_n 32 (i := 0) dX5_dayLine_31 rfl rfl rfl ?_
      refine Ex_getR 35 dX5_dayLine_32 fX5_12 ha.1 rfl ha.2.2.2.1 rfl ?_
      refine Ex_callV (M' := MX7_step) 38 [] (rest := []) dX5_dayLine_35 lX5_65 mX7_step rfl ha.2.1 rfl (Nat.le_of_ble_eq_true rfl) (Nat.le_of_ble_eq_true rfl) rfl ?_
      refine c_rstep ha hc hC ht (fun t1 r1 I1 L1 er1 gs1 gt1 hC1 => ?_)
      simp only [Option.toList, List.nil_append, List.cons_append]
      have hN1 : ∀ i, i < nms.length → L1 (dk + 1) i = hmE256 (nms.getD i []) ∧ hmWd (nms.getD i []) := fun i hi => by rw [gt1 (dk + 1) (by omega)]; exact hnm i hi
      have h61 : I1 dk 6 = nI nms.length := by rw [gs1.1 dk (by omega)]; exact h6
      have hP1 : hmPl I1 pd D := hD.kept (fun x p q => gs1.1 x (by omega))
      refine Ex_iconst 39 (v := (-1)) dX5_dayLine_38 (by decide) rfl ?_
      refine Ex_istore 41 (ls' := [some (.ref a), some (.ref pd), some (.ref dk), some (.int 3), some (.int (-1)), none]) dX5_dayLine_39 (Nat.le_of_ble_eq_true rfl) rfl rfl rfl ?_
      refine Ex_iconst 42 (v := (-1)) dX5_dayLine_41 (by decide) rfl ?_
      refine Ex_istore 44 (ls' := [some (.ref a), some (.ref pd), some (.ref dk), some (.int 3), some (.int (-1)), some (.int (-1))]) dX5_dayLine_42 (Nat.le_of_ble_eq_true rfl) rfl rfl rfl ?_
      refine Ex_iload_n 45 (i := 3) dX5_dayLine_44 rfl rfl rfl ?_
      refine Ex_iconst 46 (v := 3) dX5_dayLine_45 (by decide) rfl ?_
      refine Ex_icmp_eq 49 65 dX5_dayLine_46 (by decide) rfl (fun c3 => ?_) (fun c3 => absurd c3 (fun q => q (by decide)))
      refine Ex_iload_n 66 (i := 3) dX5_dayLine_65 rfl rfl rfl ?_
      refine Ex_iconst 67 (v := 2) dX5_dayLine_66 (by decide) rfl ?_
      refine Ex_icmp_ne 70 87 dX5_dayLine_67 (by decide) rfl (fun c4 => ?_) (fun c4 => absurd c4 (by decide))
      refine Ex_aload_n 88 (i := 1) dX5_dayLine_87 rfl rfl rfl ?_
      refine Ex_iload_n 89 (i := 3) dX5_dayLine_88 rfl rfl rfl ?_
      refine Ex_iload 91 dX5_dayLine_89 rfl rfl ?_
      refine Ex_iload 93 dX5_dayLine_91 rfl rfl ?_
      refine Ex_callV (M' := MX4_add) 96 [.int 3, .int (-1), .int (-1)] (rest := []) dX5_dayLine_93 lX5_194 mX4_add rfl hpd.1 rfl (Nat.le_of_ble_eq_true rfl) (Nat.le_of_ble_eq_true rfl) rfl ?_
      have hadd := hmPl.add (x := (3, 0, 0)) (dv := 3) (wv := (-1)) (uv := (-1)) hP1 (by omega) rfl (fun q => absurd rfl q) (fun q => absurd (show (3 : Nat) = 2 from q) (by decide))
      have hCx : hmCx (va_up (va_up (va_up (va_up I1 (pd + 1) (va_up (I1 (pd + 1)) D.length 3)) (pd + 2) (va_up (I1 (pd + 2)) D.length (-1))) (pd + 3) (va_up (I1 (pd + 3)) D.length (-1))) pd (va_up (I1 pd) 3 (nI (D.length + 1)))) L1 a T t1 r1 := hC1.kept (by rw [va_up_ne _ _ (by omega), va_up_ne _ _ (by omega), va_up_ne _ _ (by omega), va_up_ne _ _ (by omega)]) (by rw [va_up_ne _ _ (by omega), va_up_ne _ _ (by omega), va_up_ne _ _ (by omega), va_up_ne _ _ (by omega)]) rfl
      have gX : hmPf a pd I (va_up (va_up (va_up (va_up I1 (pd + 1) (va_up (I1 (pd + 1)) D.length 3)) (pd + 2) (va_up (I1 (pd + 2)) D.length (-1))) (pd + 3) (va_up (I1 (pd + 3)) D.length (-1))) pd (va_up (I1 pd) 3 (nI (D.length + 1)))) := (hmPf.sp gs1).tr (hmPf.ad hdp (fun x p => by rw [va_up_ne _ _ (by omega), va_up_ne _ _ (by omega), va_up_ne _ _ (by omega), va_up_ne _ _ (by omega)]))
      have aX : (va_up (va_up (va_up (va_up I1 (pd + 1) (va_up (I1 (pd + 1)) D.length 3)) (pd + 2) (va_up (I1 (pd + 2)) D.length (-1))) (pd + 3) (va_up (I1 (pd + 3)) D.length (-1))) pd (va_up (I1 pd) 3 (nI (D.length + 1)))) a = I a := by rw [va_up_ne _ _ (by omega), va_up_ne _ _ (by omega), va_up_ne _ _ (by omega), va_up_ne _ _ (by omega), gs1.1 a (by omega)]
      refine c_planAdd hpd hP1.2.1 (by omega) ?_
      simp only [Option.toList, List.nil_append, List.cons_append]
      refine Ex_aload_n 97 (i := 0) dX5_dayLine_96 rfl rfl rfl ?_
      refine Ex_bipush 99 (v := 59) dX5_dayLine_97 (by decide) rfl ?_
      refine Ex_callV (M' := MX5_passSign) 102 [.int 59] (rest := []) dX5_dayLine_99 lX5_103 mX5_passSign rfl ha.1 rfl (Nat.le_of_ble_eq_true rfl) (Nat.le_of_ble_eq_true rfl) rfl ?_
      refine c_passSign (c := 59) ha hc hCx (by decide) (fun hb => ?_) (fun hb t9 r9 I9 L9 er9 gs9 gt9 hC9 => ?_)
      · simp only [Option.toList, List.nil_append, List.cons_append]
        refine Ex_iret dX5_dayLine_102 rfl (by decide) (Or.inl rfl) ?_
        have hfl := hmFl_lt (k := 1) (t := t1) (by omega) (by omega) hC1.2.2.2.2.2.2.2
        exact hF (hmFl 1 t1) _ L1 (by rw [e0, if_pos rfl, er1]; unfold hmY3; rw [hmXs_no hb]; rfl) hfl.1 hfl.2 (gX.tr hmPf.fl) gt1 (by rw [va_up_self, va_up_self])
      · simp only [Option.toList, List.nil_append, List.cons_append]
        refine Ex_iret dX5_dayLine_102 rfl (by decide) (Or.inl rfl) ?_
        have hs9 : ∀ x, (pd ≤ x ∧ x < pd + 4) → I9 x = _ := fun x hx => gs9.1 x (by omega)
        exact hQ (D ++ [(3, 0, 0)]) t9 r9 I9 L9 (by rw [e0, if_pos rfl, er1]; unfold hmY3; rw [hmXs_yes hb, er9]; rfl) (by rw [er1, er9]; simp) (gX.tr (hmPf.sp gs9)) (gt1.tr gt9) (by rw [gs9.1 a (by omega), aX]) (hadd.kept (fun x p q => hs9 x ⟨p, q⟩)) hC9
