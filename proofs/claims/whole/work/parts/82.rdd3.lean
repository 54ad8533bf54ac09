def hmYok (m : Nat) (x : Nat × Nat × Nat) : Prop := x.1 < 4 ∧ (x.1 ≠ 3 → x.2.1 < m) ∧ (x.1 = 2 → x.2.2 < m ∧ x.2.1 ≠ x.2.2)
theorem hmNc_inr {nms : List (List Nat)} {ot : Option Nat} {ts : List hmTok} {p : Nat × List hmTok} (h : hmNc nms ot ts = .inr p) : p.1 < nms.length ∧ ¬ some p.1 = ot := by
  cases ts with
  | nil => exact absurd h (by simp [hmNc])
  | cons t r =>
    rw [hmNc_c] at h
    by_cases c1 : hmNm t = true
    · rw [if_pos c1] at h
      by_cases c2 : t.2.1 ∈ nms
      · rw [if_pos c2] at h
        by_cases c3 : some (nms.idxOf t.2.1) = ot
        · rw [if_pos c3] at h
          exact absurd h (by simp)
        · rw [if_neg c3] at h
          cases h
          exact ⟨List.idxOf_lt_length_iff.mpr c2, c3⟩
      · rw [if_neg c2] at h
        exact absurd h (by simp)
    · rw [if_neg c1] at h
      exact absurd h (by simp)
theorem hmY3_inr {D : hmDay} {x : Nat × Nat × Nat} {ts : List hmTok} {p : hmDay × List hmTok} (h : hmY3 D x ts = .inr p) : p.1 = D ++ [x] := by
  obtain ⟨r, -, h2⟩ := hmBd_inr (show hmBd (hmXs 59 ts) (fun r => .inr (D ++ [x], r)) = .inr p from h)
  cases h2
  rfl
theorem hmDL_inr {nms : List (List Nat)} {D : hmDay} {ts : List hmTok} {p : hmDay × List hmTok} (h : hmDL nms D ts = .inr p) (hD : ∀ x, x ∈ D → hmYok nms.length x) : ∀ x, x ∈ p.1 → hmYok nms.length x := by
  have go : ∀ y, hmYok nms.length y → p.1 = D ++ [y] → ∀ x, x ∈ p.1 → hmYok nms.length x := fun y hy e x hx => by
    rw [e] at hx
    rcases List.mem_append.mp hx with q | q
    · exact hD x q
    · rw [List.mem_singleton.mp q]
      exact hy
  cases ts with
  | nil => exact absurd h (by simp [hmDL])
  | cons t r =>
    cases ed : hmDw t with
    | none =>
      rw [hmDL_no ed] at h
      exact absurd h (by simp)
    | some k =>
      rw [hmDL_yes ed] at h
      have hk := (hmDw_lt ed).1
      by_cases c1 : D.length = 40
      · rw [if_pos c1] at h
        exact absurd h (by simp)
      rw [if_neg c1] at h
      by_cases c2 : k = 3
      · rw [if_pos c2] at h
        exact go (3, 0, 0) ⟨by decide, fun q => absurd rfl q, fun q => absurd q (by decide)⟩ (hmY3_inr h)
      rw [if_neg c2] at h
      obtain ⟨q, h1, h⟩ := hmBd_inr (show hmBd (hmNc nms none r) (fun p => if k = 2 then hmBd (hmNc nms (some p.1) p.2) (fun q => hmY3 D (2, p.1, q.1) q.2) else hmY3 D (k, p.1, 0) p.2) = .inr p from h)
      have o1 := hmNc_inr h1
      by_cases c3 : k = 2
      · rw [if_pos c3] at h
        obtain ⟨q2, h2, h⟩ := hmBd_inr h
        have o2 := hmNc_inr h2
        exact go (2, q.1, q2.1) ⟨show (2 : Nat) < 4 by decide, fun _ => o1.1, fun _ => ⟨o2.1, fun z => o2.2 (congrArg some z.symm)⟩⟩ (hmY3_inr h)
      · rw [if_neg c3] at h
        exact go (k, q.1, 0) ⟨hk, fun _ => o1.1, fun z => absurd z c3⟩ (hmY3_inr h)
theorem hmRD_inr {nms : List (List Nat)} : ∀ (n : Nat) (D D' : hmDay) (ts : List hmTok), hmRD nms n D ts = .inr D' → (∀ x, x ∈ D → hmYok nms.length x) → ∀ x, x ∈ D' → hmYok nms.length x := by
  intro n
  induction n with
  | zero =>
    intro D D' ts h hD
    have h2 : (.inr D : Nat ⊕ hmDay) = .inr D' := h
    cases h2
    exact hD
  | succ n ih =>
    intro D D' ts h hD
    cases ts with
    | nil =>
      have h2 : (.inr D : Nat ⊕ hmDay) = .inr D' := h
      cases h2
      exact hD
    | cons t r =>
      rw [hmRD_c] at h
      by_cases c : t.1 = 0
      · rw [if_pos c] at h
        cases h
        exact hD
      · rw [if_neg c] at h
        obtain ⟨p, h1, h⟩ := hmBd_inr h
        exact ih p.1 D' p.2 h (hmDL_inr h1 hD)
set_option maxHeartbeats 4000000 in
theorem c_readDay_loop {d : Nat} {sh : xSh} {R : xR} {L : xL} {I : xI} {Q : xQ} {a dk pd : Nat} {T : List Nat} (ha : xReader sh R a) (hdk : xDesk sh R dk) (hpd : xPlan sh R pd) (hdis : a + 3 ≤ dk ∨ dk + 9 ≤ a) (hdp : a + 3 ≤ pd ∨ pd + 4 ≤ a) (hdq : dk + 9 ≤ pd ∨ pd + 4 ≤ dk) (hc : ∀ x, x ∈ T → x < 127) {nms : List (List Nat)} (hnl : nms.length ≤ 6) (h6 : I dk 6 = nI nms.length) (hnm : ∀ i, i < nms.length → L (dk + 1) i = hmE256 (nms.getD i []) ∧ hmWd (nms.getD i [])) {ts : List hmTok} (hF : ∀ F I' L', hmRD nms 1000 [] ts = .inl F → 1 ≤ F → F < 20000 → hmRz a pd 4 I I' → hmSl (a + 1) L L' → I' (a + 1) 1 = 0 → Q (some (.int (nI F))) 0 sh R L' I') (hQ : ∀ D I' L', hmRD nms 1000 [] ts = .inr D → hmRz a pd 4 I I' → hmSl (a + 1) L L' → I' (a + 1) 1 = 0 → hmPl I' pd D → Q (some (.int 0)) 0 sh R L' I') : ∀ (k i : Nat) (t : hmTok) (r : List hmTok) (D : hmDay) (J : xI) (LL : xL), k + i = 1000 → hmRD nms 1000 [] ts = hmRD nms k D (t :: r) → hmRz a pd 4 I J → hmSl (a + 1) L LL → J a 1 = 0 → hmPl J pd D → hmCx J LL a T t r → Ex (d + 8) 0 0 MX5_readDay 0 sh R LL J 22 [some (.ref a), some (.ref pd), some (.ref dk), some (.int 1), some (.int (nI i))] [] Q := by
  intro k
  induction k with
  | zero =>
    intro i t r D J LL hk he gJ gL j1 hD hC
    obtain ⟨s2, s3, sv, s0, s5, sk, sp⟩ := id hC.2
    have k4 := sk.2.2.2
    refine Ex_iload 24 dX5_readDay_22 rfl rfl ?_
    refine Ex_sipush 27 (v := 1000) dX5_readDay_24 (by decide) rfl ?_
    refine Ex_icmp_ge 30 57 dX5_readDay_27 (by decide) rfl (fun c1 => ?_) (fun c1 => absurd c1 (fun q => q (nI_le (a := 1000) (by omega) (by omega))))
    refine Ex_aload_n 58 (i := 0) dX5_readDay_57 rfl rfl rfl ?_
    refine Ex_getR 61 dX5_readDay_58 fX5_12 ha.1 rfl ha.2.2.2.1 rfl ?_
    refine Ex_callV (M' := MX7_clear) 64 [] (rest := []) dX5_readDay_61 lX5_44 mX7_clear rfl ha.2.1 rfl (Nat.le_of_ble_eq_true rfl) (Nat.le_of_ble_eq_true rfl) rfl ?_
    refine c_tapeClear (xR_t ha) ?_
    simp only [Option.toList, List.nil_append, List.cons_append]
    refine Ex_aload_n 65 (i := 0) dX5_readDay_64 rfl rfl rfl ?_
    refine Ex_gI 68 (J a 1) dX5_readDay_65 fX5_30 ha.1 rfl (congrFun (va_up_ne _ _ (by omega)) _) rfl ?_
    rw [j1]
    refine Ex_iret dX5_readDay_68 rfl rfl (Or.inl rfl) ?_
    exact hQ D _ LL (he) (fun x p q s => by rw [va_up_ne _ _ q]; exact gJ x p q s) gL (by rw [va_up_self, va_up_self]) (hD.kept (fun x p q => va_up_ne _ _ (by omega)))
  | succ k ih =>
    intro i t r D J LL hk he gJ gL j1 hD hC
    obtain ⟨s2, s3, sv, s0, s5, sk, sp⟩ := id hC.2
    have k4 := sk.2.2.2
    refine Ex_iload 24 dX5_readDay_22 rfl rfl ?_
    refine Ex_sipush 27 (v := 1000) dX5_readDay_24 (by decide) rfl ?_
    refine Ex_icmp_ge 30 57 dX5_readDay_27 (by decide) rfl (fun c1 => absurd c1 (nI_ge (b := 1000) (by omega) (by omega))) (fun c1 => ?_)
    refine Ex_iload_n 31 (i := 3) dX5_readDay_30 rfl rfl rfl ?_
    refine Ex_if_eq 34 57 dX5_readDay_31 (by decide) rfl (fun c2 => absurd c2 (by decide)) (fun c2 => ?_)
    refine Ex_aload_n 35 (i := 0) dX5_readDay_34 rfl rfl rfl ?_
    refine Ex_getR 38 dX5_readDay_35 fX5_12 ha.1 rfl ha.2.2.2.1 rfl ?_
    refine Ex_gI 41 (J (a + 1) 2) dX5_readDay_38 fX5_37 ha.2.1 rfl rfl rfl ?_
    rw [s2]
    refine Ex_if_eq 44 57 dX5_readDay_41 (by decide) rfl (fun c3 => ?_) (fun c3 => ?_)
    · have t0 : t.1 = 0 := (nI_eq (b := 0) (by omega) (by omega)).mp c3
      refine Ex_aload_n 58 (i := 0) dX5_readDay_57 rfl rfl rfl ?_
      refine Ex_getR 61 dX5_readDay_58 fX5_12 ha.1 rfl ha.2.2.2.1 rfl ?_
      refine Ex_callV (M' := MX7_clear) 64 [] (rest := []) dX5_readDay_61 lX5_44 mX7_clear rfl ha.2.1 rfl (Nat.le_of_ble_eq_true rfl) (Nat.le_of_ble_eq_true rfl) rfl ?_
      refine c_tapeClear (xR_t ha) ?_
      simp only [Option.toList, List.nil_append, List.cons_append]
      refine Ex_aload_n 65 (i := 0) dX5_readDay_64 rfl rfl rfl ?_
      refine Ex_gI 68 (J a 1) dX5_readDay_65 fX5_30 ha.1 rfl (congrFun (va_up_ne _ _ (by omega)) _) rfl ?_
      rw [j1]
      refine Ex_iret dX5_readDay_68 rfl rfl (Or.inl rfl) ?_
      exact hQ D _ LL (by rw [he, hmRD_c, if_pos t0]) (fun x p q s => by rw [va_up_ne _ _ q]; exact gJ x p q s) gL (by rw [va_up_self, va_up_self]) (hD.kept (fun x p q => va_up_ne _ _ (by omega)))
    · have t0 : ¬ t.1 = 0 := fun q => c3 (by rw [q]; rfl)
      refine Ex_aload_n 45 (i := 0) dX5_readDay_44 rfl rfl rfl ?_
      refine Ex_aload_n 46 (i := 1) dX5_readDay_45 rfl rfl rfl ?_
      refine Ex_aload_n 47 (i := 2) dX5_readDay_46 rfl rfl rfl ?_
      refine Ex_callV (M' := MX5_dayLine) 50 [.ref pd, .ref dk] (rest := []) dX5_readDay_47 lX5_50 mX5_dayLine rfl ha.1 rfl (Nat.le_of_ble_eq_true rfl) (Nat.le_of_ble_eq_true rfl) rfl ?_
      refine c_dayLine ha hdk hpd hdis hdp hdq hc hC hnl (by rw [gJ dk (by omega) (by omega) (by omega)]; exact h6) (fun i hi => by rw [gL (dk + 1) (by omega)]; exact hnm i hi) hD (fun F I1 L1 e f1 f2 g1 l1 k1 => ?_) (fun D1 t1 r1 I1 L1 e ln g1 l1 c1 hD1 hC1 => ?_)
      · simp only [Option.toList, List.nil_append, List.cons_append]
        refine Ex_istore_n 51 (i := 3) (ls' := [some (.ref a), some (.ref pd), some (.ref dk), some (.int 0), some (.int (nI i))]) dX5_readDay_50 rfl (Nat.le_of_ble_eq_true rfl) rfl rfl rfl ?_
        refine Ex_iinc 54 (v := (nI (i + 1))) (ls' := [some (.ref a), some (.ref pd), some (.ref dk), some (.int 0), some (.int (nI (i + 1)))]) dX5_readDay_51 rfl (xinc _) (Nat.le_of_ble_eq_true rfl) rfl rfl rfl ?_
        refine Ex_goto 22 dX5_readDay_54 (by decide) ?_
        refine Ex_iload 24 dX5_readDay_22 rfl rfl ?_
        refine Ex_sipush 27 (v := 1000) dX5_readDay_24 (by decide) rfl ?_
        refine Ex_icmp_ge 30 57 dX5_readDay_27 (by decide) rfl (fun c4 => ?_) (fun c4 => ?_)
        · refine Ex_aload_n 58 (i := 0) dX5_readDay_57 rfl rfl rfl ?_
          refine Ex_getR 61 dX5_readDay_58 fX5_12 ha.1 rfl ha.2.2.2.1 rfl ?_
          refine Ex_callV (M' := MX7_clear) 64 [] (rest := []) dX5_readDay_61 lX5_44 mX7_clear rfl ha.2.1 rfl (Nat.le_of_ble_eq_true rfl) (Nat.le_of_ble_eq_true rfl) rfl ?_
          refine c_tapeClear (xR_t ha) ?_
          simp only [Option.toList, List.nil_append, List.cons_append]
          refine Ex_aload_n 65 (i := 0) dX5_readDay_64 rfl rfl rfl ?_
          refine Ex_gI 68 (I1 a 1) dX5_readDay_65 fX5_30 ha.1 rfl (congrFun (va_up_ne _ _ (by omega)) _) rfl ?_
          refine Ex_iret dX5_readDay_68 rfl rfl (Or.inl rfl) ?_
          rw [k1]
          exact hF F _ L1 (by rw [he, hmRD_c, if_neg t0, e]; rfl) f1 f2 (fun x p q s => by rw [va_up_ne _ _ q]; exact (g1.1 x p q s).trans (gJ x p q s)) (gL.tr l1) (by rw [va_up_self, va_up_self])
        · refine Ex_iload_n 31 (i := 3) dX5_readDay_30 rfl rfl rfl ?_
          refine Ex_if_eq 34 57 dX5_readDay_31 (by decide) rfl (fun c5 => ?_) (fun c5 => absurd c5 (fun q => q (by decide)))
          refine Ex_aload_n 58 (i := 0) dX5_readDay_57 rfl rfl rfl ?_
          refine Ex_getR 61 dX5_readDay_58 fX5_12 ha.1 rfl ha.2.2.2.1 rfl ?_
          refine Ex_callV (M' := MX7_clear) 64 [] (rest := []) dX5_readDay_61 lX5_44 mX7_clear rfl ha.2.1 rfl (Nat.le_of_ble_eq_true rfl) (Nat.le_of_ble_eq_true rfl) rfl ?_
          refine c_tapeClear (xR_t ha) ?_
          simp only [Option.toList, List.nil_append, List.cons_append]
          refine Ex_aload_n 65 (i := 0) dX5_readDay_64 rfl rfl rfl ?_
          refine Ex_gI 68 (I1 a 1) dX5_readDay_65 fX5_30 ha.1 rfl (congrFun (va_up_ne _ _ (by omega)) _) rfl ?_
          refine Ex_iret dX5_readDay_68 rfl rfl (Or.inl rfl) ?_
          rw [k1]
          exact hF F _ L1 (by rw [he, hmRD_c, if_neg t0, e]; rfl) f1 f2 (fun x p q s => by rw [va_up_ne _ _ q]; exact (g1.1 x p q s).trans (gJ x p q s)) (gL.tr l1) (by rw [va_up_self, va_up_self])
      · simp only [Option.toList, List.nil_append, List.cons_append]
        refine Ex_istore_n 51 (i := 3) (ls' := [some (.ref a), some (.ref pd), some (.ref dk), some (.int 1), some (.int (nI i))]) dX5_readDay_50 rfl (Nat.le_of_ble_eq_true rfl) rfl rfl rfl ?_
        refine Ex_iinc 54 (v := (nI (i + 1))) (ls' := [some (.ref a), some (.ref pd), some (.ref dk), some (.int 1), some (.int (nI (i + 1)))]) dX5_readDay_51 rfl (xinc _) (Nat.le_of_ble_eq_true rfl) rfl rfl rfl ?_
        refine Ex_goto 22 dX5_readDay_54 (by decide) ?_
        exact ih (i + 1) t1 r1 D1 I1 L1 (by omega) (by rw [he, hmRD_c, if_neg t0, e]; rfl) (fun x p q s => (g1.1 x p q s).trans (gJ x p q s)) (gL.tr l1) (c1.trans j1) hD1 hC1
set_option maxHeartbeats 4000000 in
theorem c_readDay {d : Nat} {sh : xSh} {R : xR} {L : xL} {I : xI} {Q : xQ} {a dk pd : Nat} {T : List Nat} (ha : xReader sh R a) (hdk : xDesk sh R dk) (hpd : xPlan sh R pd) (hdis : a + 3 ≤ dk ∨ dk + 9 ≤ a) (hdp : a + 3 ≤ pd ∨ pd + 4 ≤ a) (hdq : dk + 9 ≤ pd ∨ pd + 4 ≤ dk) (hc : ∀ x, x ∈ T → x < 127) {nms : List (List Nat)} (hnl : nms.length ≤ 6) (h6 : I dk 6 = nI nms.length) (hnm : ∀ i, i < nms.length → L (dk + 1) i = hmE256 (nms.getD i []) ∧ hmWd (nms.getD i [])) {t : hmTok} {r : List hmTok} (hT : hmTp I (a + 1) T) (hts : hmTsR T (t :: r) 0) (hF : ∀ F I' L', hmRD nms 1000 [] (t :: r) = .inl F → 1 ≤ F → F < 20000 → hmRz a pd 4 I I' → hmSl (a + 1) L L' → I' (a + 1) 1 = 0 → Q (some (.int (nI F))) 0 sh R L' I') (hQ : ∀ D I' L', hmRD nms 1000 [] (t :: r) = .inr D → hmRz a pd 4 I I' → hmSl (a + 1) L L' → I' (a + 1) 1 = 0 → hmPl I' pd D → Q (some (.int 0)) 0 sh R L' I') : Ex (d + 8) 0 0 MX5_readDay 0 sh R L I 0 [some (.ref a), some (.ref pd), some (.ref dk), none, none] [] Q := by
  refine Ex_aload_n 1 (i := 1) dX5_readDay_0 rfl rfl rfl ?_
  refine Ex_iconst 2 (v := 0) dX5_readDay_1 (by decide) rfl ?_
  refine Ex_pI 5 (I pd) (va_up I pd (va_up (I pd) 3 0)) dX5_readDay_2 fX5_45 rfl hpd.1 rfl (fun _ => rfl) rfl rfl rfl rfl ?_
  refine Ex_aload_n 6 (i := 0) dX5_readDay_5 rfl rfl rfl ?_
  refine Ex_iconst 7 (v := 0) dX5_readDay_6 (by decide) rfl ?_
  refine Ex_pI 10 (I a) (va_up (va_up I pd (va_up (I pd) 3 0)) a (va_up (I a) 1 0)) dX5_readDay_7 fX5_30 rfl ha.1 rfl (fun _ => rfl) (va_up_ne _ _ (by omega)) rfl rfl rfl ?_
  refine Ex_aload_n 11 (i := 0) dX5_readDay_10 rfl rfl rfl ?_
  refine Ex_getR 14 dX5_readDay_11 fX5_12 ha.1 rfl ha.2.2.2.1 rfl ?_
  refine Ex_callV (M' := MX7_rewind) 17 [] (rest := []) dX5_readDay_14 lX5_34 mX7_rewind rfl ha.2.1 rfl (Nat.le_of_ble_eq_true rfl) (Nat.le_of_ble_eq_true rfl) rfl ?_
  have hT0 : hmTp (va_up (va_up I pd (va_up (I pd) 3 0)) a (va_up (I a) 1 0)) (a + 1) T := ⟨hT.1, by rw [va_up_ne _ _ (by omega), va_up_ne _ _ (by omega)]; exact hT.2.1, fun i hi => by rw [va_up_ne _ _ (by omega), va_up_ne _ _ (by omega)]; exact hT.2.2 i hi⟩
  refine c_rewind (xR_t ha) hT0 hc hts (fun I1 L1 gs gt hA => ?_)
  simp only [Option.toList, List.nil_append, List.cons_append]
  refine Ex_iconst 18 (v := 1) dX5_readDay_17 (by decide) rfl ?_
  refine Ex_istore_n 19 (i := 3) (ls' := [some (.ref a), some (.ref pd), some (.ref dk), some (.int 1), none]) dX5_readDay_18 rfl (Nat.le_of_ble_eq_true rfl) rfl rfl rfl ?_
  refine Ex_iconst 20 (v := 0) dX5_readDay_19 (by decide) rfl ?_
  refine Ex_istore 22 (ls' := [some (.ref a), some (.ref pd), some (.ref dk), some (.int 1), some (.int 0)]) dX5_readDay_20 (Nat.le_of_ble_eq_true rfl) rfl rfl rfl ?_
  refine c_readDay_loop (I := I) (L := L) ha hdk hpd hdis hdp hdq hc hnl h6 hnm (ts := t :: r) hF hQ 1000 0 t r [] I1 L1 rfl rfl (fun x p q s => by rw [gs.1 x q, va_up_ne _ _ p, va_up_ne _ _ (by omega)]) gt ?_ ⟨by simp, ?_, fun i hi => absurd hi (by simp)⟩ ⟨hT0.sp gs, hA⟩
  · rw [gs.1 a (by omega), va_up_self, va_up_self]
  · rw [gs.1 pd (by omega), va_up_ne _ _ (by omega), va_up_self, va_up_self]
    rfl
