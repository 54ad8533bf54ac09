theorem xHall.re {sh : xSh} {R R' : xR} {a : Nat} (h : xHall sh R a) (e : R' a = R a) : xHall sh R' a := by
  unfold xHall at h ⊢
  rw [e]
  exact h
theorem xPlan.re {sh : xSh} {R R' : xR} {a : Nat} (h : xPlan sh R a) (e : R' a = R a) : xPlan sh R' a := by
  unfold xPlan at h ⊢
  rw [e]
  exact h
theorem xRows.re {sh : xSh} {R R' : xR} {a : Nat} (h : xRows sh R a) (e : R' a = R a) : xRows sh R' a := by
  unfold xRows at h ⊢
  rw [e]
  exact h
theorem xReader.re {sh : xSh} {R R' : xR} {a : Nat} (h : xReader sh R a) (e : R' a = R a) (e1 : R' (a + 1) = R (a + 1)) : xReader sh R' a := by
  unfold xReader at h ⊢
  rw [e, e1]
  exact h
theorem xDesk.re {sh : xSh} {R R' : xR} {a : Nat} (h : xDesk sh R a) (e : R' a = R a) (e1 : R' (a + 6) = R (a + 6)) : xDesk sh R' a := by
  unfold xDesk at h ⊢
  rw [e, e1]
  exact h
theorem xHM.sw {sh : xSh} {R R' : xR} {h dk dd pl pd dk' dd' pl' pd' : Nat} (hx : xHM sh R h dk dd pl pd) (e : ∀ x, x ≠ h → R' x = R x) (ek : ∀ k, k ≠ 1 → k ≠ 2 → k ≠ 3 → k ≠ 4 → R' h k = R h k) (e1 : R' h 1 = some dk') (e2 : R' h 2 = some dd') (e3 : R' h 3 = some pl') (e4 : R' h 4 = some pd') (q1 : (dk' = dk ∧ dd' = dd) ∨ (dk' = dd ∧ dd' = dk)) (q2 : (pl' = pl ∧ pd' = pd) ∨ (pl' = pd ∧ pd' = pl)) : xHM sh R' h dk' dd' pl' pd' := by
  have a1 := xH_27 hx
  have a2 := xH_28 hx
  have b1 : xDesk sh R dk' ∧ xDesk sh R dd' := by
    rcases q1 with ⟨rfl, rfl⟩ | ⟨rfl, rfl⟩
    · exact ⟨xH_14 hx, xH_15 hx⟩
    · exact ⟨xH_15 hx, xH_14 hx⟩
  have b2 : xPlan sh R pl' ∧ xPlan sh R pd' := by
    rcases q2 with ⟨rfl, rfl⟩ | ⟨rfl, rfl⟩
    · exact ⟨xH_16 hx, xH_17 hx⟩
    · exact ⟨xH_17 hx, xH_16 hx⟩
  have c1 : (dk' = h + 4 ∧ dd' = h + 13) ∨ (dk' = h + 13 ∧ dd' = h + 4) := by omega
  have c2 : (pl' = h + 22 ∧ pd' = h + 26) ∨ (pl' = h + 26 ∧ pd' = h + 22) := by omega
  have k : ∀ j, j ≠ 1 → j ≠ 2 → j ≠ 3 → j ≠ 4 → ∀ y, R h j = some y → R' h j = some y := fun j p1 p2 p3 p4 y q => by rw [ek j p1 p2 p3 p4]; exact q
  exact ⟨xH_0 hx, k 0 (by omega) (by omega) (by omega) (by omega) _ (xH_1 hx), e1, e2, e3, e4, k 5 (by omega) (by omega) (by omega) (by omega) _ (xH_6 hx), k 6 (by omega) (by omega) (by omega) (by omega) _ (xH_7 hx), k 7 (by omega) (by omega) (by omega) (by omega) _ (xH_8 hx), k 10 (by omega) (by omega) (by omega) (by omega) _ (xH_9 hx), k 13 (by omega) (by omega) (by omega) (by omega) _ (xH_10 hx), k 14 (by omega) (by omega) (by omega) (by omega) _ (xH_11 hx), k 15 (by omega) (by omega) (by omega) (by omega) _ (xH_12 hx), (xH_13 hx).re (e _ (by omega)) (e _ (by omega)), b1.1.re (e _ (by omega)) (e _ (by omega)), b1.2.re (e _ (by omega)) (e _ (by omega)), b2.1.re (e _ (by omega)), b2.2.re (e _ (by omega)), (xH_18 hx).re (e _ (by omega)), (xH_19 hx).re (e _ (by omega)), xH_20 hx, xH_21 hx, (xH_22 hx).re (e _ (by omega)), (xH_23 hx).re (e _ (by omega)), xH_24 hx, fun i hi => ⟨by rw [e _ (by omega)]; exact (xH_25 hx i hi).1, (xH_25 hx i hi).2.re (e _ (by omega))⟩, fun i hi => ⟨by rw [e _ (by omega)]; exact (xH_26 hx i hi).1, by
    obtain ⟨m1, m2, m3, m4, m5⟩ := (xH_26 hx i hi).2
    exact ⟨m1, by rw [e _ (by omega)]; exact m2, by rw [e _ (by omega)]; exact m3, m4.re (e _ (by omega)), m5.re (e _ (by omega))⟩⟩, c1, c2⟩
set_option maxHeartbeats 4000000 in
theorem c_open3 {d : Nat} {sh : xSh} {R : xR} {L : xL} {I : xI} {Q : xQ} {h dk dd pl pd : Nat} (hx : xHM sh R h dk dd pl pd) (hQ : ∀ I', (∀ x, (∀ i, i < 4 → x ≠ h + 129 + 10 * i) → I' x = I x) → (∀ i, i < 4 → I' (h + 129 + 10 * i) 4 = 0) → Q none 0 sh R L I') : ∀ n i J, n + i = 4 → (∀ x, (∀ i, i < 4 → x ≠ h + 129 + 10 * i) → J x = I x) → (∀ j, j < i → J (h + 129 + 10 * j) 4 = 0) → Ex d 0 0 MX8_openDraft 0 sh R L J 62 [some (.ref h), none, some (.int (nI i))] [] Q := by
  intro n
  induction n with
  | zero =>
    intro i J hi f1 f2
    refine Ex_iload_n 63 (i := 2) dX8_openDraft_62 rfl rfl rfl ?_
    refine Ex_aload_n 64 (i := 0) dX8_openDraft_63 rfl rfl rfl ?_
    refine Ex_getR 67 dX8_openDraft_64 fX8_52 (xH_0 hx) rfl (xH_9 hx) rfl ?_
    refine Ex_alen 68 5 dX8_openDraft_67 (xH_21 hx) (fun _ => rfl) rfl ?_
    refine Ex_icmp_ge 71 87 dX8_openDraft_68 (by decide) rfl (fun c1 => ?_) (fun c1 => absurd c1 (fun q => q (nI_le (by omega) (by omega))))
    refine Ex_ret0 dX8_openDraft_87 rfl (Or.inl rfl) ?_
    exact hQ J f1 (fun j hj => f2 j (by omega))
  | succ n ih =>
    intro i J hi f1 f2
    have hi4 : i < 4 := by omega
    obtain ⟨ma, ema⟩ : ∃ ma, ma = h + 129 + 10 * i := ⟨_, rfl⟩
    have hma : xMark sh R ma := by rw [ema]; exact (xH_26 hx i hi4).2
    have hra : R (h + 41) i = some ma := by rw [ema]; exact (xH_26 hx i hi4).1
    refine Ex_iload_n 63 (i := 2) dX8_openDraft_62 rfl rfl rfl ?_
    refine Ex_aload_n 64 (i := 0) dX8_openDraft_63 rfl rfl rfl ?_
    refine Ex_getR 67 dX8_openDraft_64 fX8_52 (xH_0 hx) rfl (xH_9 hx) rfl ?_
    refine Ex_alen 68 5 dX8_openDraft_67 (xH_21 hx) (fun _ => rfl) rfl ?_
    refine Ex_icmp_ge 71 87 dX8_openDraft_68 (by decide) rfl (fun c1 => absurd c1 (nI_ge (by omega) (by omega))) (fun c1 => ?_)
    refine Ex_aload_n 72 (i := 0) dX8_openDraft_71 rfl rfl rfl ?_
    refine Ex_getR 75 dX8_openDraft_72 fX8_52 (xH_0 hx) rfl (xH_9 hx) rfl ?_
    refine Ex_iload_n 76 (i := 2) dX8_openDraft_75 rfl rfl rfl ?_
    refine Ex_aald 77 5 i dX8_openDraft_76 (xH_21 hx) (fun _ => rfl) rfl (by omega) (by decide) hra rfl ?_
    refine Ex_iconst 78 (v := 0) dX8_openDraft_77 (by decide) rfl ?_
    refine Ex_pI 81 (J ma) (va_up J ma (va_up (J ma) 4 0)) dX8_openDraft_78 fX8_271 rfl hma.1 (by decide) (fun _ => rfl) rfl rfl rfl rfl ?_
    refine Ex_iinc 84 (v := (nI (i + 1))) (ls' := [some (.ref h), none, some (.int (nI (i + 1)))]) dX8_openDraft_81 rfl (xinc _) (Nat.le_of_ble_eq_true rfl) rfl rfl rfl ?_
    refine Ex_goto 62 dX8_openDraft_84 (by decide) ?_
    refine ih (i + 1) _ (by omega) (fun x hx2 => ?_) (fun j hj => ?_)
    · rw [va_up_ne _ _ (by rw [ema]; exact hx2 i hi4)]
      exact f1 x hx2
    · by_cases e : j = i
      · rw [e, ← ema, va_up_self, va_up_self]
      · rw [va_up_ne _ _ (by rw [ema]; omega)]
        exact f2 j (by omega)
set_option maxHeartbeats 4000000 in
theorem c_open2 {d : Nat} {sh : xSh} {R : xR} {L : xL} {I : xI} {Q : xQ} {h dk dd pl pd : Nat} (hx : xHM sh R h dk dd pl pd) {O : hmO} (hO : hmD I dk O) (hN : hmN O ≤ 6) (hQ : ∀ I', (∀ x, x ≠ h → x ≠ pl → x ≠ h + 42 → ¬ (h + 30 ≤ x ∧ x < h + 35) → (∀ i, i < 4 → x ≠ h + 129 + 10 * i) → I' x = I x) → (∀ k, k ≠ 8 → k ≠ 11 → k ≠ 12 → I' h k = I h k) → I' h 8 = 0 → I' h 11 = 0 → I' h 12 = 0 → I' pl 3 = 0 → I' (h + 42) 4 = 0 → (∀ i, i < 4 → I' (h + 129 + 10 * i) 4 = 0) → hmR I' (h + 30) (hmBegin O) → Q none 0 sh R L I') : Ex (d + 1) 0 0 MX8_openDraft 0 sh R L I 18 [some (.ref h), none, none] [] Q := by
  have hdd := xH_27 hx
  have hpp := xH_28 hx
  refine Ex_aload_n 19 (i := 0) dX8_openDraft_18 rfl rfl rfl ?_
  refine Ex_getR 22 dX8_openDraft_19 fX8_39 (xH_0 hx) rfl (xH_6 hx) rfl ?_
  refine Ex_aload_n 23 (i := 0) dX8_openDraft_22 rfl rfl rfl ?_
  refine Ex_getR 26 dX8_openDraft_23 fX8_19 (xH_0 hx) rfl (xH_2 hx) rfl ?_
  refine Ex_callV (M' := MX1_begin) 29 [.ref dk] (rest := []) dX8_openDraft_26 lX8_290 mX1_begin rfl (xH_18 hx).1 rfl (Nat.le_of_ble_eq_true rfl) (Nat.le_of_ble_eq_true rfl) rfl ?_
  refine c_begin (xH_18 hx) (xH_14 hx) (by omega) hO hN (fun I1 f1 hH1 => ?_)
  simp only [Option.toList, List.nil_append, List.cons_append]
  refine Ex_aload_n 30 (i := 0) dX8_openDraft_29 rfl rfl rfl ?_
  refine Ex_getR 33 dX8_openDraft_30 fX8_29 (xH_0 hx) rfl (xH_4 hx) rfl ?_
  refine Ex_iconst 34 (v := 0) dX8_openDraft_33 (by decide) rfl ?_
  refine Ex_pI 37 (I1 pl) (va_up I1 pl (va_up (I1 pl) 3 0)) dX8_openDraft_34 fX8_287 rfl (xH_16 hx).1 rfl (fun _ => rfl) rfl rfl rfl rfl ?_
  refine Ex_aload_n 38 (i := 0) dX8_openDraft_37 rfl rfl rfl ?_
  refine Ex_iconst 39 (v := 0) dX8_openDraft_38 (by decide) rfl ?_
  refine Ex_pI 42 (I1 h) (va_up (va_up I1 pl (va_up (I1 pl) 3 0)) h (va_up (I1 h) 11 0)) dX8_openDraft_39 fX8_238 rfl (xH_0 hx) rfl (fun _ => rfl) (va_up_ne _ _ (by omega)) rfl rfl rfl ?_
  refine Ex_aload_n 43 (i := 0) dX8_openDraft_42 rfl rfl rfl ?_
  refine Ex_iconst 44 (v := 0) dX8_openDraft_43 (by decide) rfl ?_
  refine Ex_pI 47 (va_up (I1 h) 11 0) (va_up (va_up I1 pl (va_up (I1 pl) 3 0)) h (va_up (va_up (I1 h) 11 0) 12 0)) dX8_openDraft_44 fX8_241 rfl (xH_0 hx) rfl (fun _ => rfl) (va_up_self _ _ _) rfl (va_up_up _ _ _ _) rfl ?_
  refine Ex_aload_n 48 (i := 0) dX8_openDraft_47 rfl rfl rfl ?_
  refine Ex_iconst 49 (v := 0) dX8_openDraft_48 (by decide) rfl ?_
  refine Ex_pI 52 (va_up (va_up (I1 h) 11 0) 12 0) (va_up (va_up I1 pl (va_up (I1 pl) 3 0)) h (va_up (va_up (va_up (I1 h) 11 0) 12 0) 8 0)) dX8_openDraft_49 fX8_160 rfl (xH_0 hx) rfl (fun _ => rfl) (va_up_self _ _ _) rfl (va_up_up _ _ _ _) rfl ?_
  refine Ex_aload_n 53 (i := 0) dX8_openDraft_52 rfl rfl rfl ?_
  refine Ex_getR 56 dX8_openDraft_53 fX8_59 (xH_0 hx) rfl (xH_10 hx) rfl ?_
  refine Ex_iconst 57 (v := 0) dX8_openDraft_56 (by decide) rfl ?_
  refine Ex_pI 60 (I1 (h + 42)) (va_up (va_up (va_up I1 pl (va_up (I1 pl) 3 0)) h (va_up (va_up (va_up (I1 h) 11 0) 12 0) 8 0)) (h + 42) (va_up (I1 (h + 42)) 4 0)) dX8_openDraft_57 fX8_170 rfl (xH_22 hx).1 (by decide) (fun _ => rfl) ((va_up_ne _ _ (by omega)).trans (va_up_ne _ _ (by omega))) rfl rfl rfl ?_
  refine Ex_iconst 61 (v := 0) dX8_openDraft_60 (by decide) rfl ?_
  refine Ex_istore_n 62 (i := 2) (ls' := [some (.ref h), none, some (.int 0)]) dX8_openDraft_61 rfl (Nat.le_of_ble_eq_true rfl) rfl rfl rfl ?_
  refine c_open3 (I := (va_up (va_up (va_up I1 pl (va_up (I1 pl) 3 0)) h (va_up (va_up (va_up (I1 h) 11 0) 12 0) 8 0)) (h + 42) (va_up (I1 (h + 42)) 4 0))) hx (fun I2 g1 g2 => ?_) 4 0 _ rfl (fun _ _ => rfl) (fun j hj => absurd hj (by omega))
  have kk : ∀ x, (∀ i, i < 4 → x ≠ h + 129 + 10 * i) → x ≠ h → x ≠ pl → x ≠ h + 42 → I2 x = I1 x := fun x p q r s => by rw [g1 x p, va_up_ne _ _ s, va_up_ne _ _ q, va_up_ne _ _ r]
  have eh : I2 h = va_up (va_up (va_up (I1 h) 11 0) 12 0) 8 0 := by rw [g1 h (fun i hi => by omega), va_up_ne _ _ (by omega), va_up_self]
  have fh : I1 h = I h := f1 h (by omega)
  refine hQ I2 (fun x p q r s u => by rw [kk x u p q r, f1 x (by omega)]) (fun k p q r => by rw [eh, va_up_ne _ _ p, va_up_ne _ _ r, va_up_ne _ _ q, fh]) (by rw [eh, va_up_self]) (by rw [eh, va_up_ne _ _ (by omega), va_up_ne _ _ (by omega), va_up_self]) (by rw [eh, va_up_ne _ _ (by omega), va_up_self]) ?_ ?_ g2 ?_
  · rw [g1 pl (fun i hi => by omega), va_up_ne _ _ (by omega), va_up_ne _ _ (by omega), va_up_self, va_up_self]
  · rw [g1 (h + 42) (fun i hi => by omega), va_up_self, va_up_self]
  · exact hH1.kept (fun x p q => kk x (fun i hi => by omega) (by omega) (by omega) (by omega))
set_option maxHeartbeats 4000000 in
theorem c_openDraft {d : Nat} {sh : xSh} {R : xR} {L : xL} {I : xI} {Q : xQ} {h dk dd pl pd : Nat} (hx : xHM sh R h dk dd pl pd) {O : hmO} (hO : hmD I dd O) (hN : hmN O ≤ 6) (hQ : xHM sh (va_up R h (va_up (va_up (R h) 1 (some dd)) 2 (some dk))) h dd dk pl pd → ∀ I', (∀ x, x ≠ h → x ≠ pl → x ≠ h + 42 → ¬ (h + 30 ≤ x ∧ x < h + 35) → (∀ i, i < 4 → x ≠ h + 129 + 10 * i) → I' x = I x) → (∀ k, k ≠ 8 → k ≠ 11 → k ≠ 12 → I' h k = I h k) → I' h 8 = 0 → I' h 11 = 0 → I' h 12 = 0 → I' pl 3 = 0 → I' (h + 42) 4 = 0 → (∀ i, i < 4 → I' (h + 129 + 10 * i) 4 = 0) → hmR I' (h + 30) (hmBegin O) → Q none 0 sh (va_up R h (va_up (va_up (R h) 1 (some dd)) 2 (some dk))) L I') : Ex (d + 1) 0 0 MX8_openDraft 0 sh R L I 0 [some (.ref h), none, none] [] Q := by
  refine Ex_aload_n 1 (i := 0) dX8_openDraft_0 rfl rfl rfl ?_
  refine Ex_getR 4 dX8_openDraft_1 fX8_19 (xH_0 hx) rfl (xH_2 hx) rfl ?_
  refine Ex_astore_n 5 (i := 1) (ls' := [some (.ref h), some (.ref dk), none]) dX8_openDraft_4 rfl (Nat.le_of_ble_eq_true rfl) rfl rfl rfl ?_
  refine Ex_aload_n 6 (i := 0) dX8_openDraft_5 rfl rfl rfl ?_
  refine Ex_aload_n 7 (i := 0) dX8_openDraft_6 rfl rfl rfl ?_
  refine Ex_getR 10 dX8_openDraft_7 fX8_23 (xH_0 hx) rfl (xH_3 hx) rfl ?_
  refine Ex_pR 13 (R h) (va_up R h (va_up (R h) 1 (some dd))) dX8_openDraft_10 fX8_19 rfl (xH_0 hx) (fun _ => rfl) rfl rfl rfl rfl rfl ?_
  refine Ex_aload_n 14 (i := 0) dX8_openDraft_13 rfl rfl rfl ?_
  refine Ex_aload_n 15 (i := 1) dX8_openDraft_14 rfl rfl rfl ?_
  refine Ex_pR 18 (va_up (R h) 1 (some dd)) (va_up R h (va_up (va_up (R h) 1 (some dd)) 2 (some dk))) dX8_openDraft_15 fX8_23 rfl (xH_0 hx) (fun _ => rfl) rfl rfl (va_up_self _ _ _) (va_up_up _ _ _ _) rfl ?_
  refine Ex_fgt (ls' := [some (.ref h), none, none]) (by simp [xsub]) ?_
  have hx2 : xHM sh (va_up R h (va_up (va_up (R h) 1 (some dd)) 2 (some dk))) h dd dk pl pd := hx.sw (fun x p => va_up_ne _ _ p) (fun k p1 p2 _ _ => by rw [va_up_self, va_up_ne _ _ p2, va_up_ne _ _ p1]) (by rw [va_up_self, va_up_ne _ _ (by omega), va_up_self]) (by rw [va_up_self, va_up_self]) (by rw [va_up_self, va_up_ne _ _ (by omega), va_up_ne _ _ (by omega)]; exact xH_4 hx) (by rw [va_up_self, va_up_ne _ _ (by omega), va_up_ne _ _ (by omega)]; exact xH_5 hx) (Or.inr ⟨rfl, rfl⟩) (Or.inl ⟨rfl, rfl⟩)
  exact c_open2 hx2 hO hN (hQ hx2)
