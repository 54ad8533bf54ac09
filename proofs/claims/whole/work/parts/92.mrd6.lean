/-- the draft of the reference as far as it is read -/
def hmDm (I : xI) (L : xL) (m : Nat) (D : hmDr) : Prop := I (m + 2) 2 = nI D.1.length ∧ I (m + 2) 3 = nI (D.2.1.getD 5) ∧ (∀ w, w < D.1.length → L (m + 3) (6 + w) = hmE27 (D.1.getD w ([], 0, 0, 0, 0)).1 ∧ I (m + 4) (6 + w) = nI (D.1.getD w ([], 0, 0, 0, 0)).2.1 ∧ I (m + 5) (6 + w) = nI (D.1.getD w ([], 0, 0, 0, 0)).2.2.1 ∧ I (m + 6) (6 + w) = (D.1.getD w ([], 0, 0, 0, 0)).2.2.2.1 ∧ I (m + 7) (6 + w) = nI (D.1.getD w ([], 0, 0, 0, 0)).2.2.2.2) ∧ I m 20 = hmB D.2.1.isSome ∧ I (m + 8) 1 = nI 1000 ∧ ((D.2.2 = none ∧ I (m + 9) 1 = nI 1000 ∧ I m 19 = nI 1000) ∨ ∃ cd, D.2.2 = some cd ∧ cd ≠ [] ∧ cd.length ≤ 1000 ∧ I (m + 9) 1 = nI (1000 + cd.length) ∧ hmCd I m cd)
def hmVf (m : Nat) (I I' : xI) : Prop := (∀ x, x ≠ m → ¬ (m + 2 ≤ x ∧ x < m + 13) → I' x = I x) ∧ (∀ k, k ≠ 4 → k ≠ 5 → k ≠ 6 → k ≠ 8 → k ≠ 9 → k ≠ 19 → k ≠ 20 → k ≠ 33 → I' m k = I m k) ∧ (∀ j, j < 2 → I' (m + 2) j = I (m + 2) j) ∧ (∀ j, j < 6 → I' (m + 4) j = I (m + 4) j ∧ I' (m + 5) j = I (m + 5) j ∧ I' (m + 6) j = I (m + 6) j ∧ I' (m + 7) j = I (m + 7) j) ∧ I' (m + 8) 0 = I (m + 8) 0 ∧ I' (m + 9) 0 = I (m + 9) 0 ∧ ∀ i, i < 1000 → I' (m + 10) i = I (m + 10) i
def hmVl (m : Nat) (L L' : xL) : Prop := (∀ x, x ≠ m → x ≠ m + 3 → L' x = L x) ∧ (∀ j, j < 6 → L' (m + 3) j = L (m + 3) j) ∧ ∀ k, k ≠ 7 → L' m k = L m k
theorem hmVf.rf {m : Nat} {I : xI} : hmVf m I I := ⟨fun _ _ _ => rfl, fun _ _ _ _ _ _ _ _ _ => rfl, fun _ _ => rfl, fun _ _ => ⟨rfl, rfl, rfl, rfl⟩, rfl, rfl, fun _ _ => rfl⟩
theorem hmVf.tr {m : Nat} {I J K : xI} (h1 : hmVf m I J) (h2 : hmVf m J K) : hmVf m I K := ⟨fun x p q => (h2.1 x p q).trans (h1.1 x p q), fun k a b c d e f g h => (h2.2.1 k a b c d e f g h).trans (h1.2.1 k a b c d e f g h), fun j p => (h2.2.2.1 j p).trans (h1.2.2.1 j p), fun j p => by
  obtain ⟨a1, a2, a3, a4⟩ := h1.2.2.2.1 j p
  obtain ⟨b1, b2, b3, b4⟩ := h2.2.2.2.1 j p
  exact ⟨b1.trans a1, b2.trans a2, b3.trans a3, b4.trans a4⟩, h2.2.2.2.2.1.trans h1.2.2.2.2.1, h2.2.2.2.2.2.1.trans h1.2.2.2.2.2.1, fun i p => (h2.2.2.2.2.2.2 i p).trans (h1.2.2.2.2.2.2 i p)⟩
theorem hmVl.rf {m : Nat} {L : xL} : hmVl m L L := ⟨fun _ _ _ => rfl, fun _ _ => rfl, fun _ _ => rfl⟩
theorem hmVl.tr {m : Nat} {L J K : xL} (h1 : hmVl m L J) (h2 : hmVl m J K) : hmVl m L K := ⟨fun x p q => (h2.1 x p q).trans (h1.1 x p q), fun j p => (h2.2.1 j p).trans (h1.2.1 j p), fun k p => (h2.2.2 k p).trans (h1.2.2 k p)⟩
theorem hmVl.nl {m : Nat} {L J : xL} (h : hmNl m L J) : hmVl m L J := ⟨fun x p _ => h.1 x p, fun j _ => by rw [h.1 (m + 3) (by omega)], h.2⟩
theorem hmVl.zl {m n : Nat} {L J : xL} (h : hmZl m (6 + n) L J) : hmVl m L J := ⟨h.1, fun j p => h.2.1 j (by omega), h.2.2⟩
theorem hmVf.mm {m : Nat} {I J : xI} (h1 : ∀ x, x ≠ m → J x = I x) (h2 : ∀ k, k ≠ 4 → k ≠ 5 → k ≠ 6 → k ≠ 8 → k ≠ 9 → k ≠ 19 → k ≠ 20 → k ≠ 33 → J m k = I m k) : hmVf m I J := ⟨fun x p _ => h1 x p, h2, fun j _ => by rw [h1 (m + 2) (by omega)], fun j _ => by rw [h1 (m + 4) (by omega), h1 (m + 5) (by omega), h1 (m + 6) (by omega), h1 (m + 7) (by omega)]; exact ⟨rfl, rfl, rfl, rfl⟩, by rw [h1 (m + 8) (by omega)], by rw [h1 (m + 9) (by omega)], fun i _ => by rw [h1 (m + 10) (by omega)]⟩
theorem hmVf.fl {m : Nat} {I : xI} {v : Int32} : hmVf m I (va_up I m (va_up (I m) 9 v)) := hmVf.mm (fun x p => va_up_ne _ _ p) (fun k _ _ _ _ e _ _ _ => by rw [va_up_self, va_up_ne _ _ e])
theorem hmVf.nf {m : Nat} {I J : xI} (h : hmNf m I J) : hmVf m I J := hmVf.mm h.1 (fun k a b c d _ _ _ _ => h.2 k a b c d)
theorem hmVf.zf {m n : Nat} {I J : xI} (h : hmZf m (6 + n) I J) : hmVf m I J := ⟨fun x p q => h.1 x p (by omega), fun k a b c d e _ _ g => h.2.1 k a b c d e g, fun j p => h.2.2.1 j (by omega), fun j p => h.2.2.2 j (by omega), by rw [h.1 (m + 8) (by omega) (by omega)], by rw [h.1 (m + 9) (by omega) (by omega)], fun i _ => by rw [h.1 (m + 10) (by omega) (by omega)]⟩
theorem hmVf.rr {m : Nat} {I J : xI} (h : hmRf m I J) : hmVf m I J := ⟨fun x p q => h.1 x p (by omega) (by omega) (by omega), fun k a b c d e f _ _ => h.2.1 k a b c d e f, fun j _ => by rw [h.1 (m + 2) (by omega) (by omega) (by omega) (by omega)], fun j _ => by rw [h.1 (m + 4) (by omega) (by omega) (by omega) (by omega), h.1 (m + 5) (by omega) (by omega) (by omega) (by omega), h.1 (m + 6) (by omega) (by omega) (by omega) (by omega), h.1 (m + 7) (by omega) (by omega) (by omega) (by omega)]; exact ⟨rfl, rfl, rfl, rfl⟩, by rw [h.1 (m + 8) (by omega) (by omega) (by omega) (by omega)], by rw [h.1 (m + 9) (by omega) (by omega) (by omega) (by omega)], h.2.2⟩
theorem hmVf.up {m y : Nat} {I : xI} {k : Nat} {v : Int32} (hy : (y = m + 2 ∧ 2 ≤ k) ∨ ((y = m + 8 ∨ y = m + 9) ∧ k = 1)) : hmVf m I (va_up I y (va_up (I y) k v)) := by
  have g : ∀ z j, (z ≠ y ∨ j ≠ k) → va_up I y (va_up (I y) k v) z j = I z j := fun z j hz => by
    by_cases e : z = y
    · rw [e, va_up_self, va_up_ne _ _ (hz.resolve_left (fun q => q e))]
    · rw [va_up_ne _ _ e]
  exact ⟨fun x _ p => va_up_ne _ _ (by omega), fun j _ _ _ _ _ _ _ _ => g _ _ (by omega), fun j p => g _ _ (by omega), fun j _ => ⟨g _ _ (by omega), g _ _ (by omega), g _ _ (by omega), g _ _ (by omega)⟩, g _ _ (by omega), g _ _ (by omega), fun i _ => g _ _ (by omega)⟩
set_option maxHeartbeats 4000000 in
theorem mc_readsBelieves {d : Nat} {sh : xSh} {R : xR} {L : xL} {I : xI} {Q : xQ} {m : Nat} {T : List Nat} (hm : xModel sh R m) (hc : ∀ x, x ∈ T → x < 127) {t : hmTok} {r : List hmTok} (hA : hmAm I L m T t r) (ht : ¬ t.1 = 0) (hlen : (t :: r).length ≤ 1001) (hfr : I (m + 8) 1 = nI 1000) (hto : I (m + 9) 1 = nI 1000) (hcode : I m 19 = nI 1000) (hF : ∀ F I' L', hmLm r true [(0, false)] [] = .inl F → 1 ≤ F → F < 20000 → hmVf m I I' → hmNl m L L' → I' m 9 = nI F → Q (some (.int 0)) 0 sh R L' I') (hQ : ∀ cd t' r' I' L', hmLm r true [(0, false)] [] = .inr (cd, t' :: r') → (∀ x, x ≠ m → x ≠ m + 8 → x ≠ m + 9 → x ≠ m + 10 → x ≠ m + 11 → x ≠ m + 12 → I' x = I x) → hmVf m I I' → I' m 20 = I m 20 → I' (m + 8) 1 = nI 1000 → I' (m + 9) 1 = nI (1000 + cd.length) → hmCd I' m cd → hmNl m L L' → hmAm I' L' m T t' r' → Q (some (.int 1)) 0 sh R L' I') : Ex (d + 3) 0 0 MX9_readsBelieves 0 sh R L I 0 [some (.ref m)] [] Q := by
  refine Ex_aload_n 1 (i := 0) dX9_readsBelieves_0 rfl rfl rfl ?_
  refine Ex_getR 4 dX9_readsBelieves_1 fX9_35 (xMs_0 hm) rfl (xMr_17 hm) rfl ?_
  refine Ex_iconst 5 (v := 1) dX9_readsBelieves_4 (by decide) rfl ?_
  refine Ex_aI 6 1 (I (m + 9) 1) dX9_readsBelieves_5 (xMs_9 hm) rfl (by decide) (by decide) rfl rfl ?_
  rw [hto]
  refine Ex_aload_n 7 (i := 0) dX9_readsBelieves_6 rfl rfl rfl ?_
  refine Ex_getR 10 dX9_readsBelieves_7 fX9_32 (xMs_0 hm) rfl (xMr_16 hm) rfl ?_
  refine Ex_iconst 11 (v := 1) dX9_readsBelieves_10 (by decide) rfl ?_
  refine Ex_aI 12 1 (I (m + 8) 1) dX9_readsBelieves_11 (xMs_8 hm) rfl (by decide) (by decide) rfl rfl ?_
  rw [hfr]
  refine Ex_icmp_le 15 21 dX9_readsBelieves_12 (by decide) rfl (fun c1 => ?_) (fun c1 => absurd c1 (fun q => q (Int32.le_refl _)))
  refine Ex_aload_n 22 (i := 0) dX9_readsBelieves_21 rfl rfl rfl ?_
  refine Ex_callV (M' := MX9_nextToken) 25 [] (rest := []) dX9_readsBelieves_22 lX9_200 mX9_nextToken rfl (xMs_0 hm) rfl (Nat.le_of_ble_eq_true rfl) (Nat.le_of_ble_eq_true rfl) rfl ?_
  refine mc_nxt hm hA hc ht (fun t1 r1 I1 L1 er1 gs1 gt1 hA1 => ?_)
  simp only [Option.toList, List.nil_append, List.cons_append]
  refine Ex_aload_n 26 (i := 0) dX9_readsBelieves_25 rfl rfl rfl ?_
  refine Ex_getR 29 dX9_readsBelieves_26 fX9_32 (xMs_0 hm) rfl (xMr_16 hm) rfl ?_
  refine Ex_iconst 30 (v := 1) dX9_readsBelieves_29 (by decide) rfl ?_
  refine Ex_aload_n 31 (i := 0) dX9_readsBelieves_30 rfl rfl rfl ?_
  refine Ex_gI 34 (I1 m 19) dX9_readsBelieves_31 fX9_168 (xMs_0 hm) rfl rfl rfl ?_
  rw [gs1.2 19 (by omega) (by omega) (by omega) (by omega), hcode]
  refine Ex_sI 35 1 (I1 (m + 8)) (va_up I1 (m + 8) (va_up (I1 (m + 8)) 1 (nI 1000))) dX9_readsBelieves_34 (xMs_8 hm) rfl (by decide) (by decide) rfl rfl rfl ?_
  refine Ex_aload_n 36 (i := 0) dX9_readsBelieves_35 rfl rfl rfl ?_
  refine Ex_callV (M' := MX9_reads) 39 [] (rest := []) dX9_readsBelieves_36 lX9_275 mX9_reads rfl (xMs_0 hm) rfl (Nat.le_of_ble_eq_true rfl) (Nat.le_of_ble_eq_true rfl) rfl ?_
  have hA1x : hmAm (va_up I1 (m + 8) (va_up (I1 (m + 8)) 1 (nI 1000))) L1 m T t1 r1 := hA1.kept (fun k hk => by rw [va_up_ne _ _ (by omega)]) (va_up_ne _ _ (by omega)) rfl
  have g1 : hmVf m I (va_up I1 (m + 8) (va_up (I1 (m + 8)) 1 (nI 1000))) := (hmVf.nf gs1).tr (hmVf.up (Or.inr ⟨Or.inl rfl, rfl⟩))
  refine mc_reads hm hA1x hc (by rw [er1] at hlen; rw [List.length_cons] at hlen; omega) (by rw [va_up_ne _ _ (by omega), gs1.2 19 (by omega) (by omega) (by omega) (by omega)]; exact hcode) (fun F I2 L2 e f1 f2 g2 l2 k2 => ?_) (fun cd t2 r2 I2 L2 e g2 l2 hcd hA2 => ?_)
  · simp only [Option.toList, List.nil_append, List.cons_append]
    refine Ex_if_ne 42 44 dX9_readsBelieves_39 (by decide) rfl (fun c2 => absurd c2 (fun q => q (by decide))) (fun c2 => ?_)
    refine Ex_iconst 43 (v := 0) dX9_readsBelieves_42 (by decide) rfl ?_
    refine Ex_iret dX9_readsBelieves_43 rfl (by decide) (Or.inl rfl) ?_
    exact hF F I2 L2 (by rw [er1]; exact e) f1 f2 (g1.tr (hmVf.rr g2)) (gt1.tr l2) k2
  · simp only [Option.toList, List.nil_append, List.cons_append]
    refine Ex_if_ne 42 44 dX9_readsBelieves_39 (by decide) rfl (fun c3 => ?_) (fun c3 => absurd c3 (by decide))
    refine Ex_aload_n 45 (i := 0) dX9_readsBelieves_44 rfl rfl rfl ?_
    refine Ex_getR 48 dX9_readsBelieves_45 fX9_35 (xMs_0 hm) rfl (xMr_17 hm) rfl ?_
    refine Ex_iconst 49 (v := 1) dX9_readsBelieves_48 (by decide) rfl ?_
    refine Ex_aload_n 50 (i := 0) dX9_readsBelieves_49 rfl rfl rfl ?_
    refine Ex_gI 53 (I2 m 19) dX9_readsBelieves_50 fX9_168 (xMs_0 hm) rfl rfl rfl ?_
    rw [hcd.1]
    refine Ex_sI 54 1 (I2 (m + 9)) (va_up I2 (m + 9) (va_up (I2 (m + 9)) 1 (nI (1000 + cd.length)))) dX9_readsBelieves_53 (xMs_9 hm) rfl (by decide) (by decide) rfl rfl rfl ?_
    refine Ex_iconst 55 (v := 1) dX9_readsBelieves_54 (by decide) rfl ?_
    refine Ex_iret dX9_readsBelieves_55 rfl (by decide) (Or.inl rfl) ?_
    refine hQ cd t2 r2 _ L2 (by rw [er1]; exact e) (fun x p1 p2 p3 p4 p5 p6 => by rw [va_up_ne _ _ p3, g2.1 x p1 p4 p5 p6, va_up_ne _ _ p2, gs1.1 x p1]) ((g1.tr (hmVf.rr g2)).tr (hmVf.up (Or.inr ⟨Or.inr rfl, rfl⟩))) (by rw [va_up_ne _ _ (by omega), g2.2.1 20 (by omega) (by omega) (by omega) (by omega) (by omega) (by omega), va_up_ne _ _ (by omega), gs1.2 20 (by omega) (by omega) (by omega) (by omega)]) (by rw [va_up_ne _ _ (by omega), g2.1 (m + 8) (by omega) (by omega) (by omega) (by omega), va_up_self, va_up_self]) (by rw [va_up_self, va_up_self]) (hcd.kept (by rw [va_up_ne _ _ (by omega)]) (va_up_ne _ _ (by omega))) (gt1.tr l2) (hA2.kept (fun k hk => by rw [va_up_ne _ _ (by omega)]) (va_up_ne _ _ (by omega)) rfl)
set_option maxHeartbeats 4000000 in
theorem mc_readsBelieves3 {d : Nat} {sh : xSh} {R : xR} {L : xL} {I : xI} {Q : xQ} {m : Nat} {T : List Nat} (hm : xModel sh R m) (hc : ∀ x, x ∈ T → x < 127) {t : hmTok} {r : List hmTok} (hA : hmAm I L m T t r) (ht : ¬ t.1 = 0) (hlen : (t :: r).length ≤ 1001) (hfr : I (m + 8) 1 = nI 1000) {k : Nat} (hk : 1 ≤ k) (hk2 : k ≤ 1000) (hto : I (m + 9) 1 = nI (1000 + k)) (hQ : Q (some (.int 0)) 0 sh R L (va_up I m (va_up (I m) 9 (nI (hmFl 3 t))))) : Ex (d + 3) 0 0 MX9_readsBelieves 0 sh R L I 0 [some (.ref m)] [] Q := by
  refine Ex_aload_n 1 (i := 0) dX9_readsBelieves_0 rfl rfl rfl ?_
  refine Ex_getR 4 dX9_readsBelieves_1 fX9_35 (xMs_0 hm) rfl (xMr_17 hm) rfl ?_
  refine Ex_iconst 5 (v := 1) dX9_readsBelieves_4 (by decide) rfl ?_
  refine Ex_aI 6 1 (I (m + 9) 1) dX9_readsBelieves_5 (xMs_9 hm) rfl (by decide) (by decide) rfl rfl ?_
  rw [hto]
  refine Ex_aload_n 7 (i := 0) dX9_readsBelieves_6 rfl rfl rfl ?_
  refine Ex_getR 10 dX9_readsBelieves_7 fX9_32 (xMs_0 hm) rfl (xMr_16 hm) rfl ?_
  refine Ex_iconst 11 (v := 1) dX9_readsBelieves_10 (by decide) rfl ?_
  refine Ex_aI 12 1 (I (m + 8) 1) dX9_readsBelieves_11 (xMs_8 hm) rfl (by decide) (by decide) rfl rfl ?_
  rw [hfr]
  refine Ex_icmp_le 15 21 dX9_readsBelieves_12 (by decide) rfl (fun c1 => absurd c1 (fun q => absurd ((nI_leI (by omega) (by omega)).mp q) (by omega))) (fun c1 => ?_)
  refine Ex_aload_n 16 (i := 0) dX9_readsBelieves_15 rfl rfl rfl ?_
  refine Ex_iconst 17 (v := 3) dX9_readsBelieves_16 (by decide) rfl ?_
  refine Ex_callV (M' := MX9_fails) 20 [.int 3] (rest := []) dX9_readsBelieves_17 lX9_193 mX9_fails rfl (xMs_0 hm) rfl (Nat.le_of_ble_eq_true rfl) (Nat.le_of_ble_eq_true rfl) rfl ?_
  refine mc_fails (k := 3) hm hA ?_
  simp only [Option.toList, List.nil_append, List.cons_append]
  refine Ex_iret dX9_readsBelieves_20 rfl (by decide) (Or.inl rfl) ?_
  exact hQ
set_option maxHeartbeats 4000000 in
theorem mc_begins {d : Nat} {sh : xSh} {R : xR} {L : xL} {I : xI} {Q : xQ} {m : Nat} {T : List Nat} (hm : xModel sh R m) (hT : hmTm I m T) (hc : ∀ x, x ∈ T → x < 127) {t : hmTok} {r : List hmTok} (hts : hmTsR T (t :: r) 0) (hQ : ∀ I' L', (∀ x, x ≠ m → I' x = I x) → (∀ k, k ≠ 1 → k ≠ 4 → k ≠ 5 → k ≠ 6 → k ≠ 8 → k ≠ 3 → I' m k = I m k) → I' m 1 = 0 → hmNl m L L' → hmAm I' L' m T t r → Q none 0 sh R L' I') : Ex (d + 2) 0 0 MX9_begins 0 sh R L I 0 [some (.ref m)] [] Q := by
  refine Ex_aload_n 1 (i := 0) dX9_begins_0 rfl rfl rfl ?_
  refine Ex_aload_n 2 (i := 0) dX9_begins_1 rfl rfl rfl ?_
  refine Ex_gI 5 (I m 1) dX9_begins_2 fX9_135 (xMs_0 hm) rfl rfl rfl ?_
  rw [hT.2.1]
  refine Ex_pI 8 (I m) (va_up I m (va_up (I m) 3 (nI T.length))) dX9_begins_5 fX9_138 rfl (xMs_0 hm) rfl (fun _ => rfl) rfl rfl rfl rfl ?_
  refine Ex_aload_n 9 (i := 0) dX9_begins_8 rfl rfl rfl ?_
  refine Ex_iconst 10 (v := 0) dX9_begins_9 (by decide) rfl ?_
  refine Ex_pI 13 (va_up (I m) 3 (nI T.length)) (va_up I m (va_up (va_up (I m) 3 (nI T.length)) 1 0)) dX9_begins_10 fX9_135 rfl (xMs_0 hm) rfl (fun _ => rfl) (va_up_self _ _ _) rfl (va_up_up _ _ _ _) rfl ?_
  refine Ex_aload_n 14 (i := 0) dX9_begins_13 rfl rfl rfl ?_
  refine Ex_iconst 15 (v := 0) dX9_begins_14 (by decide) rfl ?_
  refine Ex_pI 18 (va_up (va_up (I m) 3 (nI T.length)) 1 0) (va_up I m (va_up (va_up (va_up (I m) 3 (nI T.length)) 1 0) 4 0)) dX9_begins_15 fX9_141 rfl (xMs_0 hm) rfl (fun _ => rfl) (va_up_self _ _ _) rfl (va_up_up _ _ _ _) rfl ?_
  refine Ex_aload_n 19 (i := 0) dX9_begins_18 rfl rfl rfl ?_
  refine Ex_callV (M' := MX9_nextToken) 22 [] (rest := []) dX9_begins_19 lX9_200 mX9_nextToken rfl (xMs_0 hm) rfl (Nat.le_of_ble_eq_true rfl) (Nat.le_of_ble_eq_true rfl) rfl ?_
  have hTz : hmTz (va_up I m (va_up (va_up (va_up (I m) 3 (nI T.length)) 1 0) 4 0)) m T := ⟨hT.1, by rw [va_up_self, va_up_ne _ _ (by omega), va_up_ne _ _ (by omega), va_up_self], fun i hi => by rw [va_up_ne _ _ (by omega)]; exact hT.2.2 i hi⟩
  refine mc_nextToken hm hTz hc (p := 0) (by rw [va_up_self, va_up_self]; rfl) hts (fun I1 L1 g1 g2 hA1 => ?_)
  simp only [Option.toList, List.nil_append, List.cons_append]
  refine Ex_ret0 dX9_begins_22 rfl (Or.inl rfl) ?_
  exact hQ I1 L1 (fun x p => by rw [g1.1 x p, va_up_ne _ _ p]) (fun k a b c d e f => by rw [g1.2 k b c d e, va_up_self, va_up_ne _ _ b, va_up_ne _ _ a, va_up_ne _ _ f]) (by rw [g1.2 1 (by omega) (by omega) (by omega) (by omega), va_up_self, va_up_ne _ _ (by omega), va_up_self]) g2 hA1
