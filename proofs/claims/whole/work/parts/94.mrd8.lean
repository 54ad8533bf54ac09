/-- what reading an office may change -/
def hmWf (m : Nat) (I I' : xI) : Prop := (∀ x, x ≠ m → ¬ (m + 2 ≤ x ∧ x < m + 13) → I' x = I x) ∧ (∀ k, k ≠ 1 → k ≠ 3 → k ≠ 4 → k ≠ 5 → k ≠ 6 → k ≠ 8 → k ≠ 9 → k ≠ 19 → k ≠ 20 → k ≠ 33 → I' m k = I m k) ∧ (∀ j, j < 2 → I' (m + 2) j = I (m + 2) j) ∧ (∀ j, j < 6 → I' (m + 4) j = I (m + 4) j ∧ I' (m + 5) j = I (m + 5) j ∧ I' (m + 6) j = I (m + 6) j ∧ I' (m + 7) j = I (m + 7) j) ∧ I' (m + 8) 0 = I (m + 8) 0 ∧ I' (m + 9) 0 = I (m + 9) 0 ∧ ∀ i, i < 1000 → I' (m + 10) i = I (m + 10) i
theorem hmWf.vf {m : Nat} {I J K : xI} (h1 : hmWf m I J) (h2 : hmVf m J K) : hmWf m I K := ⟨fun x p q => (h2.1 x p q).trans (h1.1 x p q), fun k y1 y3 a b c d e f g h => (h2.2.1 k a b c d e f g h).trans (h1.2.1 k y1 y3 a b c d e f g h), fun j p => (h2.2.2.1 j p).trans (h1.2.2.1 j p), fun j p => by
  obtain ⟨a1, a2, a3, a4⟩ := h1.2.2.2.1 j p
  obtain ⟨b1, b2, b3, b4⟩ := h2.2.2.2.1 j p
  exact ⟨b1.trans a1, b2.trans a2, b3.trans a3, b4.trans a4⟩, h2.2.2.2.2.1.trans h1.2.2.2.2.1, h2.2.2.2.2.2.1.trans h1.2.2.2.2.2.1, fun i p => (h2.2.2.2.2.2.2 i p).trans (h1.2.2.2.2.2.2 i p)⟩
set_option maxHeartbeats 4000000 in
theorem mc_readsAll {d : Nat} {sh : xSh} {R : xR} {L : xL} {I : xI} {Q : xQ} {m : Nat} {T : List Nat} (hm : xModel sh R m) (hT : hmTm I m T) (hc : ∀ x, x ∈ T → x < 127) {t : hmTok} {r : List hmTok} (hts : hmTsR T (t :: r) 0) (hlen : (t :: r).length ≤ 1001) (hF : ∀ F I' L', hmRO 1000 hmDr0 (t :: r) = .inl F → 1 ≤ F → F < 20000 → hmWf m I I' → hmVl m L L' → I' m 1 = 0 → I' m 9 = nI F → Q (some (.int 0)) 0 sh R L' I') (hQ : ∀ D I' L', hmRO 1000 hmDr0 (t :: r) = .inr D → hmDrOk D → hmWf m I I' → hmVl m L L' → I' m 1 = 0 → hmDm I' L' m D → Q (some (.int 1)) 0 sh R L' I') : Ex (d + 4) 0 0 MX9_readsAll 0 sh R L I 0 [some (.ref m), none] [] Q := by
  refine Ex_aload_n 1 (i := 0) dX9_readsAll_0 rfl rfl rfl ?_
  refine Ex_getR 4 dX9_readsAll_1 fX9_13 (xMs_0 hm) rfl (xMr_10 hm) rfl ?_
  refine Ex_iconst 5 (v := 2) dX9_readsAll_4 (by decide) rfl ?_
  refine Ex_iconst 6 (v := 0) dX9_readsAll_5 (by decide) rfl ?_
  refine Ex_sI 7 2 (I (m + 2)) (va_up I (m + 2) (va_up (I (m + 2)) 2 0)) dX9_readsAll_6 (xMs_2 hm) rfl (by decide) (by decide) rfl rfl rfl ?_
  refine Ex_aload_n 8 (i := 0) dX9_readsAll_7 rfl rfl rfl ?_
  refine Ex_getR 11 dX9_readsAll_8 fX9_13 (xMs_0 hm) rfl (xMr_10 hm) rfl ?_
  refine Ex_iconst 12 (v := 3) dX9_readsAll_11 (by decide) rfl ?_
  refine Ex_iconst 13 (v := 5) dX9_readsAll_12 (by decide) rfl ?_
  refine Ex_sI 14 3 (va_up (I (m + 2)) 2 0) (va_up I (m + 2) (va_up (va_up (I (m + 2)) 2 0) 3 5)) dX9_readsAll_13 (xMs_2 hm) rfl (by decide) (by decide) (va_up_self _ _ _) (va_up_up _ _ _ _) rfl ?_
  refine Ex_aload_n 15 (i := 0) dX9_readsAll_14 rfl rfl rfl ?_
  refine Ex_getR 18 dX9_readsAll_15 fX9_32 (xMs_0 hm) rfl (xMr_16 hm) rfl ?_
  refine Ex_iconst 19 (v := 1) dX9_readsAll_18 (by decide) rfl ?_
  refine Ex_sipush 22 (v := 1000) dX9_readsAll_19 (by decide) rfl ?_
  refine Ex_sI 23 1 (I (m + 8)) (va_up (va_up I (m + 2) (va_up (va_up (I (m + 2)) 2 0) 3 5)) (m + 8) (va_up (I (m + 8)) 1 1000)) dX9_readsAll_22 (xMs_8 hm) rfl (by decide) (by decide) (va_up_ne _ _ (by omega)) rfl rfl ?_
  refine Ex_aload_n 24 (i := 0) dX9_readsAll_23 rfl rfl rfl ?_
  refine Ex_getR 27 dX9_readsAll_24 fX9_35 (xMs_0 hm) rfl (xMr_17 hm) rfl ?_
  refine Ex_iconst 28 (v := 1) dX9_readsAll_27 (by decide) rfl ?_
  refine Ex_sipush 31 (v := 1000) dX9_readsAll_28 (by decide) rfl ?_
  refine Ex_sI 32 1 (I (m + 9)) (va_up (va_up (va_up I (m + 2) (va_up (va_up (I (m + 2)) 2 0) 3 5)) (m + 8) (va_up (I (m + 8)) 1 1000)) (m + 9) (va_up (I (m + 9)) 1 1000)) dX9_readsAll_31 (xMs_9 hm) rfl (by decide) (by decide) ((va_up_ne _ _ (by omega)).trans (va_up_ne _ _ (by omega))) rfl rfl ?_
  refine Ex_aload_n 33 (i := 0) dX9_readsAll_32 rfl rfl rfl ?_
  refine Ex_iconst 34 (v := 0) dX9_readsAll_33 (by decide) rfl ?_
  refine Ex_pI 37 (I m) (va_up (va_up (va_up (va_up I (m + 2) (va_up (va_up (I (m + 2)) 2 0) 3 5)) (m + 8) (va_up (I (m + 8)) 1 1000)) (m + 9) (va_up (I (m + 9)) 1 1000)) m (va_up (I m) 20 0)) dX9_readsAll_34 fX9_271 rfl (xMs_0 hm) (by decide) (fun _ => rfl) ((va_up_ne _ _ (by omega)).trans ((va_up_ne _ _ (by omega)).trans (va_up_ne _ _ (by omega)))) rfl rfl rfl ?_
  refine Ex_aload_n 38 (i := 0) dX9_readsAll_37 rfl rfl rfl ?_
  refine Ex_sipush 41 (v := 1000) dX9_readsAll_38 (by decide) rfl ?_
  refine Ex_pI 44 (va_up (I m) 20 0) (va_up (va_up (va_up (va_up I (m + 2) (va_up (va_up (I (m + 2)) 2 0) 3 5)) (m + 8) (va_up (I (m + 8)) 1 1000)) (m + 9) (va_up (I (m + 9)) 1 1000)) m (va_up (va_up (I m) 20 0) 19 1000)) dX9_readsAll_41 fX9_168 rfl (xMs_0 hm) (by decide) (fun _ => rfl) (va_up_self _ _ _) rfl (va_up_up _ _ _ _) rfl ?_
  refine Ex_aload_n 45 (i := 0) dX9_readsAll_44 rfl rfl rfl ?_
  refine Ex_callV (M' := MX9_begins) 48 [] (rest := []) dX9_readsAll_45 lX9_278 mX9_begins rfl (xMs_0 hm) rfl (Nat.le_of_ble_eq_true rfl) (Nat.le_of_ble_eq_true rfl) rfl ?_
  obtain ⟨I0, eI0⟩ : ∃ I0, I0 = (va_up (va_up (va_up (va_up I (m + 2) (va_up (va_up (I (m + 2)) 2 0) 3 5)) (m + 8) (va_up (I (m + 8)) 1 1000)) (m + 9) (va_up (I (m + 9)) 1 1000)) m (va_up (va_up (I m) 20 0) 19 1000)) := ⟨_, rfl⟩
  rw [← eI0]
  have z2 : I0 (m + 2) = va_up (va_up (I (m + 2)) 2 0) 3 5 := by rw [eI0, va_up_ne _ _ (by omega), va_up_ne _ _ (by omega), va_up_ne _ _ (by omega), va_up_self]
  have z8 : I0 (m + 8) = va_up (I (m + 8)) 1 1000 := by rw [eI0, va_up_ne _ _ (by omega), va_up_ne _ _ (by omega), va_up_self]
  have z9 : I0 (m + 9) = va_up (I (m + 9)) 1 1000 := by rw [eI0, va_up_ne _ _ (by omega), va_up_self]
  have zm : I0 m = va_up (va_up (I m) 20 0) 19 1000 := by rw [eI0, va_up_self]
  have zz : ∀ x, x ≠ m → x ≠ m + 2 → x ≠ m + 8 → x ≠ m + 9 → I0 x = I x := fun x a b c d => by rw [eI0, va_up_ne _ _ a, va_up_ne _ _ d, va_up_ne _ _ c, va_up_ne _ _ b]
  have hT0 : hmTm I0 m T := ⟨hT.1, by rw [zm, va_up_ne _ _ (by omega), va_up_ne _ _ (by omega)]; exact hT.2.1, fun i hi => by rw [zz (m + 1) (by omega) (by omega) (by omega) (by omega)]; exact hT.2.2 i hi⟩
  refine mc_begins hm hT0 hc hts (fun I1 L1 g1 g2 e1 l1 hA1 => ?_)
  simp only [Option.toList, List.nil_append, List.cons_append]
  have gW : hmWf m I I1 := ⟨fun x p q => by rw [g1 x p, zz x p (by omega) (by omega) (by omega)], fun k y1 y3 a b c d e f g h => by rw [g2 k y1 a b c d y3, zm, va_up_ne _ _ f, va_up_ne _ _ g], fun j p => by rw [g1 (m + 2) (by omega), z2, va_up_ne _ _ (by omega), va_up_ne _ _ (by omega)], fun j p => by rw [g1 (m + 4) (by omega), g1 (m + 5) (by omega), g1 (m + 6) (by omega), g1 (m + 7) (by omega), zz (m + 4) (by omega) (by omega) (by omega) (by omega), zz (m + 5) (by omega) (by omega) (by omega) (by omega), zz (m + 6) (by omega) (by omega) (by omega) (by omega), zz (m + 7) (by omega) (by omega) (by omega) (by omega)]; exact ⟨rfl, rfl, rfl, rfl⟩, by rw [g1 (m + 8) (by omega), z8, va_up_ne _ _ (by omega)], by rw [g1 (m + 9) (by omega), z9, va_up_ne _ _ (by omega)], fun i p => by rw [g1 (m + 10) (by omega), zz (m + 10) (by omega) (by omega) (by omega) (by omega)]⟩
  have gV : hmVl m L L1 := hmVl.nl l1
  refine mc_readsAll_loop (I := I1) (L := L1) (ts := t :: r) hm hc (fun F I' L' e f1 f2 v1 v2 k9 => hF F I' L' e f1 f2 (gW.vf v1) (gV.tr v2) (by rw [v1.2.1 1 (by omega) (by omega) (by omega) (by omega) (by omega) (by omega) (by omega) (by omega)]; exact e1) k9) (fun D I' L' e hD v1 v2 hM => hQ D I' L' e hD (gW.vf v1) (gV.tr v2) (by rw [v1.2.1 1 (by omega) (by omega) (by omega) (by omega) (by omega) (by omega) (by omega) (by omega)]; exact e1) hM) 1000 t r hmDr0 I1 L1 hlen (by omega) rfl ⟨by decide, fun c hc => absurd hc List.not_mem_nil, fun n hn => absurd hn (by simp [hmDr0])⟩ hmVf.rf hmVl.rf ?_ hA1 (hmTsR_ok _ _ hts)
  have em : ∀ k, k = 19 ∨ k = 20 → I1 m k = I0 m k := fun k hk => g2 k (by omega) (by omega) (by omega) (by omega) (by omega) (by omega)
  refine ⟨?_, ?_, fun w hw => absurd hw (Nat.not_lt_zero _), ?_, ?_, Or.inl ⟨rfl, ?_, ?_⟩⟩
  · rw [g1 (m + 2) (by omega), z2, va_up_ne _ _ (by omega), va_up_self]; rfl
  · rw [g1 (m + 2) (by omega), z2, va_up_self]; rfl
  · rw [em 20 (by omega), zm, va_up_ne _ _ (by omega), va_up_self]; rfl
  · rw [g1 (m + 8) (by omega), z8, va_up_self]; rfl
  · rw [g1 (m + 9) (by omega), z9, va_up_self]; rfl
  · rw [em 19 (by omega), zm, va_up_self]; rfl
set_option maxHeartbeats 4000000 in
theorem mc_shifts2_loop {d : Nat} {sh : xSh} {R : xR} {L : xL} {I : xI} {Q : xQ} {a : Nat} (hs : sh a = some (.inr (.int, 4))) (hQ : ∀ r', (∀ j, j < 2 → r' j = I a (2 + j)) → (∀ j, 2 ≤ j → r' j = I a j) → Q none 0 sh R L (va_up I a r')) : ∀ n i r, n + i = 2 → (∀ j, j < i → r j = I a (2 + j)) → (∀ j, i ≤ j → r j = I a j) → Ex d 0 0 MX9_shifts 0 sh R L (va_up I a r) 2 [some (.ref a), some (.int (nI 2)), some (.int (nI i))] [] Q := by
  intro n
  induction n with
  | zero =>
    intro i r hi h1 h2
    have hx : i = 2 := by omega
    subst hx
    refine Ex_iload_n 3 (i := 2) dX9_shifts_2 rfl rfl rfl ?_
    refine Ex_iload_n 4 (i := 1) dX9_shifts_3 rfl rfl rfl ?_
    refine Ex_icmp_ge 7 21 dX9_shifts_4 (by decide) rfl (fun c1 => ?_) (fun c1 => absurd c1 (fun q => q (Int32.le_refl _)))
    refine Ex_ret0 dX9_shifts_21 rfl (Or.inl rfl) ?_
    exact hQ r h1 h2
  | succ n ih =>
    intro i r hi h1 h2
    refine Ex_iload_n 3 (i := 2) dX9_shifts_2 rfl rfl rfl ?_
    refine Ex_iload_n 4 (i := 1) dX9_shifts_3 rfl rfl rfl ?_
    refine Ex_icmp_ge 7 21 dX9_shifts_4 (by decide) rfl (fun c1 => absurd c1 (nI_ge (b := 2) (by omega) (by omega))) (fun c1 => ?_)
    refine Ex_aload_n 8 (i := 0) dX9_shifts_7 rfl rfl rfl ?_
    refine Ex_iload_n 9 (i := 2) dX9_shifts_8 rfl rfl rfl ?_
    refine Ex_aload_n 10 (i := 0) dX9_shifts_9 rfl rfl rfl ?_
    refine Ex_iload_n 11 (i := 1) dX9_shifts_10 rfl rfl rfl ?_
    refine Ex_iload_n 12 (i := 2) dX9_shifts_11 rfl rfl rfl ?_
    refine Ex_iadd 13 dX9_shifts_12 rfl ?_
    refine Ex_aI 14 (2 + i) (r (2 + i)) dX9_shifts_13 hs (hm_ad rfl rfl) (by omega) (by decide) (congrFun (va_up_self _ _ _) _) rfl ?_
    refine Ex_sI 15 i r (va_up I a (va_up r i (r (2 + i)))) dX9_shifts_14 hs rfl (by omega) (by decide) (va_up_self _ _ _) (va_up_up _ _ _ _) rfl ?_
    refine Ex_iinc 18 (v := (nI (i + 1))) (ls' := [some (.ref a), some (.int (nI 2)), some (.int (nI (i + 1)))]) dX9_shifts_15 rfl (xinc _) (Nat.le_of_ble_eq_true rfl) rfl rfl rfl ?_
    refine Ex_goto 2 dX9_shifts_18 (by decide) ?_
    refine ih (i + 1) _ (by omega) (fun j hj => ?_) (fun j hj => ?_)
    · by_cases e : j = i
      · rw [e, va_up_self, h2 _ (by omega)]
      · rw [va_up_ne _ _ e]
        exact h1 j (by omega)
    · rw [va_up_ne _ _ (by omega)]
      exact h2 j (by omega)
set_option maxHeartbeats 4000000 in
theorem mc_shifts2 {d : Nat} {sh : xSh} {R : xR} {L : xL} {I : xI} {Q : xQ} {a : Nat} (hs : sh a = some (.inr (.int, 4))) (hQ : ∀ r', (∀ j, j < 2 → r' j = I a (2 + j)) → (∀ j, 2 ≤ j → r' j = I a j) → Q none 0 sh R L (va_up I a r')) : Ex d 0 0 MX9_shifts 0 sh R L I 0 [some (.ref a), some (.int (nI 2)), none] [] Q := by
  refine Ex_iconst 1 (v := 0) dX9_shifts_0 (by decide) rfl ?_
  refine Ex_istore_n 2 (i := 2) (ls' := [some (.ref a), some (.int (nI 2)), some (.int 0)]) dX9_shifts_1 rfl (Nat.le_of_ble_eq_true rfl) rfl rfl rfl ?_
  refine Ex_I (I' := va_up I a (I a)) (by rw [va_up_id]) ?_
  exact mc_shifts2_loop hs hQ 2 0 (I a) rfl (fun j hj => absurd hj (Nat.not_lt_zero _)) (fun j _ => rfl)
set_option maxHeartbeats 4000000 in
theorem mc_shifts6_loop {d : Nat} {sh : xSh} {R : xR} {L : xL} {I : xI} {Q : xQ} {a : Nat} (hs : sh a = some (.inr (.int, 12))) (hQ : ∀ r', (∀ j, j < 6 → r' j = I a (6 + j)) → (∀ j, 6 ≤ j → r' j = I a j) → Q none 0 sh R L (va_up I a r')) : ∀ n i r, n + i = 6 → (∀ j, j < i → r j = I a (6 + j)) → (∀ j, i ≤ j → r j = I a j) → Ex d 0 0 MX9_shifts 0 sh R L (va_up I a r) 2 [some (.ref a), some (.int (nI 6)), some (.int (nI i))] [] Q := by
  intro n
  induction n with
  | zero =>
    intro i r hi h1 h2
    have hx : i = 6 := by omega
    subst hx
    refine Ex_iload_n 3 (i := 2) dX9_shifts_2 rfl rfl rfl ?_
    refine Ex_iload_n 4 (i := 1) dX9_shifts_3 rfl rfl rfl ?_
    refine Ex_icmp_ge 7 21 dX9_shifts_4 (by decide) rfl (fun c1 => ?_) (fun c1 => absurd c1 (fun q => q (Int32.le_refl _)))
    refine Ex_ret0 dX9_shifts_21 rfl (Or.inl rfl) ?_
    exact hQ r h1 h2
  | succ n ih =>
    intro i r hi h1 h2
    refine Ex_iload_n 3 (i := 2) dX9_shifts_2 rfl rfl rfl ?_
    refine Ex_iload_n 4 (i := 1) dX9_shifts_3 rfl rfl rfl ?_
    refine Ex_icmp_ge 7 21 dX9_shifts_4 (by decide) rfl (fun c1 => absurd c1 (nI_ge (b := 6) (by omega) (by omega))) (fun c1 => ?_)
    refine Ex_aload_n 8 (i := 0) dX9_shifts_7 rfl rfl rfl ?_
    refine Ex_iload_n 9 (i := 2) dX9_shifts_8 rfl rfl rfl ?_
    refine Ex_aload_n 10 (i := 0) dX9_shifts_9 rfl rfl rfl ?_
    refine Ex_iload_n 11 (i := 1) dX9_shifts_10 rfl rfl rfl ?_
    refine Ex_iload_n 12 (i := 2) dX9_shifts_11 rfl rfl rfl ?_
    refine Ex_iadd 13 dX9_shifts_12 rfl ?_
    refine Ex_aI 14 (6 + i) (r (6 + i)) dX9_shifts_13 hs (hm_ad rfl rfl) (by omega) (by decide) (congrFun (va_up_self _ _ _) _) rfl ?_
    refine Ex_sI 15 i r (va_up I a (va_up r i (r (6 + i)))) dX9_shifts_14 hs rfl (by omega) (by decide) (va_up_self _ _ _) (va_up_up _ _ _ _) rfl ?_
    refine Ex_iinc 18 (v := (nI (i + 1))) (ls' := [some (.ref a), some (.int (nI 6)), some (.int (nI (i + 1)))]) dX9_shifts_15 rfl (xinc _) (Nat.le_of_ble_eq_true rfl) rfl rfl rfl ?_
    refine Ex_goto 2 dX9_shifts_18 (by decide) ?_
    refine ih (i + 1) _ (by omega) (fun j hj => ?_) (fun j hj => ?_)
    · by_cases e : j = i
      · rw [e, va_up_self, h2 _ (by omega)]
      · rw [va_up_ne _ _ e]
        exact h1 j (by omega)
    · rw [va_up_ne _ _ (by omega)]
      exact h2 j (by omega)
set_option maxHeartbeats 4000000 in
theorem mc_shifts6 {d : Nat} {sh : xSh} {R : xR} {L : xL} {I : xI} {Q : xQ} {a : Nat} (hs : sh a = some (.inr (.int, 12))) (hQ : ∀ r', (∀ j, j < 6 → r' j = I a (6 + j)) → (∀ j, 6 ≤ j → r' j = I a j) → Q none 0 sh R L (va_up I a r')) : Ex d 0 0 MX9_shifts 0 sh R L I 0 [some (.ref a), some (.int (nI 6)), none] [] Q := by
  refine Ex_iconst 1 (v := 0) dX9_shifts_0 (by decide) rfl ?_
  refine Ex_istore_n 2 (i := 2) (ls' := [some (.ref a), some (.int (nI 6)), some (.int 0)]) dX9_shifts_1 rfl (Nat.le_of_ble_eq_true rfl) rfl rfl rfl ?_
  refine Ex_I (I' := va_up I a (I a)) (by rw [va_up_id]) ?_
  exact mc_shifts6_loop hs hQ 6 0 (I a) rfl (fun j hj => absurd hj (Nat.not_lt_zero _)) (fun j _ => rfl)
set_option maxHeartbeats 4000000 in
theorem mc_shifts1000_loop {d : Nat} {sh : xSh} {R : xR} {L : xL} {I : xI} {Q : xQ} {a : Nat} (hs : sh a = some (.inr (.int, 2000))) (hQ : ∀ r', (∀ j, j < 1000 → r' j = I a (1000 + j)) → (∀ j, 1000 ≤ j → r' j = I a j) → Q none 0 sh R L (va_up I a r')) : ∀ n i r, n + i = 1000 → (∀ j, j < i → r j = I a (1000 + j)) → (∀ j, i ≤ j → r j = I a j) → Ex d 0 0 MX9_shifts 0 sh R L (va_up I a r) 2 [some (.ref a), some (.int (nI 1000)), some (.int (nI i))] [] Q := by
  intro n
  induction n with
  | zero =>
    intro i r hi h1 h2
    have hx : i = 1000 := by omega
    subst hx
    refine Ex_iload_n 3 (i := 2) dX9_shifts_2 rfl rfl rfl ?_
    refine Ex_iload_n 4 (i := 1) dX9_shifts_3 rfl rfl rfl ?_
    refine Ex_icmp_ge 7 21 dX9_shifts_4 (by decide) rfl (fun c1 => ?_) (fun c1 => absurd c1 (fun q => q (Int32.le_refl _)))
    refine Ex_ret0 dX9_shifts_21 rfl (Or.inl rfl) ?_
    exact hQ r h1 h2
  | succ n ih =>
    intro i r hi h1 h2
    refine Ex_iload_n 3 (i := 2) dX9_shifts_2 rfl rfl rfl ?_
    refine Ex_iload_n 4 (i := 1) dX9_shifts_3 rfl rfl rfl ?_
    refine Ex_icmp_ge 7 21 dX9_shifts_4 (by decide) rfl (fun c1 => absurd c1 (nI_ge (b := 1000) (by omega) (by omega))) (fun c1 => ?_)
    refine Ex_aload_n 8 (i := 0) dX9_shifts_7 rfl rfl rfl ?_
    refine Ex_iload_n 9 (i := 2) dX9_shifts_8 rfl rfl rfl ?_
    refine Ex_aload_n 10 (i := 0) dX9_shifts_9 rfl rfl rfl ?_
    refine Ex_iload_n 11 (i := 1) dX9_shifts_10 rfl rfl rfl ?_
    refine Ex_iload_n 12 (i := 2) dX9_shifts_11 rfl rfl rfl ?_
    refine Ex_iadd 13 dX9_shifts_12 rfl ?_
    refine Ex_aI 14 (1000 + i) (r (1000 + i)) dX9_shifts_13 hs (hm_ad rfl rfl) (by omega) (by decide) (congrFun (va_up_self _ _ _) _) rfl ?_
    refine Ex_sI 15 i r (va_up I a (va_up r i (r (1000 + i)))) dX9_shifts_14 hs rfl (by omega) (by decide) (va_up_self _ _ _) (va_up_up _ _ _ _) rfl ?_
    refine Ex_iinc 18 (v := (nI (i + 1))) (ls' := [some (.ref a), some (.int (nI 1000)), some (.int (nI (i + 1)))]) dX9_shifts_15 rfl (xinc _) (Nat.le_of_ble_eq_true rfl) rfl rfl rfl ?_
    refine Ex_goto 2 dX9_shifts_18 (by decide) ?_
    refine ih (i + 1) _ (by omega) (fun j hj => ?_) (fun j hj => ?_)
    · by_cases e : j = i
      · rw [e, va_up_self, h2 _ (by omega)]
      · rw [va_up_ne _ _ e]
        exact h1 j (by omega)
    · rw [va_up_ne _ _ (by omega)]
      exact h2 j (by omega)
set_option maxHeartbeats 4000000 in
theorem mc_shifts1000 {d : Nat} {sh : xSh} {R : xR} {L : xL} {I : xI} {Q : xQ} {a : Nat} (hs : sh a = some (.inr (.int, 2000))) (hQ : ∀ r', (∀ j, j < 1000 → r' j = I a (1000 + j)) → (∀ j, 1000 ≤ j → r' j = I a j) → Q none 0 sh R L (va_up I a r')) : Ex d 0 0 MX9_shifts 0 sh R L I 0 [some (.ref a), some (.int (nI 1000)), none] [] Q := by
  refine Ex_iconst 1 (v := 0) dX9_shifts_0 (by decide) rfl ?_
  refine Ex_istore_n 2 (i := 2) (ls' := [some (.ref a), some (.int (nI 1000)), some (.int 0)]) dX9_shifts_1 rfl (Nat.le_of_ble_eq_true rfl) rfl rfl rfl ?_
  refine Ex_I (I' := va_up I a (I a)) (by rw [va_up_id]) ?_
  exact mc_shifts1000_loop hs hQ 1000 0 (I a) rfl (fun j hj => absurd hj (Nat.not_lt_zero _)) (fun j _ => rfl)
