theorem hmBd_inl {A B : Type} {x : Nat ⊕ A} {f : A → Nat ⊕ B} {F : Nat} (h : x = .inl F) : hmBd x f = .inl F := by rw [h]; rfl
theorem hmBd_yes {A B : Type} {x : Nat ⊕ A} {f : A → Nat ⊕ B} {a : A} (h : x = .inr a) : hmBd x f = f a := by rw [h]; rfl
set_option maxHeartbeats 4000000 in
theorem mc_day_loop {d : Nat} {sh : xSh} {R : xR} {L : xL} {I : xI} {Q : xQ} {m : Nat} {T : List Nat} (hm : xModel sh R m) (hc : ∀ x, x ∈ T → x < 127) {nms : List (List Nat)} (hn6 : nms.length ≤ 6) (h6 : I (m + 2) 0 = nI nms.length) (hnm : ∀ i, i < nms.length → L (m + 3) (0 + i) = hmE27 (nms.getD i []) ∧ hmWd (nms.getD i [])) {ts : List hmTok} (hF : ∀ F I' L', hmRD nms 1000 [] ts = .inl F → 1 ≤ F → F < 20000 → hmGy m I I' → hmNl m L L' → Q (some (.int (nI F))) 0 sh R L' I') (hQ : ∀ D I' L', hmRD nms 1000 [] ts = .inr D → (∀ x, x ≠ m → ¬ (m + 23 ≤ x ∧ x < m + 27) → I' x = I x) → (∀ k, k ≠ 4 → k ≠ 5 → k ≠ 6 → k ≠ 8 → k ≠ 9 → k ≠ 33 → I' m k = I m k) → (∀ k E, k < 5 → k ≠ 0 → hmMd I m k E → hmMd I' m k E) → hmMd I' m 0 D → hmNl m L L' → Q (some (.int 0)) 0 sh R L' I') : ∀ (k : Nat) (t : hmTok) (r : List hmTok) (D : hmDay) (J : xI) (LL : xL), (t :: r).length ≤ k + 1 → k ≤ 1000 → hmRD nms 1000 [] ts = hmRD nms k D (t :: r) → hmGy m I J → hmNl m L LL → hmMd J m 5 D → hmAm J LL m T t r → Ex (d + 4) 0 0 MX9_day 0 sh R LL J 16 [some (.ref m)] [] Q := by
  intro k
  induction k with
  | zero =>
    intro t r D J LL hlen hk eR gJ gL hD hA
    have s6 := hA.2.2.1
    have hk4 : t.1 ≤ 4 := hA.2.2.2.2.2.2.2.2.1.2.2.2
    have t0 : t.1 = 0 := Decidable.byContradiction (fun q => by
      obtain ⟨q1, _, h9⟩ := hA.2.2.2.2.2.2.2.1 q
      cases r with
      | nil => exact h9
      | cons t1 r1 =>
        rw [List.length_cons, List.length_cons] at hlen
        omega)
    have eEnd : hmRD nms 0 D (t :: r) = .inr D := rfl
    refine Ex_aload_n 17 (i := 0) dX9_day_16 rfl rfl rfl ?_
    refine Ex_gI 20 (J m 6) dX9_day_17 fX9_154 (xMs_0 hm) rfl rfl rfl ?_
    rw [s6]
    refine Ex_if_eq 23 35 dX9_day_20 (by decide) rfl (fun c1 => ?_) (fun c1 => absurd c1 (fun q => q (by rw [(hmTcd_0 hk4).mpr t0]; rfl)))
    refine Ex_aload_n 36 (i := 0) dX9_day_35 rfl rfl rfl ?_
    refine Ex_iconst 37 (v := 5) dX9_day_36 (by decide) rfl ?_
    refine Ex_iconst 38 (v := 0) dX9_day_37 (by decide) rfl ?_
    refine Ex_callV (M' := MX9_laysLines) 41 [.int 5, .int 0] (rest := []) dX9_day_38 lX9_312 mX9_laysLines rfl (xMs_0 hm) rfl (Nat.le_of_ble_eq_true rfl) (Nat.le_of_ble_eq_true rfl) rfl ?_
    refine mc_laysLines (fr := 5) (to := 0) hm (by omega) (by omega) (by omega) (fun K gK1 gK2 gK3 => ?_)
    simp only [Option.toList, List.cons_append, List.nil_append]
    refine Ex_iconst 42 (v := 0) dX9_day_41 (by decide) rfl ?_
    refine Ex_iret dX9_day_42 rfl rfl (Or.inl rfl) ?_
    exact hQ D K LL (by rw [eR]; exact eEnd) (fun x a b => by rw [gK1 x (by omega), gJ.1 x a b]) (fun k a b c d e f => by rw [gK1 m (by omega), gJ.2.1 k a b c d e f]) (fun k E hk h0 hE => gK2 k E h0 (gJ.md hk hE)) (gK3 D hD) gL
  | succ k ih =>
    intro t r D J LL hlen hk eR gJ gL hD hA
    have s6 := hA.2.2.1
    have hk4 : t.1 ≤ 4 := hA.2.2.2.2.2.2.2.2.1.2.2.2
    by_cases t0 : t.1 = 0
    · have eEnd : hmRD nms (k + 1) D (t :: r) = .inr D := by rw [hmRD_c, if_pos t0]
      refine Ex_aload_n 17 (i := 0) dX9_day_16 rfl rfl rfl ?_
      refine Ex_gI 20 (J m 6) dX9_day_17 fX9_154 (xMs_0 hm) rfl rfl rfl ?_
      rw [s6]
      refine Ex_if_eq 23 35 dX9_day_20 (by decide) rfl (fun c1 => ?_) (fun c1 => absurd c1 (fun q => q (by rw [(hmTcd_0 hk4).mpr t0]; rfl)))
      refine Ex_aload_n 36 (i := 0) dX9_day_35 rfl rfl rfl ?_
      refine Ex_iconst 37 (v := 5) dX9_day_36 (by decide) rfl ?_
      refine Ex_iconst 38 (v := 0) dX9_day_37 (by decide) rfl ?_
      refine Ex_callV (M' := MX9_laysLines) 41 [.int 5, .int 0] (rest := []) dX9_day_38 lX9_312 mX9_laysLines rfl (xMs_0 hm) rfl (Nat.le_of_ble_eq_true rfl) (Nat.le_of_ble_eq_true rfl) rfl ?_
      refine mc_laysLines (fr := 5) (to := 0) hm (by omega) (by omega) (by omega) (fun K gK1 gK2 gK3 => ?_)
      simp only [Option.toList, List.cons_append, List.nil_append]
      refine Ex_iconst 42 (v := 0) dX9_day_41 (by decide) rfl ?_
      refine Ex_iret dX9_day_42 rfl rfl (Or.inl rfl) ?_
      exact hQ D K LL (by rw [eR]; exact eEnd) (fun x a b => by rw [gK1 x (by omega), gJ.1 x a b]) (fun k a b c d e f => by rw [gK1 m (by omega), gJ.2.1 k a b c d e f]) (fun k E hk h0 hE => gK2 k E h0 (gJ.md hk hE)) (gK3 D hD) gL
    · skip
      refine Ex_aload_n 17 (i := 0) dX9_day_16 rfl rfl rfl ?_
      refine Ex_gI 20 (J m 6) dX9_day_17 fX9_154 (xMs_0 hm) rfl rfl rfl ?_
      rw [s6]
      refine Ex_if_eq 23 35 dX9_day_20 (by decide) rfl (fun c1 => absurd c1 (fun q => t0 ((hmTcd_0 hk4).mp ((nI_eq (b := 0) (by have h9 := hmTcd_le t.1; omega) (by omega)).mp q)))) (fun c1 => ?_)
      refine Ex_aload_n 24 (i := 0) dX9_day_23 rfl rfl rfl ?_
      refine Ex_callV (M' := MX9_readsLine) 27 [] (rest := []) dX9_day_24 lX9_309 mX9_readsLine rfl (xMs_0 hm) rfl (Nat.le_of_ble_eq_true rfl) (Nat.le_of_ble_eq_true rfl) rfl ?_
      refine mc_readsLine hm hA hc hn6 (by rw [gJ.1 (m + 2) (by omega) (by omega)]; exact h6) (fun i hi => by rw [gL.1 (m + 3) (by omega)]; exact hnm i hi) hD (fun F I1 L1 e f1 f2 g1 l1 k9 => ?_) (fun D1 t1 r1 I1 L1 e hln g1 l1 hD1 hA1 => ?_)
      · simp only [Option.toList, List.nil_append, List.cons_append]
        refine Ex_if_ne 30 16 dX9_day_27 (by decide) rfl (fun c2 => absurd c2 (fun q => q (by decide))) (fun c2 => ?_)
        refine Ex_aload_n 31 (i := 0) dX9_day_30 rfl rfl rfl ?_
        refine Ex_gI 34 (I1 m 9) dX9_day_31 fX9_165 (xMs_0 hm) rfl rfl rfl ?_
        refine Ex_iret dX9_day_34 rfl rfl (Or.inl rfl) ?_
        rw [k9]
        exact hF F I1 L1 (by rw [eR, hmRD_c, if_neg t0]; exact hmBd_inl e) f1 f2 (gJ.tr g1) (gL.tr l1)
      · simp only [Option.toList, List.nil_append, List.cons_append]
        refine Ex_if_ne 30 16 dX9_day_27 (by decide) rfl (fun c3 => ?_) (fun c3 => absurd c3 (by decide))
        exact ih t1 r1 D1 I1 L1 (by omega) (by omega) (by rw [eR, hmRD_c, if_neg t0]; exact hmBd_yes e) (gJ.tr g1) (gL.tr l1) hD1 hA1
set_option maxHeartbeats 4000000 in
theorem mq_day {d : Nat} {sh : xSh} {R : xR} {L : xL} {I : xI} {Q : xQ} {m : Nat} {T : List Nat} (hm : xModel sh R m) (hT : hmTm I m T) (hc : ∀ x, x ∈ T → x < 127) {t : hmTok} {r : List hmTok} (hts : hmTsR T (t :: r) 0) (hlen : (t :: r).length ≤ 1001) {nms : List (List Nat)} (hn6 : nms.length ≤ 6) (h6 : I (m + 2) 0 = nI nms.length) (hnm : ∀ i, i < nms.length → L (m + 3) (0 + i) = hmE27 (nms.getD i []) ∧ hmWd (nms.getD i [])) (hF : ∀ F I' L', hmRD nms 1000 [] (t :: r) = .inl F → 1 ≤ F → F < 20000 → (∀ x, x ≠ m → ¬ (m + 23 ≤ x ∧ x < m + 27) → I' x = I x) → (∀ k, k ≠ 0 → k ≠ 1 → k ≠ 3 → k ≠ 4 → k ≠ 5 → k ≠ 6 → k ≠ 8 → k ≠ 9 → k ≠ 33 → I' m k = I m k) → I' m 0 = 0 → I' m 1 = 0 → (∀ k E, k < 5 → hmMd I m k E → hmMd I' m k E) → hmNl m L L' → Q (some (.int (nI F))) 0 sh R L' I') (hQ : ∀ D I' L', hmRD nms 1000 [] (t :: r) = .inr D → (∀ x, x ≠ m → ¬ (m + 23 ≤ x ∧ x < m + 27) → I' x = I x) → (∀ k, k ≠ 0 → k ≠ 1 → k ≠ 3 → k ≠ 4 → k ≠ 5 → k ≠ 6 → k ≠ 8 → k ≠ 9 → k ≠ 33 → I' m k = I m k) → I' m 0 = 0 → I' m 1 = 0 → (∀ k E, k < 5 → k ≠ 0 → hmMd I m k E → hmMd I' m k E) → hmMd I' m 0 D → hmNl m L L' → Q (some (.int 0)) 0 sh R L' I') : Ex (d + 4) 0 0 MX9_day 0 sh R L I 0 [some (.ref m)] [] Q := by
  refine Ex_aload_n 1 (i := 0) dX9_day_0 rfl rfl rfl ?_
  refine Ex_iconst 2 (v := 0) dX9_day_1 (by decide) rfl ?_
  refine Ex_pI 5 (I m) (va_up I m (va_up (I m) 0 0)) dX9_day_2 fX9_130 rfl (xMs_0 hm) rfl (fun _ => rfl) rfl rfl rfl rfl ?_
  refine Ex_aload_n 6 (i := 0) dX9_day_5 rfl rfl rfl ?_
  refine Ex_getR 9 dX9_day_6 fX9_78 (xMs_0 hm) rfl (xMr_34 hm) rfl ?_
  refine Ex_iconst 10 (v := 5) dX9_day_9 (by decide) rfl ?_
  refine Ex_iconst 11 (v := 0) dX9_day_10 (by decide) rfl ?_
  refine Ex_sI 12 5 (I (m + 23)) (va_up (va_up I m (va_up (I m) 0 0)) (m + 23) (va_up (I (m + 23)) 5 0)) dX9_day_11 (xMs_23 hm) rfl (by decide) (by decide) (va_up_ne _ _ (by omega)) rfl rfl ?_
  refine Ex_aload_n 13 (i := 0) dX9_day_12 rfl rfl rfl ?_
  refine Ex_callV (M' := MX9_begins) 16 [] (rest := []) dX9_day_13 lX9_278 mX9_begins rfl (xMs_0 hm) rfl (Nat.le_of_ble_eq_true rfl) (Nat.le_of_ble_eq_true rfl) rfl ?_
  obtain ⟨I0, eI0⟩ : ∃ I0, I0 = (va_up (va_up I m (va_up (I m) 0 0)) (m + 23) (va_up (I (m + 23)) 5 0)) := ⟨_, rfl⟩
  rw [← eI0]
  have z23 : I0 (m + 23) = va_up (I (m + 23)) 5 0 := by rw [eI0, va_up_self]
  have zm : I0 m = va_up (I m) 0 0 := by rw [eI0, va_up_ne _ _ (by omega), va_up_self]
  have zz : ∀ x, x ≠ m → x ≠ m + 23 → I0 x = I x := fun x a b => by rw [eI0, va_up_ne _ _ b, va_up_ne _ _ a]
  have hT0 : hmTm I0 m T := ⟨hT.1, by rw [zm, va_up_ne _ _ (by omega)]; exact hT.2.1, fun i hi => by rw [zz (m + 1) (by omega) (by omega)]; exact hT.2.2 i hi⟩
  refine mc_begins hm hT0 hc hts (fun I1 L1 g1 g2 e1 l1 hA1 => ?_)
  simp only [Option.toList, List.nil_append, List.cons_append]
  have gx : ∀ x, x ≠ m → x ≠ m + 23 → I1 x = I x := fun x a b => by rw [g1 x a, zz x a b]
  have gd : ∀ k E, k < 5 → hmMd I m k E → hmMd I1 m k E := fun k E hk hE => by
    obtain ⟨d1, d2, d3⟩ := hE
    refine ⟨d1, by rw [g1 (m + 23) (by omega), z23, va_up_ne _ _ (by omega)]; exact d2, fun i hi => ?_⟩
    rw [gx (m + 24) (by omega) (by omega), gx (m + 25) (by omega) (by omega), gx (m + 26) (by omega) (by omega)]
    exact d3 i hi
  have em : ∀ k, k ≠ 0 → k ≠ 1 → k ≠ 3 → k ≠ 4 → k ≠ 5 → k ≠ 6 → k ≠ 8 → I1 m k = I m k := fun k a b c d e f g => by rw [g2 k b d e f g c, zm, va_up_ne _ _ a]
  have e0 : I1 m 0 = 0 := by rw [g2 0 (by omega) (by omega) (by omega) (by omega) (by omega) (by omega), zm, va_up_self]
  refine mc_day_loop (I := I1) (L := L1) hm hc hn6 (by rw [gx (m + 2) (by omega) (by omega)]; exact h6) (fun i hi => by rw [l1.1 (m + 3) (by omega)]; exact hnm i hi) (fun F I' L' e f1 f2 v1 v2 => ?_) (fun D I' L' e v1 v2 v3 v4 v5 => ?_) 1000 t r [] I1 L1 hlen (by omega) rfl hmGy.rf hmNl.rf ⟨by decide, ?_, fun i hi => absurd hi (Nat.not_lt_zero _)⟩ hA1
  · refine hF F I' L' e f1 f2 (fun x a b => by rw [v1.1 x a b, gx x a (by omega)]) (fun k a0 a1 a3 a4 a5 a6 a8 a9 a33 => by rw [v1.2.1 k a4 a5 a6 a8 a9 a33, em k a0 a1 a3 a4 a5 a6 a8]) ?_ ?_ (fun k E hk hE => v1.md hk (gd k E hk hE)) (l1.tr v2)
    · rw [v1.2.1 0 (by omega) (by omega) (by omega) (by omega) (by omega) (by omega)]; exact e0
    · rw [v1.2.1 1 (by omega) (by omega) (by omega) (by omega) (by omega) (by omega)]; exact e1
  · refine hQ D I' L' e (fun x a b => by rw [v1 x a b, gx x a (by omega)]) (fun k a0 a1 a3 a4 a5 a6 a8 a9 a33 => by rw [v2 k a4 a5 a6 a8 a9 a33, em k a0 a1 a3 a4 a5 a6 a8]) ?_ ?_ (fun k E hk h0 hE => v3 k E hk h0 (gd k E hk hE)) v4 (l1.tr v5)
    · rw [v2 0 (by omega) (by omega) (by omega) (by omega) (by omega) (by omega)]; exact e0
    · rw [v2 1 (by omega) (by omega) (by omega) (by omega) (by omega) (by omega)]; exact e1
  · rw [g1 (m + 23) (by omega), z23, va_up_self]; rfl
