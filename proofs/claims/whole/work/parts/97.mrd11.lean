def hmQv (m : Nat) (I I' : xI) : Prop := (∀ x, x ≠ m → I' x = I x) ∧ ∀ k, k ≠ 9 → k ≠ 33 → I' m k = I m k
/-- what reading a line of a day may change before it is counted; n: its place -/
def hmGg (m n : Nat) (I I' : xI) : Prop := (∀ x, x ≠ m → ¬ (m + 24 ≤ x ∧ x < m + 27) → I' x = I x) ∧ (∀ k, k ≠ 4 → k ≠ 5 → k ≠ 6 → k ≠ 8 → k ≠ 9 → k ≠ 33 → I' m k = I m k) ∧ ∀ y, m + 24 ≤ y → y < m + 27 → ∀ j, j ≠ n → I' y j = I y j
theorem hmGg.rf {m n : Nat} {I : xI} : hmGg m n I I := ⟨fun _ _ _ => rfl, fun _ _ _ _ _ _ _ => rfl, fun _ _ _ _ _ => rfl⟩
theorem hmGg.tr {m n : Nat} {I J K : xI} (h1 : hmGg m n I J) (h2 : hmGg m n J K) : hmGg m n I K := ⟨fun x p q => (h2.1 x p q).trans (h1.1 x p q), fun k a b c d e f => (h2.2.1 k a b c d e f).trans (h1.2.1 k a b c d e f), fun y p q j r => (h2.2.2 y p q j r).trans (h1.2.2 y p q j r)⟩
theorem hmGg.mm {m n : Nat} {I J : xI} (h1 : ∀ x, x ≠ m → J x = I x) (h2 : ∀ k, k ≠ 4 → k ≠ 5 → k ≠ 6 → k ≠ 8 → k ≠ 9 → k ≠ 33 → J m k = I m k) : hmGg m n I J := ⟨fun x p _ => h1 x p, h2, fun y p q j _ => by rw [h1 y (by omega)]⟩
theorem hmGg.nf {m n : Nat} {I J : xI} (h : hmNf m I J) : hmGg m n I J := hmGg.mm h.1 (fun k a b c d _ _ => h.2 k a b c d)
theorem hmGg.qv {m n : Nat} {I J : xI} (h : hmQv m I J) : hmGg m n I J := hmGg.mm h.1 (fun k _ _ _ _ e f => h.2 k e f)
theorem hmGg.fl {m n : Nat} {I : xI} {v : Int32} : hmGg m n I (va_up I m (va_up (I m) 9 v)) := hmGg.mm (fun x p => va_up_ne _ _ p) (fun k _ _ _ _ e _ => by rw [va_up_self, va_up_ne _ _ e])
theorem hmGg.up {m n y : Nat} {I : xI} {v : Int32} (hy : m + 24 ≤ y) (hy2 : y < m + 27) : hmGg m n I (va_up I y (va_up (I y) n v)) := ⟨fun x _ p => va_up_ne _ _ (by omega), fun k _ _ _ _ _ _ => by rw [va_up_ne _ _ (by omega)], fun z p q j hj => by
  by_cases e : z = y
  · rw [e, va_up_self, va_up_ne _ _ hj]
  · rw [va_up_ne _ _ e]⟩
def hmGy (m : Nat) (I I' : xI) : Prop := (∀ x, x ≠ m → ¬ (m + 23 ≤ x ∧ x < m + 27) → I' x = I x) ∧ (∀ k, k ≠ 4 → k ≠ 5 → k ≠ 6 → k ≠ 8 → k ≠ 9 → k ≠ 33 → I' m k = I m k) ∧ (∀ j, j ≠ 5 → I' (m + 23) j = I (m + 23) j) ∧ ∀ y, m + 24 ≤ y → y < m + 27 → ∀ j, j < 200 → I' y j = I y j
theorem hmGy.rf {m : Nat} {I : xI} : hmGy m I I := ⟨fun _ _ _ => rfl, fun _ _ _ _ _ _ _ => rfl, fun _ _ => rfl, fun _ _ _ _ _ => rfl⟩
theorem hmGy.tr {m : Nat} {I J K : xI} (h1 : hmGy m I J) (h2 : hmGy m J K) : hmGy m I K := ⟨fun x p q => (h2.1 x p q).trans (h1.1 x p q), fun k a b c d e f => (h2.2.1 k a b c d e f).trans (h1.2.1 k a b c d e f), fun j p => (h2.2.2.1 j p).trans (h1.2.2.1 j p), fun y p q j r => (h2.2.2.2 y p q j r).trans (h1.2.2.2 y p q j r)⟩
theorem hmGy.gg {m n : Nat} {I J : xI} (hn : 200 ≤ n) (h : hmGg m n I J) : hmGy m I J := ⟨fun x p q => h.1 x p (by omega), h.2.1, fun j _ => by rw [h.1 (m + 23) (by omega) (by omega)], fun y p q j r => h.2.2 y p q j (by omega)⟩
theorem hmGy.ln {m : Nat} {I : xI} {v : Int32} : hmGy m I (va_up I (m + 23) (va_up (I (m + 23)) 5 v)) := ⟨fun x _ p => va_up_ne _ _ (by omega), fun k _ _ _ _ _ _ => by rw [va_up_ne _ _ (by omega)], fun j p => by rw [va_up_self, va_up_ne _ _ p], fun y _ _ j _ => by rw [va_up_ne _ _ (by omega)]⟩
theorem hmGy.md {m k : Nat} {I J : xI} {D : hmDay} (h : hmGy m I J) (hk : k < 5) (hD : hmMd I m k D) : hmMd J m k D := by
  obtain ⟨d1, d2, d3⟩ := hD
  refine ⟨d1, by rw [h.2.2.1 k (by omega)]; exact d2, fun i hi => ?_⟩
  rw [h.2.2.2 (m + 24) (by omega) (by omega) _ (by omega), h.2.2.2 (m + 25) (by omega) (by omega) _ (by omega), h.2.2.2 (m + 26) (by omega) (by omega) _ (by omega)]
  exact d3 i hi
theorem hmMd_app {I J : xI} {m : Nat} {D : hmDay} {x : Nat × Nat × Nat} (h : hmMd I m 5 D) (hl : D.length < 40) (g : hmGg m (200 + D.length) I J) {K : xI} (ek : K (m + 23) 5 = nI D.length + 1) (k4 : K (m + 24) = J (m + 24)) (k5 : K (m + 25) = J (m + 25)) (k6 : K (m + 26) = J (m + 26)) (v1 : J (m + 24) (200 + D.length) = nI x.1) (v2 : x.1 ≠ 3 → J (m + 25) (200 + D.length) = nI x.2.1) (v3 : x.1 = 2 → J (m + 26) (200 + D.length) = nI x.2.2) : hmMd K m 5 (D ++ [x]) := by
  obtain ⟨d1, d2, d3⟩ := h
  refine ⟨by rw [List.length_append, List.length_singleton]; omega, by rw [ek, List.length_append, List.length_singleton]; exact xinc _, fun i hi => ?_⟩
  rw [List.length_append, List.length_singleton] at hi
  rw [k4, k5, k6]
  by_cases e : i = D.length
  · have e2 : (D ++ [x]).getD i (3, 0, 0) = x := by rw [e]; simp
    rw [e2, e]
    exact ⟨v1, v2, v3⟩
  · have e2 : (D ++ [x]).getD i (3, 0, 0) = D.getD i (3, 0, 0) := by
      have hi2 : i < D.length := by omega
      simp [List.getElem?_append_left hi2]
    rw [e2, g.2.2 (m + 24) (by omega) (by omega) _ (by omega), g.2.2 (m + 25) (by omega) (by omega) _ (by omega), g.2.2 (m + 26) (by omega) (by omega) _ (by omega)]
    exact d3 i (by omega)
set_option maxHeartbeats 4000000 in
theorem mc_needsCaller {d : Nat} {sh : xSh} {R : xR} {L : xL} {I : xI} {Q : xQ} {m : Nat} {T : List Nat} {t : hmTok} {r : List hmTok} (hm : xModel sh R m) (hA : hmAm I L m T t r) {nms : List (List Nat)} (hn6 : nms.length ≤ 6) (h6 : I (m + 2) 0 = nI nms.length) (hnm : ∀ i, i < nms.length → L (m + 3) (0 + i) = hmE27 (nms.getD i []) ∧ hmWd (nms.getD i [])) (hF : ∀ F I', (∀ ot, hmNc nms ot (t :: r) = .inl F) → 1 ≤ F → F < 20000 → hmQv m I I' → I' m 9 = nI F → Q (some (.int 0)) 0 sh R L I') (hQ : hmNm t = true → t.2.1 ∈ nms → ∀ I', hmQv m I I' → I' m 33 = nI (nms.idxOf t.2.1) → Q (some (.int 1)) 0 sh R L I') : Ex (d + 1) 0 0 MX9_needsCaller 0 sh R L I 0 [some (.ref m)] [] Q := by
  by_cases hb : hmNm t = true
  · have t2 : t.1 = 2 := by
      have h9 := hb
      unfold hmNm at h9
      exact (of_decide_eq_true h9).1
    have ek : hmB (!hmNm t) = 0 := by rw [hb]; rfl
    by_cases hin : t.2.1 ∈ nms
    · skip
      refine Ex_aload_n 1 (i := 0) dX9_needsCaller_0 rfl rfl rfl ?_
      refine Ex_callV (M' := MX9_isKept) 4 [] (rest := []) dX9_needsCaller_1 lX9_251 mX9_isKept rfl (xMs_0 hm) rfl (Nat.le_of_ble_eq_true rfl) (Nat.le_of_ble_eq_true rfl) rfl ?_
      refine mc_isKept hm hA ?_
      simp only [Option.toList, List.cons_append, List.nil_append]
      rw [ek]
      refine Ex_if_eq 7 13 dX9_needsCaller_4 (by decide) rfl (fun c1 => ?_) (fun c1 => absurd c1 (fun q => q (by decide)))
      refine Ex_aload_n 14 (i := 0) dX9_needsCaller_13 rfl rfl rfl ?_
      refine Ex_aload_n 15 (i := 0) dX9_needsCaller_14 rfl rfl rfl ?_
      refine Ex_iconst 16 (v := 0) dX9_needsCaller_15 (by decide) rfl ?_
      refine Ex_callV (M' := MX9_callerNamed) 19 [.int 0] (rest := [.ref m]) dX9_needsCaller_16 lX9_255 mX9_callerNamed rfl (xMs_0 hm) rfl (Nat.le_of_ble_eq_true rfl) (Nat.le_of_ble_eq_true rfl) rfl ?_
      refine mc_callerNamed0 hm hA t2 hn6 h6 hnm ?_
      simp only [Option.toList, List.cons_append, List.nil_append]
      rw [show hmFi nms t.2.1 = nI (nms.idxOf t.2.1) from if_pos hin]
      refine Ex_pI 22 (I m) (va_up I m (va_up (I m) 33 (nI (nms.idxOf t.2.1)))) dX9_needsCaller_19 fX9_248 rfl (xMs_0 hm) rfl (fun _ => rfl) rfl rfl rfl rfl ?_
      refine Ex_aload_n 23 (i := 0) dX9_needsCaller_22 rfl rfl rfl ?_
      refine Ex_gI 26 (nI (nms.idxOf t.2.1)) dX9_needsCaller_23 fX9_248 (xMs_0 hm) rfl (congrFun (va_up_self _ _ _) _) rfl ?_
      refine Ex_if_ge 29 37 dX9_needsCaller_26 (by decide) rfl (fun c2 => ?_) (fun c2 => absurd c2 (fun q => q (hm_nI0 (by have h9 := List.idxOf_lt_length_of_mem hin; omega))))
      refine Ex_iconst 38 (v := 1) dX9_needsCaller_37 (by decide) rfl ?_
      refine Ex_goto 42 dX9_needsCaller_38 (by decide) ?_
      refine Ex_iret dX9_needsCaller_42 rfl (by decide) (Or.inl rfl) ?_
      exact hQ hb hin _ ⟨fun x p => va_up_ne _ _ p, fun k a b => by rw [va_up_self, va_up_ne _ _ b]⟩ (by rw [va_up_self, va_up_self])
    · skip
      refine Ex_aload_n 1 (i := 0) dX9_needsCaller_0 rfl rfl rfl ?_
      refine Ex_callV (M' := MX9_isKept) 4 [] (rest := []) dX9_needsCaller_1 lX9_251 mX9_isKept rfl (xMs_0 hm) rfl (Nat.le_of_ble_eq_true rfl) (Nat.le_of_ble_eq_true rfl) rfl ?_
      refine mc_isKept hm hA ?_
      simp only [Option.toList, List.cons_append, List.nil_append]
      rw [ek]
      refine Ex_if_eq 7 13 dX9_needsCaller_4 (by decide) rfl (fun c1 => ?_) (fun c1 => absurd c1 (fun q => q (by decide)))
      refine Ex_aload_n 14 (i := 0) dX9_needsCaller_13 rfl rfl rfl ?_
      refine Ex_aload_n 15 (i := 0) dX9_needsCaller_14 rfl rfl rfl ?_
      refine Ex_iconst 16 (v := 0) dX9_needsCaller_15 (by decide) rfl ?_
      refine Ex_callV (M' := MX9_callerNamed) 19 [.int 0] (rest := [.ref m]) dX9_needsCaller_16 lX9_255 mX9_callerNamed rfl (xMs_0 hm) rfl (Nat.le_of_ble_eq_true rfl) (Nat.le_of_ble_eq_true rfl) rfl ?_
      refine mc_callerNamed0 hm hA t2 hn6 h6 hnm ?_
      simp only [Option.toList, List.cons_append, List.nil_append]
      rw [show hmFi nms t.2.1 = (-1) from if_neg hin]
      refine Ex_pI 22 (I m) (va_up I m (va_up (I m) 33 (-1))) dX9_needsCaller_19 fX9_248 rfl (xMs_0 hm) rfl (fun _ => rfl) rfl rfl rfl rfl ?_
      refine Ex_aload_n 23 (i := 0) dX9_needsCaller_22 rfl rfl rfl ?_
      refine Ex_gI 26 (-1) dX9_needsCaller_23 fX9_248 (xMs_0 hm) rfl (congrFun (va_up_self _ _ _) _) rfl ?_
      refine Ex_if_ge 29 37 dX9_needsCaller_26 (by decide) rfl (fun c2 => absurd c2 (by decide)) (fun c2 => ?_)
      refine Ex_aload_n 30 (i := 0) dX9_needsCaller_29 rfl rfl rfl ?_
      refine Ex_iconst 31 (v := 2) dX9_needsCaller_30 (by decide) rfl ?_
      refine Ex_callV (M' := MX9_fails) 34 [.int 2] (rest := []) dX9_needsCaller_31 lX9_193 mX9_fails rfl (xMs_0 hm) rfl (Nat.le_of_ble_eq_true rfl) (Nat.le_of_ble_eq_true rfl) rfl ?_
      have hAx : hmAm (va_up I m (va_up (I m) 33 (-1))) L m T t r := hA.kept (fun k hk => by rw [va_up_self, va_up_ne _ _ (by omega)]) (va_up_ne _ _ (by omega)) rfl
      refine mc_fails (k := 2) hm hAx ?_
      simp only [Option.toList, List.nil_append, List.cons_append]
      refine Ex_if_eq 37 41 dX9_needsCaller_34 (by decide) rfl (fun c3 => ?_) (fun c3 => absurd c3 (fun q => q (by decide)))
      refine Ex_iconst 42 (v := 0) dX9_needsCaller_41 (by decide) rfl ?_
      refine Ex_iret dX9_needsCaller_42 rfl (by decide) (Or.inl rfl) ?_
      have hfl := hmFl_lt (k := 2) (t := t) (by omega) (by omega) hA.pl
      exact hF (hmFl 2 t) _ (fun ot => by rw [hmNc_c, if_pos hb, if_neg hin]) hfl.1 hfl.2 ⟨fun x p => by rw [va_up_ne _ _ p, va_up_ne _ _ p], fun k a b => by rw [va_up_self, va_up_ne _ _ a, va_up_self, va_up_ne _ _ b]⟩ (by rw [va_up_self, va_up_self])
  · have ek : hmB (!hmNm t) = 1 := by
      cases h9 : hmNm t with
      | false => rfl
      | true => exact absurd h9 hb
    refine Ex_aload_n 1 (i := 0) dX9_needsCaller_0 rfl rfl rfl ?_
    refine Ex_callV (M' := MX9_isKept) 4 [] (rest := []) dX9_needsCaller_1 lX9_251 mX9_isKept rfl (xMs_0 hm) rfl (Nat.le_of_ble_eq_true rfl) (Nat.le_of_ble_eq_true rfl) rfl ?_
    refine mc_isKept hm hA ?_
    simp only [Option.toList, List.cons_append, List.nil_append]
    rw [ek]
    refine Ex_if_eq 7 13 dX9_needsCaller_4 (by decide) rfl (fun c1 => absurd c1 (by decide)) (fun c1 => ?_)
    refine Ex_aload_n 8 (i := 0) dX9_needsCaller_7 rfl rfl rfl ?_
    refine Ex_iconst 9 (v := 1) dX9_needsCaller_8 (by decide) rfl ?_
    refine Ex_callV (M' := MX9_fails) 12 [.int 1] (rest := []) dX9_needsCaller_9 lX9_193 mX9_fails rfl (xMs_0 hm) rfl (Nat.le_of_ble_eq_true rfl) (Nat.le_of_ble_eq_true rfl) rfl ?_
    refine mc_fails (k := 1) hm hA ?_
    simp only [Option.toList, List.nil_append, List.cons_append]
    refine Ex_iret dX9_needsCaller_12 rfl (by decide) (Or.inl rfl) ?_
    have hfl := hmFl_lt (k := 1) (t := t) (by omega) (by omega) hA.pl
    exact hF (hmFl 1 t) _ (fun ot => by rw [hmNc_c, if_neg hb]) hfl.1 hfl.2 ⟨fun x p => va_up_ne _ _ p, fun k a b => by rw [va_up_self, va_up_ne _ _ a]⟩ (by rw [va_up_self, va_up_self])
