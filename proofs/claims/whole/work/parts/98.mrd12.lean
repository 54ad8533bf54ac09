set_option maxHeartbeats 4000000 in
theorem mc_rl0 {d : Nat} {sh : xSh} {R : xR} {L : xL} {I : xI} {Q : xQ} {m : Nat} {T : List Nat} {t : hmTok} {r : List hmTok} (hm : xModel sh R m) (hA : hmAm I L m T t r) (hE : Ex (d + 2) 0 0 MX9_readsLine 0 sh R L I 57 [some (.ref m), none, none] [.int (hmOi (hmDw t))] Q) : Ex (d + 2) 0 0 MX9_readsLine 0 sh R L I 0 [some (.ref m), none, none] [] Q := by
  by_cases h0 : hmIsW t wRing = true
  · have e0 : hmB (hmIsW t wRing) = 1 := (hmB_1 _).mpr h0
    refine Ex_aload_n 1 (i := 0) dX9_readsLine_0 rfl rfl rfl ?_
    refine Ex_ldc2 4 (v := 361240) dX9_readsLine_1 kX9_228 rfl ?_
    refine Ex_callV (M' := MX9_isWord) 7 [.long 361240] (rest := []) dX9_readsLine_4 lX9_185 mX9_isWord rfl (xMs_0 hm) rfl (Nat.le_of_ble_eq_true rfl) (Nat.le_of_ble_eq_true rfl) rfl ?_
    refine mc_isWord hm hA (l := wRing) (by decide +kernel) (by unfold hmWd; decide) ?_
    simp only [Option.toList, List.cons_append, List.nil_append]
    rw [e0]
    refine Ex_if_eq 10 14 dX9_readsLine_7 (by decide) rfl (fun c1 => absurd c1 (by decide)) (fun c1 => ?_)
    refine Ex_iconst 11 (v := 0) dX9_readsLine_10 (by decide) rfl ?_
    refine Ex_goto 57 dX9_readsLine_11 (by decide) ?_
    have eD : hmDw t = some 0 := by unfold hmDw; rw [if_pos h0]
    rw [eD] at hE
    exact hE
  · have e0 : hmB (hmIsW t wRing) = 0 := (hmB_0 _).mpr (Bool.not_eq_true _ ▸ h0)
    by_cases h1 : hmIsW t wOff = true
    · have e1 : hmB (hmIsW t wOff) = 1 := (hmB_1 _).mpr h1
      refine Ex_aload_n 1 (i := 0) dX9_readsLine_0 rfl rfl rfl ?_
      refine Ex_ldc2 4 (v := 361240) dX9_readsLine_1 kX9_228 rfl ?_
      refine Ex_callV (M' := MX9_isWord) 7 [.long 361240] (rest := []) dX9_readsLine_4 lX9_185 mX9_isWord rfl (xMs_0 hm) rfl (Nat.le_of_ble_eq_true rfl) (Nat.le_of_ble_eq_true rfl) rfl ?_
      refine mc_isWord hm hA (l := wRing) (by decide +kernel) (by unfold hmWd; decide) ?_
      simp only [Option.toList, List.cons_append, List.nil_append]
      rw [e0]
      refine Ex_if_eq 10 14 dX9_readsLine_7 (by decide) rfl (fun c1 => ?_) (fun c1 => absurd c1 (fun q => q (by decide)))
      refine Ex_aload_n 15 (i := 0) dX9_readsLine_14 rfl rfl rfl ?_
      refine Ex_ldc2 18 (v := 11103) dX9_readsLine_15 kX9_230 rfl ?_
      refine Ex_callV (M' := MX9_isWord) 21 [.long 11103] (rest := []) dX9_readsLine_18 lX9_185 mX9_isWord rfl (xMs_0 hm) rfl (Nat.le_of_ble_eq_true rfl) (Nat.le_of_ble_eq_true rfl) rfl ?_
      refine mc_isWord hm hA (l := wOff) (by decide +kernel) (by unfold hmWd; decide) ?_
      simp only [Option.toList, List.cons_append, List.nil_append]
      rw [e1]
      refine Ex_if_eq 24 28 dX9_readsLine_21 (by decide) rfl (fun c2 => absurd c2 (by decide)) (fun c2 => ?_)
      refine Ex_iconst 25 (v := 1) dX9_readsLine_24 (by decide) rfl ?_
      refine Ex_goto 57 dX9_readsLine_25 (by decide) ?_
      have eD : hmDw t = some 1 := by unfold hmDw; rw [if_neg h0, if_pos h1]
      rw [eD] at hE
      exact hE
    · have e1 : hmB (hmIsW t wOff) = 0 := (hmB_0 _).mpr (Bool.not_eq_true _ ▸ h1)
      by_cases h2 : hmIsW t wSwap = true
      · have e2 : hmB (hmIsW t wSwap) = 1 := (hmB_1 _).mpr h2
        refine Ex_aload_n 1 (i := 0) dX9_readsLine_0 rfl rfl rfl ?_
        refine Ex_ldc2 4 (v := 361240) dX9_readsLine_1 kX9_228 rfl ?_
        refine Ex_callV (M' := MX9_isWord) 7 [.long 361240] (rest := []) dX9_readsLine_4 lX9_185 mX9_isWord rfl (xMs_0 hm) rfl (Nat.le_of_ble_eq_true rfl) (Nat.le_of_ble_eq_true rfl) rfl ?_
        refine mc_isWord hm hA (l := wRing) (by decide +kernel) (by unfold hmWd; decide) ?_
        simp only [Option.toList, List.cons_append, List.nil_append]
        rw [e0]
        refine Ex_if_eq 10 14 dX9_readsLine_7 (by decide) rfl (fun c1 => ?_) (fun c1 => absurd c1 (fun q => q (by decide)))
        refine Ex_aload_n 15 (i := 0) dX9_readsLine_14 rfl rfl rfl ?_
        refine Ex_ldc2 18 (v := 11103) dX9_readsLine_15 kX9_230 rfl ?_
        refine Ex_callV (M' := MX9_isWord) 21 [.long 11103] (rest := []) dX9_readsLine_18 lX9_185 mX9_isWord rfl (xMs_0 hm) rfl (Nat.le_of_ble_eq_true rfl) (Nat.le_of_ble_eq_true rfl) rfl ?_
        refine mc_isWord hm hA (l := wOff) (by decide +kernel) (by unfold hmWd; decide) ?_
        simp only [Option.toList, List.cons_append, List.nil_append]
        rw [e1]
        refine Ex_if_eq 24 28 dX9_readsLine_21 (by decide) rfl (fun c2 => ?_) (fun c2 => absurd c2 (fun q => q (by decide)))
        refine Ex_aload_n 29 (i := 0) dX9_readsLine_28 rfl rfl rfl ?_
        refine Ex_ldc2 32 (v := 390787) dX9_readsLine_29 kX9_232 rfl ?_
        refine Ex_callV (M' := MX9_isWord) 35 [.long 390787] (rest := []) dX9_readsLine_32 lX9_185 mX9_isWord rfl (xMs_0 hm) rfl (Nat.le_of_ble_eq_true rfl) (Nat.le_of_ble_eq_true rfl) rfl ?_
        refine mc_isWord hm hA (l := wSwap) (by decide +kernel) (by unfold hmWd; decide) ?_
        simp only [Option.toList, List.cons_append, List.nil_append]
        rw [e2]
        refine Ex_if_eq 38 42 dX9_readsLine_35 (by decide) rfl (fun c3 => absurd c3 (by decide)) (fun c3 => ?_)
        refine Ex_iconst 39 (v := 2) dX9_readsLine_38 (by decide) rfl ?_
        refine Ex_goto 57 dX9_readsLine_39 (by decide) ?_
        have eD : hmDw t = some 2 := by unfold hmDw; rw [if_neg h0, if_neg h1, if_pos h2]
        rw [eD] at hE
        exact hE
      · have e2 : hmB (hmIsW t wSwap) = 0 := (hmB_0 _).mpr (Bool.not_eq_true _ ▸ h2)
        by_cases h3 : hmIsW t wMinute = true
        · have e3 : hmB (hmIsW t wMinute) = 1 := (hmB_1 _).mpr h3
          refine Ex_aload_n 1 (i := 0) dX9_readsLine_0 rfl rfl rfl ?_
          refine Ex_ldc2 4 (v := 361240) dX9_readsLine_1 kX9_228 rfl ?_
          refine Ex_callV (M' := MX9_isWord) 7 [.long 361240] (rest := []) dX9_readsLine_4 lX9_185 mX9_isWord rfl (xMs_0 hm) rfl (Nat.le_of_ble_eq_true rfl) (Nat.le_of_ble_eq_true rfl) rfl ?_
          refine mc_isWord hm hA (l := wRing) (by decide +kernel) (by unfold hmWd; decide) ?_
          simp only [Option.toList, List.cons_append, List.nil_append]
          rw [e0]
          refine Ex_if_eq 10 14 dX9_readsLine_7 (by decide) rfl (fun c1 => ?_) (fun c1 => absurd c1 (fun q => q (by decide)))
          refine Ex_aload_n 15 (i := 0) dX9_readsLine_14 rfl rfl rfl ?_
          refine Ex_ldc2 18 (v := 11103) dX9_readsLine_15 kX9_230 rfl ?_
          refine Ex_callV (M' := MX9_isWord) 21 [.long 11103] (rest := []) dX9_readsLine_18 lX9_185 mX9_isWord rfl (xMs_0 hm) rfl (Nat.le_of_ble_eq_true rfl) (Nat.le_of_ble_eq_true rfl) rfl ?_
          refine mc_isWord hm hA (l := wOff) (by decide +kernel) (by unfold hmWd; decide) ?_
          simp only [Option.toList, List.cons_append, List.nil_append]
          rw [e1]
          refine Ex_if_eq 24 28 dX9_readsLine_21 (by decide) rfl (fun c2 => ?_) (fun c2 => absurd c2 (fun q => q (by decide)))
          refine Ex_aload_n 29 (i := 0) dX9_readsLine_28 rfl rfl rfl ?_
          refine Ex_ldc2 32 (v := 390787) dX9_readsLine_29 kX9_232 rfl ?_
          refine Ex_callV (M' := MX9_isWord) 35 [.long 390787] (rest := []) dX9_readsLine_32 lX9_185 mX9_isWord rfl (xMs_0 hm) rfl (Nat.le_of_ble_eq_true rfl) (Nat.le_of_ble_eq_true rfl) rfl ?_
          refine mc_isWord hm hA (l := wSwap) (by decide +kernel) (by unfold hmWd; decide) ?_
          simp only [Option.toList, List.cons_append, List.nil_append]
          rw [e2]
          refine Ex_if_eq 38 42 dX9_readsLine_35 (by decide) rfl (fun c3 => ?_) (fun c3 => absurd c3 (fun q => q (by decide)))
          refine Ex_aload_n 43 (i := 0) dX9_readsLine_42 rfl rfl rfl ?_
          refine Ex_ldc2 46 (v := 191610176) dX9_readsLine_43 kX9_234 rfl ?_
          refine Ex_callV (M' := MX9_isWord) 49 [.long 191610176] (rest := []) dX9_readsLine_46 lX9_185 mX9_isWord rfl (xMs_0 hm) rfl (Nat.le_of_ble_eq_true rfl) (Nat.le_of_ble_eq_true rfl) rfl ?_
          refine mc_isWord hm hA (l := wMinute) (by decide +kernel) (by unfold hmWd; decide) ?_
          simp only [Option.toList, List.cons_append, List.nil_append]
          rw [e3]
          refine Ex_if_eq 52 56 dX9_readsLine_49 (by decide) rfl (fun c4 => absurd c4 (by decide)) (fun c4 => ?_)
          refine Ex_iconst 53 (v := 3) dX9_readsLine_52 (by decide) rfl ?_
          refine Ex_goto 57 dX9_readsLine_53 (by decide) ?_
          have eD : hmDw t = some 3 := by unfold hmDw; rw [if_neg h0, if_neg h1, if_neg h2, if_pos h3]
          rw [eD] at hE
          exact hE
        · have e3 : hmB (hmIsW t wMinute) = 0 := (hmB_0 _).mpr (Bool.not_eq_true _ ▸ h3)
          refine Ex_aload_n 1 (i := 0) dX9_readsLine_0 rfl rfl rfl ?_
          refine Ex_ldc2 4 (v := 361240) dX9_readsLine_1 kX9_228 rfl ?_
          refine Ex_callV (M' := MX9_isWord) 7 [.long 361240] (rest := []) dX9_readsLine_4 lX9_185 mX9_isWord rfl (xMs_0 hm) rfl (Nat.le_of_ble_eq_true rfl) (Nat.le_of_ble_eq_true rfl) rfl ?_
          refine mc_isWord hm hA (l := wRing) (by decide +kernel) (by unfold hmWd; decide) ?_
          simp only [Option.toList, List.cons_append, List.nil_append]
          rw [e0]
          refine Ex_if_eq 10 14 dX9_readsLine_7 (by decide) rfl (fun c1 => ?_) (fun c1 => absurd c1 (fun q => q (by decide)))
          refine Ex_aload_n 15 (i := 0) dX9_readsLine_14 rfl rfl rfl ?_
          refine Ex_ldc2 18 (v := 11103) dX9_readsLine_15 kX9_230 rfl ?_
          refine Ex_callV (M' := MX9_isWord) 21 [.long 11103] (rest := []) dX9_readsLine_18 lX9_185 mX9_isWord rfl (xMs_0 hm) rfl (Nat.le_of_ble_eq_true rfl) (Nat.le_of_ble_eq_true rfl) rfl ?_
          refine mc_isWord hm hA (l := wOff) (by decide +kernel) (by unfold hmWd; decide) ?_
          simp only [Option.toList, List.cons_append, List.nil_append]
          rw [e1]
          refine Ex_if_eq 24 28 dX9_readsLine_21 (by decide) rfl (fun c2 => ?_) (fun c2 => absurd c2 (fun q => q (by decide)))
          refine Ex_aload_n 29 (i := 0) dX9_readsLine_28 rfl rfl rfl ?_
          refine Ex_ldc2 32 (v := 390787) dX9_readsLine_29 kX9_232 rfl ?_
          refine Ex_callV (M' := MX9_isWord) 35 [.long 390787] (rest := []) dX9_readsLine_32 lX9_185 mX9_isWord rfl (xMs_0 hm) rfl (Nat.le_of_ble_eq_true rfl) (Nat.le_of_ble_eq_true rfl) rfl ?_
          refine mc_isWord hm hA (l := wSwap) (by decide +kernel) (by unfold hmWd; decide) ?_
          simp only [Option.toList, List.cons_append, List.nil_append]
          rw [e2]
          refine Ex_if_eq 38 42 dX9_readsLine_35 (by decide) rfl (fun c3 => ?_) (fun c3 => absurd c3 (fun q => q (by decide)))
          refine Ex_aload_n 43 (i := 0) dX9_readsLine_42 rfl rfl rfl ?_
          refine Ex_ldc2 46 (v := 191610176) dX9_readsLine_43 kX9_234 rfl ?_
          refine Ex_callV (M' := MX9_isWord) 49 [.long 191610176] (rest := []) dX9_readsLine_46 lX9_185 mX9_isWord rfl (xMs_0 hm) rfl (Nat.le_of_ble_eq_true rfl) (Nat.le_of_ble_eq_true rfl) rfl ?_
          refine mc_isWord hm hA (l := wMinute) (by decide +kernel) (by unfold hmWd; decide) ?_
          simp only [Option.toList, List.cons_append, List.nil_append]
          rw [e3]
          refine Ex_if_eq 52 56 dX9_readsLine_49 (by decide) rfl (fun c4 => ?_) (fun c4 => absurd c4 (fun q => q (by decide)))
          refine Ex_iconst 57 (v := (-1)) dX9_readsLine_56 (by decide) rfl ?_
          have eD : hmDw t = none := by unfold hmDw; rw [if_neg h0, if_neg h1, if_neg h2, if_neg h3]
          rw [eD] at hE
          exact hE
set_option maxHeartbeats 4000000 in
theorem mc_rl_no {d : Nat} {sh : xSh} {R : xR} {L : xL} {I : xI} {Q : xQ} {m : Nat} {T : List Nat} {t : hmTok} {r : List hmTok} (hm : xModel sh R m) (hA : hmAm I L m T t r) (hc : ∀ x, x ∈ T → x < 127) {nms : List (List Nat)} (hn6 : nms.length ≤ 6) (h6 : I (m + 2) 0 = nI nms.length) (hnm : ∀ i, i < nms.length → L (m + 3) (0 + i) = hmE27 (nms.getD i []) ∧ hmWd (nms.getD i [])) {D : hmDay} (hD : hmMd I m 5 D) (hw : hmDw t = none) (hF : ∀ F I' L', hmDL nms D (t :: r) = .inl F → 1 ≤ F → F < 20000 → hmGy m I I' → hmNl m L L' → I' m 9 = nI F → Q (some (.int 0)) 0 sh R L' I') (hQ : ∀ D' t' r' I' L', hmDL nms D (t :: r) = .inr (D', t' :: r') → (t' :: r').length < (t :: r).length → hmGy m I I' → hmNl m L L' → hmMd I' m 5 D' → hmAm I' L' m T t' r' → Q (some (.int 1)) 0 sh R L' I') : Ex (d + 2) 0 0 MX9_readsLine 0 sh R L I 57 [some (.ref m), none, none] [.int (-1)] Q := by
  refine Ex_istore_n 58 (i := 1) (ls' := [some (.ref m), some (.int (-1)), none]) dX9_readsLine_57 rfl (Nat.le_of_ble_eq_true rfl) rfl rfl rfl ?_
  refine Ex_iload_n 59 (i := 1) dX9_readsLine_58 rfl rfl rfl ?_
  refine Ex_if_ge 62 68 dX9_readsLine_59 (by decide) rfl (fun c1 => absurd c1 (by decide)) (fun c1 => ?_)
  refine Ex_aload_n 63 (i := 0) dX9_readsLine_62 rfl rfl rfl ?_
  refine Ex_iconst 64 (v := 1) dX9_readsLine_63 (by decide) rfl ?_
  refine Ex_callV (M' := MX9_fails) 67 [.int 1] (rest := []) dX9_readsLine_64 lX9_193 mX9_fails rfl (xMs_0 hm) rfl (Nat.le_of_ble_eq_true rfl) (Nat.le_of_ble_eq_true rfl) rfl ?_
  refine mc_fails (k := 1) hm hA ?_
  simp only [Option.toList, List.nil_append, List.cons_append]
  refine Ex_iret dX9_readsLine_67 rfl (by decide) (Or.inl rfl) ?_
  have hfl := hmFl_lt (k := 1) (t := t) (by omega) (by omega) hA.pl
  exact hF (hmFl 1 t) _ L (hmDL_no hw) hfl.1 hfl.2 (hmGy.gg (n := (200 + D.length)) (by omega) ((hmGg.rf (n := (200 + D.length))).tr hmGg.fl)) (hmNl.rf) (by rw [va_up_self, va_up_self])
set_option maxHeartbeats 4000000 in
theorem mc_rl_0 {d : Nat} {sh : xSh} {R : xR} {L : xL} {I : xI} {Q : xQ} {m : Nat} {T : List Nat} {t : hmTok} {r : List hmTok} (hm : xModel sh R m) (hA : hmAm I L m T t r) (hc : ∀ x, x ∈ T → x < 127) {nms : List (List Nat)} (hn6 : nms.length ≤ 6) (h6 : I (m + 2) 0 = nI nms.length) (hnm : ∀ i, i < nms.length → L (m + 3) (0 + i) = hmE27 (nms.getD i []) ∧ hmWd (nms.getD i [])) {D : hmDay} (hD : hmMd I m 5 D) (hw : hmDw t = some 0) (hF : ∀ F I' L', hmDL nms D (t :: r) = .inl F → 1 ≤ F → F < 20000 → hmGy m I I' → hmNl m L L' → I' m 9 = nI F → Q (some (.int 0)) 0 sh R L' I') (hQ : ∀ D' t' r' I' L', hmDL nms D (t :: r) = .inr (D', t' :: r') → (t' :: r').length < (t :: r).length → hmGy m I I' → hmNl m L L' → hmMd I' m 5 D' → hmAm I' L' m T t' r' → Q (some (.int 1)) 0 sh R L' I') : Ex (d + 3) 0 0 MX9_readsLine 0 sh R L I 57 [some (.ref m), none, none] [.int 0] Q := by
  have hd1 := hD.1
  have ht : ¬ t.1 = 0 := (hmDw_lt hw).2
  have e1 : ∀ h : ¬ D.length = 40, hmDL nms D (t :: r) = hmY2 nms D 0 r := fun h => by rw [hmDL_yes hw, if_neg h, if_neg (by decide)]
  have e2 : ∀ (h : ¬ D.length = 40) (t1 : hmTok) (r1 : List hmTok) (t2 : hmTok) (r2 : List hmTok), r = t1 :: r1 → r1 = t2 :: r2 → hmNc nms none (t1 :: r1) = .inr ((nms.idxOf t1.2.1), r1) → hmDL nms D (t :: r) = hmY3 D (0, (nms.idxOf t1.2.1), 0) (t2 :: r2) := fun h t1 r1 t2 r2 a b c => by
    rw [e1 h, a]
    unfold hmY2
    rw [c, ← b]
    rfl
  refine Ex_istore_n 58 (i := 1) (ls' := [some (.ref m), some (.int 0), none]) dX9_readsLine_57 rfl (Nat.le_of_ble_eq_true rfl) rfl rfl rfl ?_
  refine Ex_iload_n 59 (i := 1) dX9_readsLine_58 rfl rfl rfl ?_
  refine Ex_if_ge 62 68 dX9_readsLine_59 (by decide) rfl (fun c1 => ?_) (fun c1 => absurd c1 (fun q => q (by decide)))
  refine Ex_aload_n 69 (i := 0) dX9_readsLine_68 rfl rfl rfl ?_
  refine Ex_getR 72 dX9_readsLine_69 fX9_78 (xMs_0 hm) rfl (xMr_34 hm) rfl ?_
  refine Ex_iconst 73 (v := 5) dX9_readsLine_72 (by decide) rfl ?_
  refine Ex_aI 74 5 (I (m + 23) 5) dX9_readsLine_73 (xMs_23 hm) rfl (by decide) (by decide) rfl rfl ?_
  rw [hD.2.1]
  refine Ex_bipush 76 (v := 40) dX9_readsLine_74 (by decide) rfl ?_
  refine Ex_icmp_ne 79 85 dX9_readsLine_76 (by decide) rfl (fun c2 => ?_) (fun c2 => ?_)
  · refine Ex_aload_n 86 (i := 0) dX9_readsLine_85 rfl rfl rfl ?_
    refine Ex_callV (M' := MX9_nextToken) 89 [] (rest := []) dX9_readsLine_86 lX9_200 mX9_nextToken rfl (xMs_0 hm) rfl (Nat.le_of_ble_eq_true rfl) (Nat.le_of_ble_eq_true rfl) rfl ?_
    have h40 : ¬ D.length = 40 := fun q => c2 (by rw [q]; rfl)
    have hl40 : D.length < 40 := by omega
    refine mc_nxt hm hA hc ht (fun t1 r1 I1 L1 er1 gs1 gt1 hA1 => ?_)
    simp only [Option.toList, List.nil_append, List.cons_append]
    refine Ex_sipush 92 (v := 200) dX9_readsLine_89 (by decide) rfl ?_
    refine Ex_aload_n 93 (i := 0) dX9_readsLine_92 rfl rfl rfl ?_
    refine Ex_getR 96 dX9_readsLine_93 fX9_78 (xMs_0 hm) rfl (xMr_34 hm) rfl ?_
    refine Ex_iconst 97 (v := 5) dX9_readsLine_96 (by decide) rfl ?_
    refine Ex_aI 98 5 (I1 (m + 23) 5) dX9_readsLine_97 (xMs_23 hm) rfl (by decide) (by decide) rfl rfl ?_
    rw [gs1.1 (m + 23) (by omega), hD.2.1]
    refine Ex_iadd 99 dX9_readsLine_98 rfl ?_
    refine Ex_istore_n 100 (i := 2) (ls' := [some (.ref m), some (.int 0), some (.int (200 + (nI D.length)))]) dX9_readsLine_99 rfl (Nat.le_of_ble_eq_true rfl) rfl rfl rfl ?_
    refine Ex_aload_n 101 (i := 0) dX9_readsLine_100 rfl rfl rfl ?_
    refine Ex_getR 104 dX9_readsLine_101 fX9_81 (xMs_0 hm) rfl (xMr_35 hm) rfl ?_
    refine Ex_iload_n 105 (i := 2) dX9_readsLine_104 rfl rfl rfl ?_
    refine Ex_iload_n 106 (i := 1) dX9_readsLine_105 rfl rfl rfl ?_
    refine Ex_sI 107 (200 + D.length) (I1 (m + 24)) (va_up I1 (m + 24) (va_up (I1 (m + 24)) (200 + D.length) 0)) dX9_readsLine_106 (xMs_24 hm) (hm_ad rfl rfl) (by omega) (by decide) rfl rfl rfl ?_
    obtain ⟨J1, eJ1⟩ : ∃ J1, J1 = (va_up I1 (m + 24) (va_up (I1 (m + 24)) (200 + D.length) 0)) := ⟨_, rfl⟩
    rw [← eJ1]
    have gJ1 : hmGg m (200 + D.length) I J1 := by rw [eJ1]; exact (hmGg.nf gs1).tr (hmGg.up (by omega) (by omega))
    have vJ1 : J1 (m + 24) (200 + D.length) = nI 0 := by rw [eJ1, va_up_self, va_up_self]; rfl
    have hAJ1 : hmAm J1 L1 m T t1 r1 := by rw [eJ1]; exact hA1.kept (fun k hk => by rw [va_up_ne _ _ (by omega)]) (va_up_ne _ _ (by omega)) rfl
    have hlr1 : (t1 :: r1).length < (t :: r).length := by rw [er1, List.length_cons (as := t1 :: r1)]; omega
    refine Ex_iload_n 108 (i := 1) dX9_readsLine_107 rfl rfl rfl ?_
    refine Ex_iconst 109 (v := 3) dX9_readsLine_108 (by decide) rfl ?_
    refine Ex_icmp_eq 112 135 dX9_readsLine_109 (by decide) rfl (fun c3 => absurd c3 (by decide)) (fun c3 => ?_)
    refine Ex_aload_n 113 (i := 0) dX9_readsLine_112 rfl rfl rfl ?_
    refine Ex_callV (M' := MX9_needsCaller) 116 [] (rest := []) dX9_readsLine_113 lX9_294 mX9_needsCaller rfl (xMs_0 hm) rfl (Nat.le_of_ble_eq_true rfl) (Nat.le_of_ble_eq_true rfl) rfl ?_
    refine mc_needsCaller hm hAJ1 hn6 (by rw [gJ1.1 (m + 2) (by omega) (by omega)]; exact h6) (fun i hi => by rw [(gt1).1 (m + 3) (by omega)]; exact hnm i hi) (fun F Q1 e f1 f2 q9 k9 => ?_) (fun hb1 hin1 Q1 q1 k1 => ?_)
    · simp only [Option.toList, List.nil_append, List.cons_append]
      refine Ex_if_ne 119 121 dX9_readsLine_116 (by decide) rfl (fun c4 => absurd c4 (fun q => q (by decide))) (fun c4 => ?_)
      refine Ex_iconst 120 (v := 0) dX9_readsLine_119 (by decide) rfl ?_
      refine Ex_iret dX9_readsLine_120 rfl (by decide) (Or.inl rfl) ?_
      exact hF F Q1 L1 (by rw [e1 h40, er1]; unfold hmY2; rw [e none]; rfl) f1 f2 (hmGy.gg (n := (200 + D.length)) (by omega) (gJ1.tr (hmGg.qv q9))) (gt1) k9
    · simp only [Option.toList, List.nil_append, List.cons_append]
      have gQ1 : hmGg m (200 + D.length) I Q1 := gJ1.tr (hmGg.qv q1)
      have ht1 : ¬ t1.1 = 0 := fun z => by simp [hmNm, z] at hb1
      have eN1 : hmNc nms none (t1 :: r1) = .inr ((nms.idxOf t1.2.1), r1) := by rw [hmNc_c, if_pos hb1, if_pos hin1, if_neg (by simp)]
      refine Ex_if_ne 119 121 dX9_readsLine_116 (by decide) rfl (fun c5 => ?_) (fun c5 => absurd c5 (by decide))
      refine Ex_aload_n 122 (i := 0) dX9_readsLine_121 rfl rfl rfl ?_
      refine Ex_getR 125 dX9_readsLine_122 fX9_84 (xMs_0 hm) rfl (xMr_36 hm) rfl ?_
      refine Ex_iload_n 126 (i := 2) dX9_readsLine_125 rfl rfl rfl ?_
      refine Ex_aload_n 127 (i := 0) dX9_readsLine_126 rfl rfl rfl ?_
      refine Ex_gI 130 (Q1 m 33) dX9_readsLine_127 fX9_248 (xMs_0 hm) rfl rfl rfl ?_
      rw [k1]
      refine Ex_sI 131 (200 + D.length) (Q1 (m + 25)) (va_up Q1 (m + 25) (va_up (Q1 (m + 25)) (200 + D.length) (nI (nms.idxOf t1.2.1)))) dX9_readsLine_130 (xMs_25 hm) (hm_ad rfl rfl) (by omega) (by decide) rfl rfl rfl ?_
      refine Ex_aload_n 132 (i := 0) dX9_readsLine_131 rfl rfl rfl ?_
      refine Ex_callV (M' := MX9_nextToken) 135 [] (rest := []) dX9_readsLine_132 lX9_200 mX9_nextToken rfl (xMs_0 hm) rfl (Nat.le_of_ble_eq_true rfl) (Nat.le_of_ble_eq_true rfl) rfl ?_
      obtain ⟨J2, eJ2⟩ : ∃ J2, J2 = (va_up Q1 (m + 25) (va_up (Q1 (m + 25)) (200 + D.length) (nI (nms.idxOf t1.2.1)))) := ⟨_, rfl⟩
      rw [← eJ2]
      have gJ2 : hmGg m (200 + D.length) I J2 := by rw [eJ2]; exact gQ1.tr (hmGg.up (by omega) (by omega))
      have vJ2 : J2 (m + 24) (200 + D.length) = nI 0 := by rw [eJ2, va_up_ne _ _ (by omega), q1.1 (m + 24) (by omega)]; exact vJ1
      have wJ2 : J2 (m + 25) (200 + D.length) = nI (nms.idxOf t1.2.1) := by rw [eJ2, va_up_self, va_up_self]
      have hAJ2 : hmAm J2 L1 m T t1 r1 := by rw [eJ2]; exact hAJ1.kept (fun k hk => by rw [va_up_ne _ _ (by omega)]; exact q1.2 k (by omega) (by omega)) (by rw [va_up_ne _ _ (by omega)]; exact q1.1 _ (by omega)) rfl
      refine mc_nxt hm hAJ2 hc ht1 (fun t2 r2 I2 L2 er2 gs2 gt2 hA2 => ?_)
      simp only [Option.toList, List.cons_append, List.nil_append]
      have gI2 : hmGg m (200 + D.length) I I2 := gJ2.tr (hmGg.nf gs2)
      have hlr2 : (t2 :: r2).length < (t1 :: r1).length := by rw [er2, List.length_cons (as := t2 :: r2)]; omega
      have vI2 : I2 (m + 24) (200 + D.length) = nI 0 := by rw [gs2.1 (m + 24) (by omega)]; exact vJ2
      have wI2 : I2 (m + 25) (200 + D.length) = nI (nms.idxOf t1.2.1) := by rw [gs2.1 (m + 25) (by omega)]; exact wJ2
      refine Ex_iload_n 136 (i := 1) dX9_readsLine_135 rfl rfl rfl ?_
      refine Ex_iconst 137 (v := 2) dX9_readsLine_136 (by decide) rfl ?_
      refine Ex_icmp_ne 140 182 dX9_readsLine_137 (by decide) rfl (fun c6 => ?_) (fun c6 => absurd c6 (by decide))
      refine Ex_aload_n 183 (i := 0) dX9_readsLine_182 rfl rfl rfl ?_
      refine Ex_getR 186 dX9_readsLine_183 fX9_78 (xMs_0 hm) rfl (xMr_34 hm) rfl ?_
      refine Ex_iconst 187 (v := 5) dX9_readsLine_186 (by decide) rfl ?_
      refine Ex_dup2 188 dX9_readsLine_187 rfl rfl rfl ?_
      refine Ex_aI 189 5 (I2 (m + 23) 5) dX9_readsLine_188 (xMs_23 hm) rfl (by decide) (by decide) rfl rfl ?_
      rw [gI2.1 (m + 23) (by omega) (by omega), hD.2.1]
      refine Ex_iconst 190 (v := 1) dX9_readsLine_189 (by decide) rfl ?_
      refine Ex_iadd 191 dX9_readsLine_190 rfl ?_
      refine Ex_sI 192 5 (I2 (m + 23)) (va_up I2 (m + 23) (va_up (I2 (m + 23)) 5 ((nI D.length) + 1))) dX9_readsLine_191 (xMs_23 hm) rfl (by decide) (by decide) rfl rfl rfl ?_
      refine Ex_aload_n 193 (i := 0) dX9_readsLine_192 rfl rfl rfl ?_
      refine Ex_callV (M' := MX9_closes) 196 [] (rest := []) dX9_readsLine_193 lX9_268 mX9_closes rfl (xMs_0 hm) rfl (Nat.le_of_ble_eq_true rfl) (Nat.le_of_ble_eq_true rfl) rfl ?_
      obtain ⟨K, eK⟩ : ∃ K, K = (va_up I2 (m + 23) (va_up (I2 (m + 23)) 5 ((nI D.length) + 1))) := ⟨_, rfl⟩
      rw [← eK]
      have gK : hmGy m I K := by rw [eK]; exact (hmGy.gg (n := (200 + D.length)) (by omega) gI2).tr hmGy.ln
      have hAK : hmAm K L2 m T t2 r2 := by rw [eK]; exact hA2.kept (fun k hk => by rw [va_up_ne _ _ (by omega)]) (va_up_ne _ _ (by omega)) rfl
      have hMK : hmMd K m 5 (D ++ [(0, (nms.idxOf t1.2.1), 0)]) := hmMd_app hD hl40 gI2 (by rw [eK, va_up_self, va_up_self]) (by rw [eK, va_up_ne _ _ (by omega)]) (by rw [eK, va_up_ne _ _ (by omega)]) (by rw [eK, va_up_ne _ _ (by omega)]) vI2 (fun _ => wI2) (fun q => absurd q (by show ¬ (0 = 2); decide))
      refine mc_closes hm hAK hc (fun hb => ?_) (fun hb t9 r9 I9 L9 er9 gs9 gt9 hA9 => ?_)
      · simp only [Option.toList, List.nil_append, List.cons_append]
        refine Ex_iret dX9_readsLine_196 rfl (by decide) (Or.inl rfl) ?_
        have hfl := hmFl_lt (k := 1) (t := t2) (by omega) (by omega) hAK.pl
        exact hF (hmFl 1 t2) _ L2 (by rw [e2 h40 t1 r1 t2 r2 er1 er2 eN1]; unfold hmY3; rw [hmXs_no hb]; rfl) hfl.1 hfl.2 (gK.tr (hmGy.gg (n := (200 + D.length)) (by omega) hmGg.fl)) ((gt1.tr gt2)) (by rw [va_up_self, va_up_self])
      · simp only [Option.toList, List.nil_append, List.cons_append]
        refine Ex_iret dX9_readsLine_196 rfl (by decide) (Or.inl rfl) ?_
        have hlr9 : (t9 :: r9).length < (t2 :: r2).length := by rw [er9, List.length_cons (as := t9 :: r9)]; omega
        exact hQ (D ++ [(0, (nms.idxOf t1.2.1), 0)]) t9 r9 I9 L9 (by rw [e2 h40 t1 r1 t2 r2 er1 er2 eN1]; unfold hmY3; rw [hmXs_yes hb, er9]; rfl) (by omega) (gK.tr (hmGy.gg (n := (200 + D.length)) (by omega) (hmGg.nf gs9))) ((gt1.tr gt2).tr gt9) ⟨hMK.1, by rw [gs9.1 (m + 23) (by omega)]; exact hMK.2.1, by rw [gs9.1 (m + 24) (by omega), gs9.1 (m + 25) (by omega), gs9.1 (m + 26) (by omega)]; exact hMK.2.2⟩ hA9
  · refine Ex_aload_n 80 (i := 0) dX9_readsLine_79 rfl rfl rfl ?_
    refine Ex_iconst 81 (v := 5) dX9_readsLine_80 (by decide) rfl ?_
    refine Ex_callV (M' := MX9_fails) 84 [.int 5] (rest := []) dX9_readsLine_81 lX9_193 mX9_fails rfl (xMs_0 hm) rfl (Nat.le_of_ble_eq_true rfl) (Nat.le_of_ble_eq_true rfl) rfl ?_
    refine mc_fails (k := 5) hm hA ?_
    simp only [Option.toList, List.nil_append, List.cons_append]
    refine Ex_iret dX9_readsLine_84 rfl (by decide) (Or.inl rfl) ?_
    have h40 : D.length = 40 := (nI_eq (b := 40) (by omega) (by omega)).mp c2
    have hfl := hmFl_lt (k := 5) (t := t) (by omega) (by omega) hA.pl
    exact hF (hmFl 5 t) _ L (by rw [hmDL_yes hw, if_pos h40]) hfl.1 hfl.2 (hmGy.gg (n := (200 + D.length)) (by omega) ((hmGg.rf (n := (200 + D.length))).tr hmGg.fl)) (hmNl.rf) (by rw [va_up_self, va_up_self])
set_option maxHeartbeats 4000000 in
theorem mc_rl_1 {d : Nat} {sh : xSh} {R : xR} {L : xL} {I : xI} {Q : xQ} {m : Nat} {T : List Nat} {t : hmTok} {r : List hmTok} (hm : xModel sh R m) (hA : hmAm I L m T t r) (hc : ∀ x, x ∈ T → x < 127) {nms : List (List Nat)} (hn6 : nms.length ≤ 6) (h6 : I (m + 2) 0 = nI nms.length) (hnm : ∀ i, i < nms.length → L (m + 3) (0 + i) = hmE27 (nms.getD i []) ∧ hmWd (nms.getD i [])) {D : hmDay} (hD : hmMd I m 5 D) (hw : hmDw t = some 1) (hF : ∀ F I' L', hmDL nms D (t :: r) = .inl F → 1 ≤ F → F < 20000 → hmGy m I I' → hmNl m L L' → I' m 9 = nI F → Q (some (.int 0)) 0 sh R L' I') (hQ : ∀ D' t' r' I' L', hmDL nms D (t :: r) = .inr (D', t' :: r') → (t' :: r').length < (t :: r).length → hmGy m I I' → hmNl m L L' → hmMd I' m 5 D' → hmAm I' L' m T t' r' → Q (some (.int 1)) 0 sh R L' I') : Ex (d + 3) 0 0 MX9_readsLine 0 sh R L I 57 [some (.ref m), none, none] [.int 1] Q := by
  have hd1 := hD.1
  have ht : ¬ t.1 = 0 := (hmDw_lt hw).2
  have e1 : ∀ h : ¬ D.length = 40, hmDL nms D (t :: r) = hmY2 nms D 1 r := fun h => by rw [hmDL_yes hw, if_neg h, if_neg (by decide)]
  have e2 : ∀ (h : ¬ D.length = 40) (t1 : hmTok) (r1 : List hmTok) (t2 : hmTok) (r2 : List hmTok), r = t1 :: r1 → r1 = t2 :: r2 → hmNc nms none (t1 :: r1) = .inr ((nms.idxOf t1.2.1), r1) → hmDL nms D (t :: r) = hmY3 D (1, (nms.idxOf t1.2.1), 0) (t2 :: r2) := fun h t1 r1 t2 r2 a b c => by
    rw [e1 h, a]
    unfold hmY2
    rw [c, ← b]
    rfl
  refine Ex_istore_n 58 (i := 1) (ls' := [some (.ref m), some (.int 1), none]) dX9_readsLine_57 rfl (Nat.le_of_ble_eq_true rfl) rfl rfl rfl ?_
  refine Ex_iload_n 59 (i := 1) dX9_readsLine_58 rfl rfl rfl ?_
  refine Ex_if_ge 62 68 dX9_readsLine_59 (by decide) rfl (fun c1 => ?_) (fun c1 => absurd c1 (fun q => q (by decide)))
  refine Ex_aload_n 69 (i := 0) dX9_readsLine_68 rfl rfl rfl ?_
  refine Ex_getR 72 dX9_readsLine_69 fX9_78 (xMs_0 hm) rfl (xMr_34 hm) rfl ?_
  refine Ex_iconst 73 (v := 5) dX9_readsLine_72 (by decide) rfl ?_
  refine Ex_aI 74 5 (I (m + 23) 5) dX9_readsLine_73 (xMs_23 hm) rfl (by decide) (by decide) rfl rfl ?_
  rw [hD.2.1]
  refine Ex_bipush 76 (v := 40) dX9_readsLine_74 (by decide) rfl ?_
  refine Ex_icmp_ne 79 85 dX9_readsLine_76 (by decide) rfl (fun c2 => ?_) (fun c2 => ?_)
  · refine Ex_aload_n 86 (i := 0) dX9_readsLine_85 rfl rfl rfl ?_
    refine Ex_callV (M' := MX9_nextToken) 89 [] (rest := []) dX9_readsLine_86 lX9_200 mX9_nextToken rfl (xMs_0 hm) rfl (Nat.le_of_ble_eq_true rfl) (Nat.le_of_ble_eq_true rfl) rfl ?_
    have h40 : ¬ D.length = 40 := fun q => c2 (by rw [q]; rfl)
    have hl40 : D.length < 40 := by omega
    refine mc_nxt hm hA hc ht (fun t1 r1 I1 L1 er1 gs1 gt1 hA1 => ?_)
    simp only [Option.toList, List.nil_append, List.cons_append]
    refine Ex_sipush 92 (v := 200) dX9_readsLine_89 (by decide) rfl ?_
    refine Ex_aload_n 93 (i := 0) dX9_readsLine_92 rfl rfl rfl ?_
    refine Ex_getR 96 dX9_readsLine_93 fX9_78 (xMs_0 hm) rfl (xMr_34 hm) rfl ?_
    refine Ex_iconst 97 (v := 5) dX9_readsLine_96 (by decide) rfl ?_
    refine Ex_aI 98 5 (I1 (m + 23) 5) dX9_readsLine_97 (xMs_23 hm) rfl (by decide) (by decide) rfl rfl ?_
    rw [gs1.1 (m + 23) (by omega), hD.2.1]
    refine Ex_iadd 99 dX9_readsLine_98 rfl ?_
    refine Ex_istore_n 100 (i := 2) (ls' := [some (.ref m), some (.int 1), some (.int (200 + (nI D.length)))]) dX9_readsLine_99 rfl (Nat.le_of_ble_eq_true rfl) rfl rfl rfl ?_
    refine Ex_aload_n 101 (i := 0) dX9_readsLine_100 rfl rfl rfl ?_
    refine Ex_getR 104 dX9_readsLine_101 fX9_81 (xMs_0 hm) rfl (xMr_35 hm) rfl ?_
    refine Ex_iload_n 105 (i := 2) dX9_readsLine_104 rfl rfl rfl ?_
    refine Ex_iload_n 106 (i := 1) dX9_readsLine_105 rfl rfl rfl ?_
    refine Ex_sI 107 (200 + D.length) (I1 (m + 24)) (va_up I1 (m + 24) (va_up (I1 (m + 24)) (200 + D.length) 1)) dX9_readsLine_106 (xMs_24 hm) (hm_ad rfl rfl) (by omega) (by decide) rfl rfl rfl ?_
    obtain ⟨J1, eJ1⟩ : ∃ J1, J1 = (va_up I1 (m + 24) (va_up (I1 (m + 24)) (200 + D.length) 1)) := ⟨_, rfl⟩
    rw [← eJ1]
    have gJ1 : hmGg m (200 + D.length) I J1 := by rw [eJ1]; exact (hmGg.nf gs1).tr (hmGg.up (by omega) (by omega))
    have vJ1 : J1 (m + 24) (200 + D.length) = nI 1 := by rw [eJ1, va_up_self, va_up_self]; rfl
    have hAJ1 : hmAm J1 L1 m T t1 r1 := by rw [eJ1]; exact hA1.kept (fun k hk => by rw [va_up_ne _ _ (by omega)]) (va_up_ne _ _ (by omega)) rfl
    have hlr1 : (t1 :: r1).length < (t :: r).length := by rw [er1, List.length_cons (as := t1 :: r1)]; omega
    refine Ex_iload_n 108 (i := 1) dX9_readsLine_107 rfl rfl rfl ?_
    refine Ex_iconst 109 (v := 3) dX9_readsLine_108 (by decide) rfl ?_
    refine Ex_icmp_eq 112 135 dX9_readsLine_109 (by decide) rfl (fun c3 => absurd c3 (by decide)) (fun c3 => ?_)
    refine Ex_aload_n 113 (i := 0) dX9_readsLine_112 rfl rfl rfl ?_
    refine Ex_callV (M' := MX9_needsCaller) 116 [] (rest := []) dX9_readsLine_113 lX9_294 mX9_needsCaller rfl (xMs_0 hm) rfl (Nat.le_of_ble_eq_true rfl) (Nat.le_of_ble_eq_true rfl) rfl ?_
    refine mc_needsCaller hm hAJ1 hn6 (by rw [gJ1.1 (m + 2) (by omega) (by omega)]; exact h6) (fun i hi => by rw [(gt1).1 (m + 3) (by omega)]; exact hnm i hi) (fun F Q1 e f1 f2 q9 k9 => ?_) (fun hb1 hin1 Q1 q1 k1 => ?_)
    · simp only [Option.toList, List.nil_append, List.cons_append]
      refine Ex_if_ne 119 121 dX9_readsLine_116 (by decide) rfl (fun c4 => absurd c4 (fun q => q (by decide))) (fun c4 => ?_)
      refine Ex_iconst 120 (v := 0) dX9_readsLine_119 (by decide) rfl ?_
      refine Ex_iret dX9_readsLine_120 rfl (by decide) (Or.inl rfl) ?_
      exact hF F Q1 L1 (by rw [e1 h40, er1]; unfold hmY2; rw [e none]; rfl) f1 f2 (hmGy.gg (n := (200 + D.length)) (by omega) (gJ1.tr (hmGg.qv q9))) (gt1) k9
    · simp only [Option.toList, List.nil_append, List.cons_append]
      have gQ1 : hmGg m (200 + D.length) I Q1 := gJ1.tr (hmGg.qv q1)
      have ht1 : ¬ t1.1 = 0 := fun z => by simp [hmNm, z] at hb1
      have eN1 : hmNc nms none (t1 :: r1) = .inr ((nms.idxOf t1.2.1), r1) := by rw [hmNc_c, if_pos hb1, if_pos hin1, if_neg (by simp)]
      refine Ex_if_ne 119 121 dX9_readsLine_116 (by decide) rfl (fun c5 => ?_) (fun c5 => absurd c5 (by decide))
      refine Ex_aload_n 122 (i := 0) dX9_readsLine_121 rfl rfl rfl ?_
      refine Ex_getR 125 dX9_readsLine_122 fX9_84 (xMs_0 hm) rfl (xMr_36 hm) rfl ?_
      refine Ex_iload_n 126 (i := 2) dX9_readsLine_125 rfl rfl rfl ?_
      refine Ex_aload_n 127 (i := 0) dX9_readsLine_126 rfl rfl rfl ?_
      refine Ex_gI 130 (Q1 m 33) dX9_readsLine_127 fX9_248 (xMs_0 hm) rfl rfl rfl ?_
      rw [k1]
      refine Ex_sI 131 (200 + D.length) (Q1 (m + 25)) (va_up Q1 (m + 25) (va_up (Q1 (m + 25)) (200 + D.length) (nI (nms.idxOf t1.2.1)))) dX9_readsLine_130 (xMs_25 hm) (hm_ad rfl rfl) (by omega) (by decide) rfl rfl rfl ?_
      refine Ex_aload_n 132 (i := 0) dX9_readsLine_131 rfl rfl rfl ?_
      refine Ex_callV (M' := MX9_nextToken) 135 [] (rest := []) dX9_readsLine_132 lX9_200 mX9_nextToken rfl (xMs_0 hm) rfl (Nat.le_of_ble_eq_true rfl) (Nat.le_of_ble_eq_true rfl) rfl ?_
      obtain ⟨J2, eJ2⟩ : ∃ J2, J2 = (va_up Q1 (m + 25) (va_up (Q1 (m + 25)) (200 + D.length) (nI (nms.idxOf t1.2.1)))) := ⟨_, rfl⟩
      rw [← eJ2]
      have gJ2 : hmGg m (200 + D.length) I J2 := by rw [eJ2]; exact gQ1.tr (hmGg.up (by omega) (by omega))
      have vJ2 : J2 (m + 24) (200 + D.length) = nI 1 := by rw [eJ2, va_up_ne _ _ (by omega), q1.1 (m + 24) (by omega)]; exact vJ1
      have wJ2 : J2 (m + 25) (200 + D.length) = nI (nms.idxOf t1.2.1) := by rw [eJ2, va_up_self, va_up_self]
      have hAJ2 : hmAm J2 L1 m T t1 r1 := by rw [eJ2]; exact hAJ1.kept (fun k hk => by rw [va_up_ne _ _ (by omega)]; exact q1.2 k (by omega) (by omega)) (by rw [va_up_ne _ _ (by omega)]; exact q1.1 _ (by omega)) rfl
      refine mc_nxt hm hAJ2 hc ht1 (fun t2 r2 I2 L2 er2 gs2 gt2 hA2 => ?_)
      simp only [Option.toList, List.cons_append, List.nil_append]
      have gI2 : hmGg m (200 + D.length) I I2 := gJ2.tr (hmGg.nf gs2)
      have hlr2 : (t2 :: r2).length < (t1 :: r1).length := by rw [er2, List.length_cons (as := t2 :: r2)]; omega
      have vI2 : I2 (m + 24) (200 + D.length) = nI 1 := by rw [gs2.1 (m + 24) (by omega)]; exact vJ2
      have wI2 : I2 (m + 25) (200 + D.length) = nI (nms.idxOf t1.2.1) := by rw [gs2.1 (m + 25) (by omega)]; exact wJ2
      refine Ex_iload_n 136 (i := 1) dX9_readsLine_135 rfl rfl rfl ?_
      refine Ex_iconst 137 (v := 2) dX9_readsLine_136 (by decide) rfl ?_
      refine Ex_icmp_ne 140 182 dX9_readsLine_137 (by decide) rfl (fun c6 => ?_) (fun c6 => absurd c6 (by decide))
      refine Ex_aload_n 183 (i := 0) dX9_readsLine_182 rfl rfl rfl ?_
      refine Ex_getR 186 dX9_readsLine_183 fX9_78 (xMs_0 hm) rfl (xMr_34 hm) rfl ?_
      refine Ex_iconst 187 (v := 5) dX9_readsLine_186 (by decide) rfl ?_
      refine Ex_dup2 188 dX9_readsLine_187 rfl rfl rfl ?_
      refine Ex_aI 189 5 (I2 (m + 23) 5) dX9_readsLine_188 (xMs_23 hm) rfl (by decide) (by decide) rfl rfl ?_
      rw [gI2.1 (m + 23) (by omega) (by omega), hD.2.1]
      refine Ex_iconst 190 (v := 1) dX9_readsLine_189 (by decide) rfl ?_
      refine Ex_iadd 191 dX9_readsLine_190 rfl ?_
      refine Ex_sI 192 5 (I2 (m + 23)) (va_up I2 (m + 23) (va_up (I2 (m + 23)) 5 ((nI D.length) + 1))) dX9_readsLine_191 (xMs_23 hm) rfl (by decide) (by decide) rfl rfl rfl ?_
      refine Ex_aload_n 193 (i := 0) dX9_readsLine_192 rfl rfl rfl ?_
      refine Ex_callV (M' := MX9_closes) 196 [] (rest := []) dX9_readsLine_193 lX9_268 mX9_closes rfl (xMs_0 hm) rfl (Nat.le_of_ble_eq_true rfl) (Nat.le_of_ble_eq_true rfl) rfl ?_
      obtain ⟨K, eK⟩ : ∃ K, K = (va_up I2 (m + 23) (va_up (I2 (m + 23)) 5 ((nI D.length) + 1))) := ⟨_, rfl⟩
      rw [← eK]
      have gK : hmGy m I K := by rw [eK]; exact (hmGy.gg (n := (200 + D.length)) (by omega) gI2).tr hmGy.ln
      have hAK : hmAm K L2 m T t2 r2 := by rw [eK]; exact hA2.kept (fun k hk => by rw [va_up_ne _ _ (by omega)]) (va_up_ne _ _ (by omega)) rfl
      have hMK : hmMd K m 5 (D ++ [(1, (nms.idxOf t1.2.1), 0)]) := hmMd_app hD hl40 gI2 (by rw [eK, va_up_self, va_up_self]) (by rw [eK, va_up_ne _ _ (by omega)]) (by rw [eK, va_up_ne _ _ (by omega)]) (by rw [eK, va_up_ne _ _ (by omega)]) vI2 (fun _ => wI2) (fun q => absurd q (by show ¬ (1 = 2); decide))
      refine mc_closes hm hAK hc (fun hb => ?_) (fun hb t9 r9 I9 L9 er9 gs9 gt9 hA9 => ?_)
      · simp only [Option.toList, List.nil_append, List.cons_append]
        refine Ex_iret dX9_readsLine_196 rfl (by decide) (Or.inl rfl) ?_
        have hfl := hmFl_lt (k := 1) (t := t2) (by omega) (by omega) hAK.pl
        exact hF (hmFl 1 t2) _ L2 (by rw [e2 h40 t1 r1 t2 r2 er1 er2 eN1]; unfold hmY3; rw [hmXs_no hb]; rfl) hfl.1 hfl.2 (gK.tr (hmGy.gg (n := (200 + D.length)) (by omega) hmGg.fl)) ((gt1.tr gt2)) (by rw [va_up_self, va_up_self])
      · simp only [Option.toList, List.nil_append, List.cons_append]
        refine Ex_iret dX9_readsLine_196 rfl (by decide) (Or.inl rfl) ?_
        have hlr9 : (t9 :: r9).length < (t2 :: r2).length := by rw [er9, List.length_cons (as := t9 :: r9)]; omega
        exact hQ (D ++ [(1, (nms.idxOf t1.2.1), 0)]) t9 r9 I9 L9 (by rw [e2 h40 t1 r1 t2 r2 er1 er2 eN1]; unfold hmY3; rw [hmXs_yes hb, er9]; rfl) (by omega) (gK.tr (hmGy.gg (n := (200 + D.length)) (by omega) (hmGg.nf gs9))) ((gt1.tr gt2).tr gt9) ⟨hMK.1, by rw [gs9.1 (m + 23) (by omega)]; exact hMK.2.1, by rw [gs9.1 (m + 24) (by omega), gs9.1 (m + 25) (by omega), gs9.1 (m + 26) (by omega)]; exact hMK.2.2⟩ hA9
  · refine Ex_aload_n 80 (i := 0) dX9_readsLine_79 rfl rfl rfl ?_
    refine Ex_iconst 81 (v := 5) dX9_readsLine_80 (by decide) rfl ?_
    refine Ex_callV (M' := MX9_fails) 84 [.int 5] (rest := []) dX9_readsLine_81 lX9_193 mX9_fails rfl (xMs_0 hm) rfl (Nat.le_of_ble_eq_true rfl) (Nat.le_of_ble_eq_true rfl) rfl ?_
    refine mc_fails (k := 5) hm hA ?_
    simp only [Option.toList, List.nil_append, List.cons_append]
    refine Ex_iret dX9_readsLine_84 rfl (by decide) (Or.inl rfl) ?_
    have h40 : D.length = 40 := (nI_eq (b := 40) (by omega) (by omega)).mp c2
    have hfl := hmFl_lt (k := 5) (t := t) (by omega) (by omega) hA.pl
    exact hF (hmFl 5 t) _ L (by rw [hmDL_yes hw, if_pos h40]) hfl.1 hfl.2 (hmGy.gg (n := (200 + D.length)) (by omega) ((hmGg.rf (n := (200 + D.length))).tr hmGg.fl)) (hmNl.rf) (by rw [va_up_self, va_up_self])
set_option maxHeartbeats 4000000 in
theorem mc_rl_2 {d : Nat} {sh : xSh} {R : xR} {L : xL} {I : xI} {Q : xQ} {m : Nat} {T : List Nat} {t : hmTok} {r : List hmTok} (hm : xModel sh R m) (hA : hmAm I L m T t r) (hc : ∀ x, x ∈ T → x < 127) {nms : List (List Nat)} (hn6 : nms.length ≤ 6) (h6 : I (m + 2) 0 = nI nms.length) (hnm : ∀ i, i < nms.length → L (m + 3) (0 + i) = hmE27 (nms.getD i []) ∧ hmWd (nms.getD i [])) {D : hmDay} (hD : hmMd I m 5 D) (hw : hmDw t = some 2) (hF : ∀ F I' L', hmDL nms D (t :: r) = .inl F → 1 ≤ F → F < 20000 → hmGy m I I' → hmNl m L L' → I' m 9 = nI F → Q (some (.int 0)) 0 sh R L' I') (hQ : ∀ D' t' r' I' L', hmDL nms D (t :: r) = .inr (D', t' :: r') → (t' :: r').length < (t :: r).length → hmGy m I I' → hmNl m L L' → hmMd I' m 5 D' → hmAm I' L' m T t' r' → Q (some (.int 1)) 0 sh R L' I') : Ex (d + 3) 0 0 MX9_readsLine 0 sh R L I 57 [some (.ref m), none, none] [.int 2] Q := by
  have hd1 := hD.1
  have ht : ¬ t.1 = 0 := (hmDw_lt hw).2
  have e1 : ∀ h : ¬ D.length = 40, hmDL nms D (t :: r) = hmY2 nms D 2 r := fun h => by rw [hmDL_yes hw, if_neg h, if_neg (by decide)]
  refine Ex_istore_n 58 (i := 1) (ls' := [some (.ref m), some (.int 2), none]) dX9_readsLine_57 rfl (Nat.le_of_ble_eq_true rfl) rfl rfl rfl ?_
  refine Ex_iload_n 59 (i := 1) dX9_readsLine_58 rfl rfl rfl ?_
  refine Ex_if_ge 62 68 dX9_readsLine_59 (by decide) rfl (fun c1 => ?_) (fun c1 => absurd c1 (fun q => q (by decide)))
  refine Ex_aload_n 69 (i := 0) dX9_readsLine_68 rfl rfl rfl ?_
  refine Ex_getR 72 dX9_readsLine_69 fX9_78 (xMs_0 hm) rfl (xMr_34 hm) rfl ?_
  refine Ex_iconst 73 (v := 5) dX9_readsLine_72 (by decide) rfl ?_
  refine Ex_aI 74 5 (I (m + 23) 5) dX9_readsLine_73 (xMs_23 hm) rfl (by decide) (by decide) rfl rfl ?_
  rw [hD.2.1]
  refine Ex_bipush 76 (v := 40) dX9_readsLine_74 (by decide) rfl ?_
  refine Ex_icmp_ne 79 85 dX9_readsLine_76 (by decide) rfl (fun c2 => ?_) (fun c2 => ?_)
  · refine Ex_aload_n 86 (i := 0) dX9_readsLine_85 rfl rfl rfl ?_
    refine Ex_callV (M' := MX9_nextToken) 89 [] (rest := []) dX9_readsLine_86 lX9_200 mX9_nextToken rfl (xMs_0 hm) rfl (Nat.le_of_ble_eq_true rfl) (Nat.le_of_ble_eq_true rfl) rfl ?_
    have h40 : ¬ D.length = 40 := fun q => c2 (by rw [q]; rfl)
    have hl40 : D.length < 40 := by omega
    refine mc_nxt hm hA hc ht (fun t1 r1 I1 L1 er1 gs1 gt1 hA1 => ?_)
    simp only [Option.toList, List.nil_append, List.cons_append]
    refine Ex_sipush 92 (v := 200) dX9_readsLine_89 (by decide) rfl ?_
    refine Ex_aload_n 93 (i := 0) dX9_readsLine_92 rfl rfl rfl ?_
    refine Ex_getR 96 dX9_readsLine_93 fX9_78 (xMs_0 hm) rfl (xMr_34 hm) rfl ?_
    refine Ex_iconst 97 (v := 5) dX9_readsLine_96 (by decide) rfl ?_
    refine Ex_aI 98 5 (I1 (m + 23) 5) dX9_readsLine_97 (xMs_23 hm) rfl (by decide) (by decide) rfl rfl ?_
    rw [gs1.1 (m + 23) (by omega), hD.2.1]
    refine Ex_iadd 99 dX9_readsLine_98 rfl ?_
    refine Ex_istore_n 100 (i := 2) (ls' := [some (.ref m), some (.int 2), some (.int (200 + (nI D.length)))]) dX9_readsLine_99 rfl (Nat.le_of_ble_eq_true rfl) rfl rfl rfl ?_
    refine Ex_aload_n 101 (i := 0) dX9_readsLine_100 rfl rfl rfl ?_
    refine Ex_getR 104 dX9_readsLine_101 fX9_81 (xMs_0 hm) rfl (xMr_35 hm) rfl ?_
    refine Ex_iload_n 105 (i := 2) dX9_readsLine_104 rfl rfl rfl ?_
    refine Ex_iload_n 106 (i := 1) dX9_readsLine_105 rfl rfl rfl ?_
    refine Ex_sI 107 (200 + D.length) (I1 (m + 24)) (va_up I1 (m + 24) (va_up (I1 (m + 24)) (200 + D.length) 2)) dX9_readsLine_106 (xMs_24 hm) (hm_ad rfl rfl) (by omega) (by decide) rfl rfl rfl ?_
    obtain ⟨J1, eJ1⟩ : ∃ J1, J1 = (va_up I1 (m + 24) (va_up (I1 (m + 24)) (200 + D.length) 2)) := ⟨_, rfl⟩
    rw [← eJ1]
    have gJ1 : hmGg m (200 + D.length) I J1 := by rw [eJ1]; exact (hmGg.nf gs1).tr (hmGg.up (by omega) (by omega))
    have vJ1 : J1 (m + 24) (200 + D.length) = nI 2 := by rw [eJ1, va_up_self, va_up_self]; rfl
    have hAJ1 : hmAm J1 L1 m T t1 r1 := by rw [eJ1]; exact hA1.kept (fun k hk => by rw [va_up_ne _ _ (by omega)]) (va_up_ne _ _ (by omega)) rfl
    have hlr1 : (t1 :: r1).length < (t :: r).length := by rw [er1, List.length_cons (as := t1 :: r1)]; omega
    refine Ex_iload_n 108 (i := 1) dX9_readsLine_107 rfl rfl rfl ?_
    refine Ex_iconst 109 (v := 3) dX9_readsLine_108 (by decide) rfl ?_
    refine Ex_icmp_eq 112 135 dX9_readsLine_109 (by decide) rfl (fun c3 => absurd c3 (by decide)) (fun c3 => ?_)
    refine Ex_aload_n 113 (i := 0) dX9_readsLine_112 rfl rfl rfl ?_
    refine Ex_callV (M' := MX9_needsCaller) 116 [] (rest := []) dX9_readsLine_113 lX9_294 mX9_needsCaller rfl (xMs_0 hm) rfl (Nat.le_of_ble_eq_true rfl) (Nat.le_of_ble_eq_true rfl) rfl ?_
    refine mc_needsCaller hm hAJ1 hn6 (by rw [gJ1.1 (m + 2) (by omega) (by omega)]; exact h6) (fun i hi => by rw [(gt1).1 (m + 3) (by omega)]; exact hnm i hi) (fun F Q1 e f1 f2 q9 k9 => ?_) (fun hb1 hin1 Q1 q1 k1 => ?_)
    · simp only [Option.toList, List.nil_append, List.cons_append]
      refine Ex_if_ne 119 121 dX9_readsLine_116 (by decide) rfl (fun c4 => absurd c4 (fun q => q (by decide))) (fun c4 => ?_)
      refine Ex_iconst 120 (v := 0) dX9_readsLine_119 (by decide) rfl ?_
      refine Ex_iret dX9_readsLine_120 rfl (by decide) (Or.inl rfl) ?_
      exact hF F Q1 L1 (by rw [e1 h40, er1]; unfold hmY2; rw [e none]; rfl) f1 f2 (hmGy.gg (n := (200 + D.length)) (by omega) (gJ1.tr (hmGg.qv q9))) (gt1) k9
    · simp only [Option.toList, List.nil_append, List.cons_append]
      have gQ1 : hmGg m (200 + D.length) I Q1 := gJ1.tr (hmGg.qv q1)
      have ht1 : ¬ t1.1 = 0 := fun z => by simp [hmNm, z] at hb1
      have eN1 : hmNc nms none (t1 :: r1) = .inr ((nms.idxOf t1.2.1), r1) := by rw [hmNc_c, if_pos hb1, if_pos hin1, if_neg (by simp)]
      refine Ex_if_ne 119 121 dX9_readsLine_116 (by decide) rfl (fun c5 => ?_) (fun c5 => absurd c5 (by decide))
      refine Ex_aload_n 122 (i := 0) dX9_readsLine_121 rfl rfl rfl ?_
      refine Ex_getR 125 dX9_readsLine_122 fX9_84 (xMs_0 hm) rfl (xMr_36 hm) rfl ?_
      refine Ex_iload_n 126 (i := 2) dX9_readsLine_125 rfl rfl rfl ?_
      refine Ex_aload_n 127 (i := 0) dX9_readsLine_126 rfl rfl rfl ?_
      refine Ex_gI 130 (Q1 m 33) dX9_readsLine_127 fX9_248 (xMs_0 hm) rfl rfl rfl ?_
      rw [k1]
      refine Ex_sI 131 (200 + D.length) (Q1 (m + 25)) (va_up Q1 (m + 25) (va_up (Q1 (m + 25)) (200 + D.length) (nI (nms.idxOf t1.2.1)))) dX9_readsLine_130 (xMs_25 hm) (hm_ad rfl rfl) (by omega) (by decide) rfl rfl rfl ?_
      refine Ex_aload_n 132 (i := 0) dX9_readsLine_131 rfl rfl rfl ?_
      refine Ex_callV (M' := MX9_nextToken) 135 [] (rest := []) dX9_readsLine_132 lX9_200 mX9_nextToken rfl (xMs_0 hm) rfl (Nat.le_of_ble_eq_true rfl) (Nat.le_of_ble_eq_true rfl) rfl ?_
      obtain ⟨J2, eJ2⟩ : ∃ J2, J2 = (va_up Q1 (m + 25) (va_up (Q1 (m + 25)) (200 + D.length) (nI (nms.idxOf t1.2.1)))) := ⟨_, rfl⟩
      rw [← eJ2]
      have gJ2 : hmGg m (200 + D.length) I J2 := by rw [eJ2]; exact gQ1.tr (hmGg.up (by omega) (by omega))
      have vJ2 : J2 (m + 24) (200 + D.length) = nI 2 := by rw [eJ2, va_up_ne _ _ (by omega), q1.1 (m + 24) (by omega)]; exact vJ1
      have wJ2 : J2 (m + 25) (200 + D.length) = nI (nms.idxOf t1.2.1) := by rw [eJ2, va_up_self, va_up_self]
      have hAJ2 : hmAm J2 L1 m T t1 r1 := by rw [eJ2]; exact hAJ1.kept (fun k hk => by rw [va_up_ne _ _ (by omega)]; exact q1.2 k (by omega) (by omega)) (by rw [va_up_ne _ _ (by omega)]; exact q1.1 _ (by omega)) rfl
      refine mc_nxt hm hAJ2 hc ht1 (fun t2 r2 I2 L2 er2 gs2 gt2 hA2 => ?_)
      simp only [Option.toList, List.cons_append, List.nil_append]
      have gI2 : hmGg m (200 + D.length) I I2 := gJ2.tr (hmGg.nf gs2)
      have hlr2 : (t2 :: r2).length < (t1 :: r1).length := by rw [er2, List.length_cons (as := t2 :: r2)]; omega
      have vI2 : I2 (m + 24) (200 + D.length) = nI 2 := by rw [gs2.1 (m + 24) (by omega)]; exact vJ2
      have wI2 : I2 (m + 25) (200 + D.length) = nI (nms.idxOf t1.2.1) := by rw [gs2.1 (m + 25) (by omega)]; exact wJ2
      refine Ex_iload_n 136 (i := 1) dX9_readsLine_135 rfl rfl rfl ?_
      refine Ex_iconst 137 (v := 2) dX9_readsLine_136 (by decide) rfl ?_
      refine Ex_icmp_ne 140 182 dX9_readsLine_137 (by decide) rfl (fun c6 => absurd c6 (fun q => q (by decide))) (fun c6 => ?_)
      refine Ex_aload_n 141 (i := 0) dX9_readsLine_140 rfl rfl rfl ?_
      refine Ex_callV (M' := MX9_needsCaller) 144 [] (rest := []) dX9_readsLine_141 lX9_294 mX9_needsCaller rfl (xMs_0 hm) rfl (Nat.le_of_ble_eq_true rfl) (Nat.le_of_ble_eq_true rfl) rfl ?_
      refine mc_needsCaller hm hA2 hn6 (by rw [gI2.1 (m + 2) (by omega) (by omega)]; exact h6) (fun i hi => by rw [((gt1.tr gt2)).1 (m + 3) (by omega)]; exact hnm i hi) (fun F Q2 e f1 f2 q9 k9 => ?_) (fun hb2 hin2 Q2 q2 k2 => ?_)
      · simp only [Option.toList, List.nil_append, List.cons_append]
        refine Ex_if_ne 147 149 dX9_readsLine_144 (by decide) rfl (fun c7 => absurd c7 (fun q => q (by decide))) (fun c7 => ?_)
        refine Ex_iconst 148 (v := 0) dX9_readsLine_147 (by decide) rfl ?_
        refine Ex_iret dX9_readsLine_148 rfl (by decide) (Or.inl rfl) ?_
        exact hF F Q2 L2 (by rw [e1 h40, er1]; unfold hmY2; rw [eN1, er2]; show hmBd (hmNc nms (some _) (t2 :: r2)) _ = _; rw [e (some _)]; rfl) f1 f2 (hmGy.gg (n := (200 + D.length)) (by omega) (gI2.tr (hmGg.qv q9))) ((gt1.tr gt2)) k9
      · simp only [Option.toList, List.nil_append, List.cons_append]
        have gQ2 : hmGg m (200 + D.length) I Q2 := gI2.tr (hmGg.qv q2)
        have ht2 : ¬ t2.1 = 0 := fun z => by simp [hmNm, z] at hb2
        have vQ2 : Q2 (m + 24) (200 + D.length) = nI 2 := by rw [q2.1 (m + 24) (by omega)]; exact vI2
        have wQ2 : Q2 (m + 25) (200 + D.length) = nI (nms.idxOf t1.2.1) := by rw [q2.1 (m + 25) (by omega)]; exact wI2
        have hAQ2 : hmAm Q2 L2 m T t2 r2 := hA2.kept (fun k hk => q2.2 k (by omega) (by omega)) (q2.1 _ (by omega)) rfl
        have i1 := List.idxOf_lt_length_of_mem hin1
        have i2 := List.idxOf_lt_length_of_mem hin2
        refine Ex_if_ne 147 149 dX9_readsLine_144 (by decide) rfl (fun c8 => ?_) (fun c8 => absurd c8 (by decide))
        refine Ex_aload_n 150 (i := 0) dX9_readsLine_149 rfl rfl rfl ?_
        refine Ex_gI 153 (Q2 m 33) dX9_readsLine_150 fX9_248 (xMs_0 hm) rfl rfl rfl ?_
        rw [k2]
        refine Ex_aload_n 154 (i := 0) dX9_readsLine_153 rfl rfl rfl ?_
        refine Ex_getR 157 dX9_readsLine_154 fX9_84 (xMs_0 hm) rfl (xMr_36 hm) rfl ?_
        refine Ex_iload_n 158 (i := 2) dX9_readsLine_157 rfl rfl rfl ?_
        refine Ex_aI 159 (200 + D.length) (Q2 (m + 25) (200 + D.length)) dX9_readsLine_158 (xMs_25 hm) (hm_ad rfl rfl) (by omega) (by decide) rfl rfl ?_
        rw [wQ2]
        refine Ex_icmp_ne 162 168 dX9_readsLine_159 (by decide) rfl (fun c9 => ?_) (fun c9 => ?_)
        · refine Ex_aload_n 169 (i := 0) dX9_readsLine_168 rfl rfl rfl ?_
          refine Ex_getR 172 dX9_readsLine_169 fX9_87 (xMs_0 hm) rfl (xMr_37 hm) rfl ?_
          refine Ex_iload_n 173 (i := 2) dX9_readsLine_172 rfl rfl rfl ?_
          refine Ex_aload_n 174 (i := 0) dX9_readsLine_173 rfl rfl rfl ?_
          refine Ex_gI 177 (Q2 m 33) dX9_readsLine_174 fX9_248 (xMs_0 hm) rfl rfl rfl ?_
          rw [k2]
          refine Ex_sI 178 (200 + D.length) (Q2 (m + 26)) (va_up Q2 (m + 26) (va_up (Q2 (m + 26)) (200 + D.length) (nI (nms.idxOf t2.2.1)))) dX9_readsLine_177 (xMs_26 hm) (hm_ad rfl rfl) (by omega) (by decide) rfl rfl rfl ?_
          refine Ex_aload_n 179 (i := 0) dX9_readsLine_178 rfl rfl rfl ?_
          refine Ex_callV (M' := MX9_nextToken) 182 [] (rest := []) dX9_readsLine_179 lX9_200 mX9_nextToken rfl (xMs_0 hm) rfl (Nat.le_of_ble_eq_true rfl) (Nat.le_of_ble_eq_true rfl) rfl ?_
          have hdif : ¬ (nms.idxOf t2.2.1) = (nms.idxOf t1.2.1) := fun q => c9 (by rw [q])
          have eN2 : hmNc nms (some (nms.idxOf t1.2.1)) (t2 :: r2) = .inr ((nms.idxOf t2.2.1), r2) := by rw [hmNc_c, if_pos hb2, if_pos hin2, if_neg (fun q => hdif (Option.some.inj q))]
          obtain ⟨J3, eJ3⟩ : ∃ J3, J3 = (va_up Q2 (m + 26) (va_up (Q2 (m + 26)) (200 + D.length) (nI (nms.idxOf t2.2.1)))) := ⟨_, rfl⟩
          rw [← eJ3]
          have gJ3 : hmGg m (200 + D.length) I J3 := by rw [eJ3]; exact gQ2.tr (hmGg.up (by omega) (by omega))
          have vJ3 : J3 (m + 24) (200 + D.length) = nI 2 := by rw [eJ3, va_up_ne _ _ (by omega)]; exact vQ2
          have wJ3 : J3 (m + 25) (200 + D.length) = nI (nms.idxOf t1.2.1) := by rw [eJ3, va_up_ne _ _ (by omega)]; exact wQ2
          have uJ3 : J3 (m + 26) (200 + D.length) = nI (nms.idxOf t2.2.1) := by rw [eJ3, va_up_self, va_up_self]
          have hAJ3 : hmAm J3 L2 m T t2 r2 := by rw [eJ3]; exact hAQ2.kept (fun k hk => by rw [va_up_ne _ _ (by omega)]) (va_up_ne _ _ (by omega)) rfl
          refine mc_nxt hm hAJ3 hc ht2 (fun t3 r3 I3 L3 er3 gs3 gt3 hA3 => ?_)
          simp only [Option.toList, List.cons_append, List.nil_append]
          have gI3 : hmGg m (200 + D.length) I I3 := gJ3.tr (hmGg.nf gs3)
          have hlr3 : (t3 :: r3).length < (t2 :: r2).length := by rw [er3, List.length_cons (as := t3 :: r3)]; omega
          have vI3 : I3 (m + 24) (200 + D.length) = nI 2 := by rw [gs3.1 (m + 24) (by omega)]; exact vJ3
          have wI3 : I3 (m + 25) (200 + D.length) = nI (nms.idxOf t1.2.1) := by rw [gs3.1 (m + 25) (by omega)]; exact wJ3
          have uI3 : I3 (m + 26) (200 + D.length) = nI (nms.idxOf t2.2.1) := by rw [gs3.1 (m + 26) (by omega)]; exact uJ3
          have e2 : hmDL nms D (t :: r) = hmY3 D (2, (nms.idxOf t1.2.1), (nms.idxOf t2.2.1)) (t3 :: r3) := by
            rw [e1 h40, er1]
            unfold hmY2
            rw [eN1, er2]
            show hmBd (hmNc nms (some _) (t2 :: r2)) _ = _
            rw [eN2, ← er3]
            rfl
          refine Ex_aload_n 183 (i := 0) dX9_readsLine_182 rfl rfl rfl ?_
          refine Ex_getR 186 dX9_readsLine_183 fX9_78 (xMs_0 hm) rfl (xMr_34 hm) rfl ?_
          refine Ex_iconst 187 (v := 5) dX9_readsLine_186 (by decide) rfl ?_
          refine Ex_dup2 188 dX9_readsLine_187 rfl rfl rfl ?_
          refine Ex_aI 189 5 (I3 (m + 23) 5) dX9_readsLine_188 (xMs_23 hm) rfl (by decide) (by decide) rfl rfl ?_
          rw [gI3.1 (m + 23) (by omega) (by omega), hD.2.1]
          refine Ex_iconst 190 (v := 1) dX9_readsLine_189 (by decide) rfl ?_
          refine Ex_iadd 191 dX9_readsLine_190 rfl ?_
          refine Ex_sI 192 5 (I3 (m + 23)) (va_up I3 (m + 23) (va_up (I3 (m + 23)) 5 ((nI D.length) + 1))) dX9_readsLine_191 (xMs_23 hm) rfl (by decide) (by decide) rfl rfl rfl ?_
          refine Ex_aload_n 193 (i := 0) dX9_readsLine_192 rfl rfl rfl ?_
          refine Ex_callV (M' := MX9_closes) 196 [] (rest := []) dX9_readsLine_193 lX9_268 mX9_closes rfl (xMs_0 hm) rfl (Nat.le_of_ble_eq_true rfl) (Nat.le_of_ble_eq_true rfl) rfl ?_
          obtain ⟨K, eK⟩ : ∃ K, K = (va_up I3 (m + 23) (va_up (I3 (m + 23)) 5 ((nI D.length) + 1))) := ⟨_, rfl⟩
          rw [← eK]
          have gK : hmGy m I K := by rw [eK]; exact (hmGy.gg (n := (200 + D.length)) (by omega) gI3).tr hmGy.ln
          have hAK : hmAm K L3 m T t3 r3 := by rw [eK]; exact hA3.kept (fun k hk => by rw [va_up_ne _ _ (by omega)]) (va_up_ne _ _ (by omega)) rfl
          have hMK : hmMd K m 5 (D ++ [(2, (nms.idxOf t1.2.1), (nms.idxOf t2.2.1))]) := hmMd_app hD hl40 gI3 (by rw [eK, va_up_self, va_up_self]) (by rw [eK, va_up_ne _ _ (by omega)]) (by rw [eK, va_up_ne _ _ (by omega)]) (by rw [eK, va_up_ne _ _ (by omega)]) vI3 (fun _ => wI3) (fun _ => uI3)
          refine mc_closes hm hAK hc (fun hb => ?_) (fun hb t9 r9 I9 L9 er9 gs9 gt9 hA9 => ?_)
          · simp only [Option.toList, List.nil_append, List.cons_append]
            refine Ex_iret dX9_readsLine_196 rfl (by decide) (Or.inl rfl) ?_
            have hfl := hmFl_lt (k := 1) (t := t3) (by omega) (by omega) hAK.pl
            exact hF (hmFl 1 t3) _ L3 (by rw [e2]; unfold hmY3; rw [hmXs_no hb]; rfl) hfl.1 hfl.2 (gK.tr (hmGy.gg (n := (200 + D.length)) (by omega) hmGg.fl)) (((gt1.tr gt2).tr gt3)) (by rw [va_up_self, va_up_self])
          · simp only [Option.toList, List.nil_append, List.cons_append]
            refine Ex_iret dX9_readsLine_196 rfl (by decide) (Or.inl rfl) ?_
            have hlr9 : (t9 :: r9).length < (t3 :: r3).length := by rw [er9, List.length_cons (as := t9 :: r9)]; omega
            exact hQ (D ++ [(2, (nms.idxOf t1.2.1), (nms.idxOf t2.2.1))]) t9 r9 I9 L9 (by rw [e2]; unfold hmY3; rw [hmXs_yes hb, er9]; rfl) (by omega) (gK.tr (hmGy.gg (n := (200 + D.length)) (by omega) (hmGg.nf gs9))) (((gt1.tr gt2).tr gt3).tr gt9) ⟨hMK.1, by rw [gs9.1 (m + 23) (by omega)]; exact hMK.2.1, by rw [gs9.1 (m + 24) (by omega), gs9.1 (m + 25) (by omega), gs9.1 (m + 26) (by omega)]; exact hMK.2.2⟩ hA9
        · refine Ex_aload_n 163 (i := 0) dX9_readsLine_162 rfl rfl rfl ?_
          refine Ex_iconst 164 (v := 3) dX9_readsLine_163 (by decide) rfl ?_
          refine Ex_callV (M' := MX9_fails) 167 [.int 3] (rest := []) dX9_readsLine_164 lX9_193 mX9_fails rfl (xMs_0 hm) rfl (Nat.le_of_ble_eq_true rfl) (Nat.le_of_ble_eq_true rfl) rfl ?_
          refine mc_fails (k := 3) hm hAQ2 ?_
          simp only [Option.toList, List.nil_append, List.cons_append]
          refine Ex_iret dX9_readsLine_167 rfl (by decide) (Or.inl rfl) ?_
          have hsame : (nms.idxOf t2.2.1) = (nms.idxOf t1.2.1) := (nI_eq (by omega) (by omega)).mp c9
          have hfl := hmFl_lt (k := 3) (t := t2) (by omega) (by omega) hAQ2.pl
          exact hF (hmFl 3 t2) _ L2 (by rw [e1 h40, er1]; unfold hmY2; rw [eN1, er2]; show hmBd (hmNc nms (some _) (t2 :: r2)) _ = _; rw [hmNc_c, if_pos hb2, if_pos hin2, if_pos (by rw [hsame])]; rfl) hfl.1 hfl.2 (hmGy.gg (n := (200 + D.length)) (by omega) (gQ2.tr hmGg.fl)) (gt1.tr gt2) (by rw [va_up_self, va_up_self])
  · refine Ex_aload_n 80 (i := 0) dX9_readsLine_79 rfl rfl rfl ?_
    refine Ex_iconst 81 (v := 5) dX9_readsLine_80 (by decide) rfl ?_
    refine Ex_callV (M' := MX9_fails) 84 [.int 5] (rest := []) dX9_readsLine_81 lX9_193 mX9_fails rfl (xMs_0 hm) rfl (Nat.le_of_ble_eq_true rfl) (Nat.le_of_ble_eq_true rfl) rfl ?_
    refine mc_fails (k := 5) hm hA ?_
    simp only [Option.toList, List.nil_append, List.cons_append]
    refine Ex_iret dX9_readsLine_84 rfl (by decide) (Or.inl rfl) ?_
    have h40 : D.length = 40 := (nI_eq (b := 40) (by omega) (by omega)).mp c2
    have hfl := hmFl_lt (k := 5) (t := t) (by omega) (by omega) hA.pl
    exact hF (hmFl 5 t) _ L (by rw [hmDL_yes hw, if_pos h40]) hfl.1 hfl.2 (hmGy.gg (n := (200 + D.length)) (by omega) ((hmGg.rf (n := (200 + D.length))).tr hmGg.fl)) (hmNl.rf) (by rw [va_up_self, va_up_self])
set_option maxHeartbeats 4000000 in
theorem mc_rl_3 {d : Nat} {sh : xSh} {R : xR} {L : xL} {I : xI} {Q : xQ} {m : Nat} {T : List Nat} {t : hmTok} {r : List hmTok} (hm : xModel sh R m) (hA : hmAm I L m T t r) (hc : ∀ x, x ∈ T → x < 127) {nms : List (List Nat)} (hn6 : nms.length ≤ 6) (h6 : I (m + 2) 0 = nI nms.length) (hnm : ∀ i, i < nms.length → L (m + 3) (0 + i) = hmE27 (nms.getD i []) ∧ hmWd (nms.getD i [])) {D : hmDay} (hD : hmMd I m 5 D) (hw : hmDw t = some 3) (hF : ∀ F I' L', hmDL nms D (t :: r) = .inl F → 1 ≤ F → F < 20000 → hmGy m I I' → hmNl m L L' → I' m 9 = nI F → Q (some (.int 0)) 0 sh R L' I') (hQ : ∀ D' t' r' I' L', hmDL nms D (t :: r) = .inr (D', t' :: r') → (t' :: r').length < (t :: r).length → hmGy m I I' → hmNl m L L' → hmMd I' m 5 D' → hmAm I' L' m T t' r' → Q (some (.int 1)) 0 sh R L' I') : Ex (d + 3) 0 0 MX9_readsLine 0 sh R L I 57 [some (.ref m), none, none] [.int 3] Q := by
  have hd1 := hD.1
  have ht : ¬ t.1 = 0 := (hmDw_lt hw).2
  have e1 : ∀ h : ¬ D.length = 40, hmDL nms D (t :: r) = hmY3 D (3, 0, 0) r := fun h => by rw [hmDL_yes hw, if_neg h, if_pos rfl]
  refine Ex_istore_n 58 (i := 1) (ls' := [some (.ref m), some (.int 3), none]) dX9_readsLine_57 rfl (Nat.le_of_ble_eq_true rfl) rfl rfl rfl ?_
  refine Ex_iload_n 59 (i := 1) dX9_readsLine_58 rfl rfl rfl ?_
  refine Ex_if_ge 62 68 dX9_readsLine_59 (by decide) rfl (fun c1 => ?_) (fun c1 => absurd c1 (fun q => q (by decide)))
  refine Ex_aload_n 69 (i := 0) dX9_readsLine_68 rfl rfl rfl ?_
  refine Ex_getR 72 dX9_readsLine_69 fX9_78 (xMs_0 hm) rfl (xMr_34 hm) rfl ?_
  refine Ex_iconst 73 (v := 5) dX9_readsLine_72 (by decide) rfl ?_
  refine Ex_aI 74 5 (I (m + 23) 5) dX9_readsLine_73 (xMs_23 hm) rfl (by decide) (by decide) rfl rfl ?_
  rw [hD.2.1]
  refine Ex_bipush 76 (v := 40) dX9_readsLine_74 (by decide) rfl ?_
  refine Ex_icmp_ne 79 85 dX9_readsLine_76 (by decide) rfl (fun c2 => ?_) (fun c2 => ?_)
  · refine Ex_aload_n 86 (i := 0) dX9_readsLine_85 rfl rfl rfl ?_
    refine Ex_callV (M' := MX9_nextToken) 89 [] (rest := []) dX9_readsLine_86 lX9_200 mX9_nextToken rfl (xMs_0 hm) rfl (Nat.le_of_ble_eq_true rfl) (Nat.le_of_ble_eq_true rfl) rfl ?_
    have h40 : ¬ D.length = 40 := fun q => c2 (by rw [q]; rfl)
    have hl40 : D.length < 40 := by omega
    refine mc_nxt hm hA hc ht (fun t1 r1 I1 L1 er1 gs1 gt1 hA1 => ?_)
    simp only [Option.toList, List.nil_append, List.cons_append]
    refine Ex_sipush 92 (v := 200) dX9_readsLine_89 (by decide) rfl ?_
    refine Ex_aload_n 93 (i := 0) dX9_readsLine_92 rfl rfl rfl ?_
    refine Ex_getR 96 dX9_readsLine_93 fX9_78 (xMs_0 hm) rfl (xMr_34 hm) rfl ?_
    refine Ex_iconst 97 (v := 5) dX9_readsLine_96 (by decide) rfl ?_
    refine Ex_aI 98 5 (I1 (m + 23) 5) dX9_readsLine_97 (xMs_23 hm) rfl (by decide) (by decide) rfl rfl ?_
    rw [gs1.1 (m + 23) (by omega), hD.2.1]
    refine Ex_iadd 99 dX9_readsLine_98 rfl ?_
    refine Ex_istore_n 100 (i := 2) (ls' := [some (.ref m), some (.int 3), some (.int (200 + (nI D.length)))]) dX9_readsLine_99 rfl (Nat.le_of_ble_eq_true rfl) rfl rfl rfl ?_
    refine Ex_aload_n 101 (i := 0) dX9_readsLine_100 rfl rfl rfl ?_
    refine Ex_getR 104 dX9_readsLine_101 fX9_81 (xMs_0 hm) rfl (xMr_35 hm) rfl ?_
    refine Ex_iload_n 105 (i := 2) dX9_readsLine_104 rfl rfl rfl ?_
    refine Ex_iload_n 106 (i := 1) dX9_readsLine_105 rfl rfl rfl ?_
    refine Ex_sI 107 (200 + D.length) (I1 (m + 24)) (va_up I1 (m + 24) (va_up (I1 (m + 24)) (200 + D.length) 3)) dX9_readsLine_106 (xMs_24 hm) (hm_ad rfl rfl) (by omega) (by decide) rfl rfl rfl ?_
    obtain ⟨J1, eJ1⟩ : ∃ J1, J1 = (va_up I1 (m + 24) (va_up (I1 (m + 24)) (200 + D.length) 3)) := ⟨_, rfl⟩
    rw [← eJ1]
    have gJ1 : hmGg m (200 + D.length) I J1 := by rw [eJ1]; exact (hmGg.nf gs1).tr (hmGg.up (by omega) (by omega))
    have vJ1 : J1 (m + 24) (200 + D.length) = nI 3 := by rw [eJ1, va_up_self, va_up_self]; rfl
    have hAJ1 : hmAm J1 L1 m T t1 r1 := by rw [eJ1]; exact hA1.kept (fun k hk => by rw [va_up_ne _ _ (by omega)]) (va_up_ne _ _ (by omega)) rfl
    have hlr1 : (t1 :: r1).length < (t :: r).length := by rw [er1, List.length_cons (as := t1 :: r1)]; omega
    refine Ex_iload_n 108 (i := 1) dX9_readsLine_107 rfl rfl rfl ?_
    refine Ex_iconst 109 (v := 3) dX9_readsLine_108 (by decide) rfl ?_
    refine Ex_icmp_eq 112 135 dX9_readsLine_109 (by decide) rfl (fun c3 => ?_) (fun c3 => absurd c3 (fun q => q (by decide)))
    refine Ex_iload_n 136 (i := 1) dX9_readsLine_135 rfl rfl rfl ?_
    refine Ex_iconst 137 (v := 2) dX9_readsLine_136 (by decide) rfl ?_
    refine Ex_icmp_ne 140 182 dX9_readsLine_137 (by decide) rfl (fun c4 => ?_) (fun c4 => absurd c4 (by decide))
    refine Ex_aload_n 183 (i := 0) dX9_readsLine_182 rfl rfl rfl ?_
    refine Ex_getR 186 dX9_readsLine_183 fX9_78 (xMs_0 hm) rfl (xMr_34 hm) rfl ?_
    refine Ex_iconst 187 (v := 5) dX9_readsLine_186 (by decide) rfl ?_
    refine Ex_dup2 188 dX9_readsLine_187 rfl rfl rfl ?_
    refine Ex_aI 189 5 (J1 (m + 23) 5) dX9_readsLine_188 (xMs_23 hm) rfl (by decide) (by decide) rfl rfl ?_
    rw [gJ1.1 (m + 23) (by omega) (by omega), hD.2.1]
    refine Ex_iconst 190 (v := 1) dX9_readsLine_189 (by decide) rfl ?_
    refine Ex_iadd 191 dX9_readsLine_190 rfl ?_
    refine Ex_sI 192 5 (J1 (m + 23)) (va_up J1 (m + 23) (va_up (J1 (m + 23)) 5 ((nI D.length) + 1))) dX9_readsLine_191 (xMs_23 hm) rfl (by decide) (by decide) rfl rfl rfl ?_
    refine Ex_aload_n 193 (i := 0) dX9_readsLine_192 rfl rfl rfl ?_
    refine Ex_callV (M' := MX9_closes) 196 [] (rest := []) dX9_readsLine_193 lX9_268 mX9_closes rfl (xMs_0 hm) rfl (Nat.le_of_ble_eq_true rfl) (Nat.le_of_ble_eq_true rfl) rfl ?_
    obtain ⟨K, eK⟩ : ∃ K, K = (va_up J1 (m + 23) (va_up (J1 (m + 23)) 5 ((nI D.length) + 1))) := ⟨_, rfl⟩
    rw [← eK]
    have gK : hmGy m I K := by rw [eK]; exact (hmGy.gg (n := (200 + D.length)) (by omega) gJ1).tr hmGy.ln
    have hAK : hmAm K L1 m T t1 r1 := by rw [eK]; exact hAJ1.kept (fun k hk => by rw [va_up_ne _ _ (by omega)]) (va_up_ne _ _ (by omega)) rfl
    have hMK : hmMd K m 5 (D ++ [(3, 0, 0)]) := hmMd_app hD hl40 gJ1 (by rw [eK, va_up_self, va_up_self]) (by rw [eK, va_up_ne _ _ (by omega)]) (by rw [eK, va_up_ne _ _ (by omega)]) (by rw [eK, va_up_ne _ _ (by omega)]) vJ1 (fun q => absurd rfl q) (fun q => absurd q (by decide))
    refine mc_closes hm hAK hc (fun hb => ?_) (fun hb t9 r9 I9 L9 er9 gs9 gt9 hA9 => ?_)
    · simp only [Option.toList, List.nil_append, List.cons_append]
      refine Ex_iret dX9_readsLine_196 rfl (by decide) (Or.inl rfl) ?_
      have hfl := hmFl_lt (k := 1) (t := t1) (by omega) (by omega) hAK.pl
      exact hF (hmFl 1 t1) _ L1 (by rw [e1 h40, er1]; unfold hmY3; rw [hmXs_no hb]; rfl) hfl.1 hfl.2 (gK.tr (hmGy.gg (n := (200 + D.length)) (by omega) hmGg.fl)) (gt1) (by rw [va_up_self, va_up_self])
    · simp only [Option.toList, List.nil_append, List.cons_append]
      refine Ex_iret dX9_readsLine_196 rfl (by decide) (Or.inl rfl) ?_
      have hlr9 : (t9 :: r9).length < (t1 :: r1).length := by rw [er9, List.length_cons (as := t9 :: r9)]; omega
      exact hQ (D ++ [(3, 0, 0)]) t9 r9 I9 L9 (by rw [e1 h40, er1]; unfold hmY3; rw [hmXs_yes hb, er9]; rfl) (by omega) (gK.tr (hmGy.gg (n := (200 + D.length)) (by omega) (hmGg.nf gs9))) (gt1.tr gt9) ⟨hMK.1, by rw [gs9.1 (m + 23) (by omega)]; exact hMK.2.1, by rw [gs9.1 (m + 24) (by omega), gs9.1 (m + 25) (by omega), gs9.1 (m + 26) (by omega)]; exact hMK.2.2⟩ hA9
  · refine Ex_aload_n 80 (i := 0) dX9_readsLine_79 rfl rfl rfl ?_
    refine Ex_iconst 81 (v := 5) dX9_readsLine_80 (by decide) rfl ?_
    refine Ex_callV (M' := MX9_fails) 84 [.int 5] (rest := []) dX9_readsLine_81 lX9_193 mX9_fails rfl (xMs_0 hm) rfl (Nat.le_of_ble_eq_true rfl) (Nat.le_of_ble_eq_true rfl) rfl ?_
    refine mc_fails (k := 5) hm hA ?_
    simp only [Option.toList, List.nil_append, List.cons_append]
    refine Ex_iret dX9_readsLine_84 rfl (by decide) (Or.inl rfl) ?_
    have h40 : D.length = 40 := (nI_eq (b := 40) (by omega) (by omega)).mp c2
    have hfl := hmFl_lt (k := 5) (t := t) (by omega) (by omega) hA.pl
    exact hF (hmFl 5 t) _ L (by rw [hmDL_yes hw, if_pos h40]) hfl.1 hfl.2 (hmGy.gg (n := (200 + D.length)) (by omega) ((hmGg.rf (n := (200 + D.length))).tr hmGg.fl)) (hmNl.rf) (by rw [va_up_self, va_up_self])
set_option maxHeartbeats 4000000 in
theorem mc_readsLine {d : Nat} {sh : xSh} {R : xR} {L : xL} {I : xI} {Q : xQ} {m : Nat} {T : List Nat} {t : hmTok} {r : List hmTok} (hm : xModel sh R m) (hA : hmAm I L m T t r) (hc : ∀ x, x ∈ T → x < 127) {nms : List (List Nat)} (hn6 : nms.length ≤ 6) (h6 : I (m + 2) 0 = nI nms.length) (hnm : ∀ i, i < nms.length → L (m + 3) (0 + i) = hmE27 (nms.getD i []) ∧ hmWd (nms.getD i [])) {D : hmDay} (hD : hmMd I m 5 D) (hF : ∀ F I' L', hmDL nms D (t :: r) = .inl F → 1 ≤ F → F < 20000 → hmGy m I I' → hmNl m L L' → I' m 9 = nI F → Q (some (.int 0)) 0 sh R L' I') (hQ : ∀ D' t' r' I' L', hmDL nms D (t :: r) = .inr (D', t' :: r') → (t' :: r').length < (t :: r).length → hmGy m I I' → hmNl m L L' → hmMd I' m 5 D' → hmAm I' L' m T t' r' → Q (some (.int 1)) 0 sh R L' I') : Ex (d + 3) 0 0 MX9_readsLine 0 sh R L I 0 [some (.ref m), none, none] [] Q := by
  refine mc_rl0 hm hA ?_
  cases hw : hmDw t with
  | none => exact mc_rl_no hm hA hc hn6 h6 hnm hD hw hF hQ
  | some k =>
    have hk := (hmDw_lt hw).1
    match k, hk, hw with
    | 0, _, hw => exact mc_rl_0 hm hA hc hn6 h6 hnm hD hw hF hQ
    | 1, _, hw => exact mc_rl_1 hm hA hc hn6 h6 hnm hD hw hF hQ
    | 2, _, hw => exact mc_rl_2 hm hA hc hn6 h6 hnm hD hw hF hQ
    | 3, _, hw => exact mc_rl_3 hm hA hc hn6 h6 hnm hD hw hF hQ
    | k + 4, hk, _ => exact absurd hk (by omega)
