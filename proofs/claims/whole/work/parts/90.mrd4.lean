/-- what reading a caller may change -/
def hmZf (m n : Nat) (I I' : xI) : Prop := (∀ x, x ≠ m → ¬ (m + 2 ≤ x ∧ x < m + 8) → I' x = I x) ∧ (∀ k, k ≠ 4 → k ≠ 5 → k ≠ 6 → k ≠ 8 → k ≠ 9 → k ≠ 33 → I' m k = I m k) ∧ (∀ j, j ≠ 2 → I' (m + 2) j = I (m + 2) j) ∧ ∀ j, j ≠ n → I' (m + 4) j = I (m + 4) j ∧ I' (m + 5) j = I (m + 5) j ∧ I' (m + 6) j = I (m + 6) j ∧ I' (m + 7) j = I (m + 7) j
def hmZl (m n : Nat) (L L' : xL) : Prop := (∀ x, x ≠ m → x ≠ m + 3 → L' x = L x) ∧ (∀ j, j ≠ n → L' (m + 3) j = L (m + 3) j) ∧ ∀ k, k ≠ 7 → L' m k = L m k
theorem hmZf.tr {m n : Nat} {I J K : xI} (h1 : hmZf m n I J) (h2 : hmZf m n J K) : hmZf m n I K := ⟨fun x p q => (h2.1 x p q).trans (h1.1 x p q), fun k a b c d e f => (h2.2.1 k a b c d e f).trans (h1.2.1 k a b c d e f), fun j p => (h2.2.2.1 j p).trans (h1.2.2.1 j p), fun j p => by
  obtain ⟨a1, a2, a3, a4⟩ := h1.2.2.2 j p
  obtain ⟨b1, b2, b3, b4⟩ := h2.2.2.2 j p
  exact ⟨b1.trans a1, b2.trans a2, b3.trans a3, b4.trans a4⟩⟩
theorem hmZf.mm {m n : Nat} {I J : xI} (h1 : ∀ x, x ≠ m → J x = I x) (h2 : ∀ k, k ≠ 4 → k ≠ 5 → k ≠ 6 → k ≠ 8 → k ≠ 9 → k ≠ 33 → J m k = I m k) : hmZf m n I J := ⟨fun x p _ => h1 x p, h2, fun j _ => by rw [h1 (m + 2) (by omega)], fun j _ => by rw [h1 (m + 4) (by omega), h1 (m + 5) (by omega), h1 (m + 6) (by omega), h1 (m + 7) (by omega)]; exact ⟨rfl, rfl, rfl, rfl⟩⟩
theorem hmZf.nf {m n : Nat} {I J : xI} (h : hmNf m I J) : hmZf m n I J := hmZf.mm h.1 (fun k a b c d _ _ => h.2 k a b c d)
theorem hmZf.fl {m n : Nat} {I : xI} {v : Int32} : hmZf m n I (va_up I m (va_up (I m) 9 v)) := hmZf.mm (fun x p => va_up_ne _ _ p) (fun k _ _ _ _ e _ => by rw [va_up_self, va_up_ne _ _ e])
theorem hmZf.kf {m n : Nat} {I J : xI} (h : hmKf2 m n I J) : hmZf m n I J := ⟨fun x p q => h.1 x p (by omega), fun k a b c d e _ => h.2.1 k a b c d e, fun j _ => by rw [h.1 (m + 2) (by omega) (by omega)], fun j p => by rw [h.1 (m + 4) (by omega) (by omega), h.1 (m + 5) (by omega) (by omega), h.1 (m + 7) (by omega) (by omega)]; exact ⟨rfl, rfl, h.2.2 j p, rfl⟩⟩
theorem hmZf.up {m n : Nat} {I : xI} {y : Nat} (hy : y = m + 4 ∨ y = m + 5 ∨ y = m + 7) {v : Int32} : hmZf m n I (va_up I y (va_up (I y) n v)) := ⟨fun x _ p => va_up_ne _ _ (by omega), fun k _ _ _ _ _ _ => by rw [va_up_ne _ _ (by omega)], fun j _ => by rw [va_up_ne _ _ (by omega)], fun j p => by
  have g : ∀ z, va_up I y (va_up (I y) n v) z j = I z j := fun z => by
    by_cases e : z = y
    · rw [e, va_up_self, va_up_ne _ _ p]
    · rw [va_up_ne _ _ e]
  exact ⟨g _, g _, g _, g _⟩⟩
theorem hmZf.of {m n : Nat} {I : xI} {v : Int32} : hmZf m n I (va_up I (m + 2) (va_up (I (m + 2)) 2 v)) := ⟨fun x _ p => va_up_ne _ _ (by omega), fun k _ _ _ _ _ _ => by rw [va_up_ne _ _ (by omega)], fun j p => by rw [va_up_self, va_up_ne _ _ p], fun j _ => by rw [va_up_ne _ _ (by omega), va_up_ne _ _ (by omega), va_up_ne _ _ (by omega), va_up_ne _ _ (by omega)]; exact ⟨rfl, rfl, rfl, rfl⟩⟩
theorem hmZl.tr {m n : Nat} {L J K : xL} (h1 : hmZl m n L J) (h2 : hmZl m n J K) : hmZl m n L K := ⟨fun x p q => (h2.1 x p q).trans (h1.1 x p q), fun j p => (h2.2.1 j p).trans (h1.2.1 j p), fun k p => (h2.2.2 k p).trans (h1.2.2 k p)⟩
theorem hmZl.nl {m n : Nat} {L J : xL} (h : hmNl m L J) : hmZl m n L J := ⟨fun x p _ => h.1 x p, fun j _ => by rw [h.1 (m + 3) (by omega)], h.2⟩
theorem hmZl.up {m n : Nat} {L : xL} {v : Int64} : hmZl m n L (va_up L (m + 3) (va_up (L (m + 3)) n v)) := ⟨fun x _ p => va_up_ne _ _ p, fun j p => by rw [va_up_self, va_up_ne _ _ p], fun k _ => by rw [va_up_ne _ _ (by omega)]⟩
set_option maxHeartbeats 4000000 in
theorem mc_readsCaller2 {d : Nat} {sh : xSh} {R : xR} {L : xL} {I : xI} {Q : xQ} {m : Nat} {T : List Nat} (hm : xModel sh R m) (hc : ∀ x, x ∈ T → x < 127) {nms : List (List Nat)} (hnl : nms.length < 6) {RR : Nat ⊕ (hmCq × List hmTok)} {nm : List Nat} {t2 : hmTok} {r2 : List hmTok} {I2 : xI} {L2 : xL} (hA2 : hmAm I2 L2 m T t2 r2) (g2 : hmZf m (6 + nms.length) I I2) (l2 : hmZl m (6 + nms.length) L L2) (o2 : I2 (m + 2) 2 = nI nms.length) (e2 : RR = hmC2 nm (t2 :: r2)) (hF : ∀ F I' L', RR = .inl F → 1 ≤ F → F < 20000 → hmZf m (6 + nms.length) I I' → hmZl m (6 + nms.length) L L' → I' m 9 = nI F → Q (some (.int 0)) 0 sh R L' I') (hQ : ∀ c t' r' I' L', RR = .inr (c, t' :: r') → hmZf m (6 + nms.length) I I' → hmZl m (6 + nms.length) L L' → I' (m + 2) 2 = nI (nms.length + 1) → (L' (m + 3) (6 + nms.length) = hmE27 c.1 ∧ I' (m + 4) (6 + nms.length) = nI c.2.1 ∧ I' (m + 5) (6 + nms.length) = nI c.2.2.1 ∧ I' (m + 6) (6 + nms.length) = c.2.2.2.1 ∧ I' (m + 7) (6 + nms.length) = nI c.2.2.2.2) → hmAm I' L' m T t' r' → Q (some (.int 1)) 0 sh R L' I') : Ex (d + 3) 0 0 MX9_readsCaller 0 sh R L2 I2 124 [some (.ref m), some (.int (nI (6 + nms.length))), some (.long (hmE27 nm)), none] [.int (hmOi (hmKk t2)), .int (nI (6 + nms.length)), .ref (m + 4)] Q := by
  obtain ⟨o, ek⟩ : ∃ o, hmKk t2 = o := ⟨_, rfl⟩
  cases o with
  | none =>
    refine Ex_sI 125 (6 + nms.length) (I2 (m + 4)) (va_up I2 (m + 4) (va_up (I2 (m + 4)) (6 + nms.length) (hmOi (hmKk t2)))) dX9_readsCaller_124 (xMs_4 hm) rfl (by omega) (by decide) rfl rfl rfl ?_
    have hA2x : hmAm (va_up I2 (m + 4) (va_up (I2 (m + 4)) (6 + nms.length) (hmOi (hmKk t2)))) L2 m T t2 r2 := hA2.kept (fun k hk => by rw [va_up_ne _ _ (by omega)]) (va_up_ne _ _ (by omega)) rfl
    have g2x := g2.tr (hmZf.up (n := (6 + nms.length)) (Or.inl rfl) (I := I2) (v := hmOi (hmKk t2)))
    refine Ex_aload_n 126 (i := 0) dX9_readsCaller_125 rfl rfl rfl ?_
    refine Ex_getR 129 dX9_readsCaller_126 fX9_20 (xMs_0 hm) rfl (xMr_12 hm) rfl ?_
    refine Ex_iload_n 130 (i := 1) dX9_readsCaller_129 rfl rfl rfl ?_
    refine Ex_aI 131 (6 + nms.length) ((va_up (I2 (m + 4)) (6 + nms.length) (hmOi (hmKk t2))) (6 + nms.length)) dX9_readsCaller_130 (xMs_4 hm) rfl (by omega) (by decide) (congrFun (va_up_self _ _ _) _) rfl ?_
    refine Ex_st (st' := [.int (-1)]) (by rw [va_up_self, ek]; rfl) ?_
    refine Ex_if_ge 134 140 dX9_readsCaller_131 (by decide) rfl (fun c1 => absurd c1 (by decide)) (fun c1 => ?_)
    refine Ex_aload_n 135 (i := 0) dX9_readsCaller_134 rfl rfl rfl ?_
    refine Ex_iconst 136 (v := 1) dX9_readsCaller_135 (by decide) rfl ?_
    refine Ex_callV (M' := MX9_fails) 139 [.int 1] (rest := []) dX9_readsCaller_136 lX9_193 mX9_fails rfl (xMs_0 hm) rfl (Nat.le_of_ble_eq_true rfl) (Nat.le_of_ble_eq_true rfl) rfl ?_
    refine mc_fails (k := 1) hm hA2x ?_
    simp only [Option.toList, List.nil_append, List.cons_append]
    refine Ex_iret dX9_readsCaller_139 rfl (by decide) (Or.inl rfl) ?_
    have hfl := hmFl_lt (k := 1) (t := t2) (by omega) (by omega) hA2.pl
    exact hF (hmFl 1 t2) _ L2 (by rw [e2]; exact hmC2_no ek) hfl.1 hfl.2 (g2x.tr hmZf.fl) (l2) (by rw [va_up_self, va_up_self])
  | some k =>
    have hk4 : k < 4 ∧ ¬ t2.1 = 0 := by
      unfold hmKk at ek
      by_cases z : t2.1 = 2
      · rw [if_pos z] at ek
        unfold hmKl at ek
        refine ⟨?_, by omega⟩
        repeat' split at ek
        all_goals first | (cases ek; omega) | exact absurd ek (by simp)
      · rw [if_neg z] at ek
        exact absurd ek (by simp)
    have ht2 := hk4.2
    refine Ex_sI 125 (6 + nms.length) (I2 (m + 4)) (va_up I2 (m + 4) (va_up (I2 (m + 4)) (6 + nms.length) (hmOi (hmKk t2)))) dX9_readsCaller_124 (xMs_4 hm) rfl (by omega) (by decide) rfl rfl rfl ?_
    have hA2x : hmAm (va_up I2 (m + 4) (va_up (I2 (m + 4)) (6 + nms.length) (hmOi (hmKk t2)))) L2 m T t2 r2 := hA2.kept (fun k hk => by rw [va_up_ne _ _ (by omega)]) (va_up_ne _ _ (by omega)) rfl
    have g2x := g2.tr (hmZf.up (n := (6 + nms.length)) (Or.inl rfl) (I := I2) (v := hmOi (hmKk t2)))
    refine Ex_aload_n 126 (i := 0) dX9_readsCaller_125 rfl rfl rfl ?_
    refine Ex_getR 129 dX9_readsCaller_126 fX9_20 (xMs_0 hm) rfl (xMr_12 hm) rfl ?_
    refine Ex_iload_n 130 (i := 1) dX9_readsCaller_129 rfl rfl rfl ?_
    refine Ex_aI 131 (6 + nms.length) ((va_up (I2 (m + 4)) (6 + nms.length) (hmOi (hmKk t2))) (6 + nms.length)) dX9_readsCaller_130 (xMs_4 hm) rfl (by omega) (by decide) (congrFun (va_up_self _ _ _) _) rfl ?_
    refine Ex_st (st' := [.int (nI k)]) (by rw [va_up_self, ek]; rfl) ?_
    refine Ex_if_ge 134 140 dX9_readsCaller_131 (by decide) rfl (fun c1 => ?_) (fun c1 => absurd c1 (fun q => q (hm_nI0 (by omega))))
    refine Ex_aload_n 141 (i := 0) dX9_readsCaller_140 rfl rfl rfl ?_
    refine Ex_callV (M' := MX9_nextToken) 144 [] (rest := []) dX9_readsCaller_141 lX9_200 mX9_nextToken rfl (xMs_0 hm) rfl (Nat.le_of_ble_eq_true rfl) (Nat.le_of_ble_eq_true rfl) rfl ?_
    refine mc_nxt hm hA2x hc ht2 (fun t3 r3 I3 L3 er3 gs3 gt3 hA3 => ?_)
    simp only [Option.toList, List.nil_append, List.cons_append]
    have g3 := g2x.tr (hmZf.nf (n := (6 + nms.length)) gs3)
    have l3 := l2.tr (hmZl.nl (n := (6 + nms.length)) gt3)
    have v3 : I3 (m + 4) (6 + nms.length) = nI k := by rw [gs3.1 (m + 4) (by omega), va_up_self, va_up_self, ek]; rfl
    have e3 : RR = hmC3 nm k (t3 :: r3) := by rw [e2, ← er3]; exact hmC2_yes ek
    have o3 : I3 (m + 2) 2 = nI nms.length := by rw [gs3.1 (m + 2) (by omega), va_up_ne _ _ (by omega)]; exact o2
    refine Ex_aload_n 145 (i := 0) dX9_readsCaller_144 rfl rfl rfl ?_
    refine Ex_ldc2 148 (v := 8015076851) dX9_readsCaller_145 kX9_218 rfl ?_
    refine Ex_callV (M' := MX9_needsWord) 151 [.long 8015076851] (rest := []) dX9_readsCaller_148 lX9_258 mX9_needsWord rfl (xMs_0 hm) rfl (Nat.le_of_ble_eq_true rfl) (Nat.le_of_ble_eq_true rfl) rfl ?_
    refine mc_needsWord (l := wTrouble) hm hA3 hc (by decide +kernel) (by unfold hmWd; decide) (fun hb => ?_) (fun hb t4 r4 I4 L4 er4 gs4 gt4 hA4 => ?_)
    · simp only [Option.toList, List.nil_append, List.cons_append]
      refine Ex_if_eq 154 164 dX9_readsCaller_151 (by decide) rfl (fun c2 => ?_) (fun c2 => absurd c2 (fun q => q (by decide)))
      refine Ex_iconst 165 (v := 0) dX9_readsCaller_164 (by decide) rfl ?_
      refine Ex_iret dX9_readsCaller_165 rfl (by decide) (Or.inl rfl) ?_
      have hfl := hmFl_lt (k := 1) (t := t3) (by omega) (by omega) hA3.pl
      exact hF (hmFl 1 t3) _ L3 (by rw [e3]; unfold hmC3; rw [hmXw_no hb]; rfl) hfl.1 hfl.2 (g3.tr hmZf.fl) (l3) (by rw [va_up_self, va_up_self])
    · simp only [Option.toList, List.nil_append, List.cons_append]
      have g4 := g3.tr (hmZf.nf (n := (6 + nms.length)) gs4)
      have l4 := l3.tr (hmZl.nl (n := (6 + nms.length)) gt4)
      have v4 : I4 (m + 4) (6 + nms.length) = nI k := by rw [gs4.1 (m + 4) (by omega)]; exact v3
      have o4 : I4 (m + 2) 2 = nI nms.length := by rw [gs4.1 (m + 2) (by omega)]; exact o3
      have e4 : RR = hmC4 nm k (t4 :: r4) := by rw [e3, ← er4]; unfold hmC3; rw [hmXw_yes hb]; rfl
      refine Ex_if_eq 154 164 dX9_readsCaller_151 (by decide) rfl (fun c3 => absurd c3 (by decide)) (fun c3 => ?_)
      refine Ex_aload_n 155 (i := 0) dX9_readsCaller_154 rfl rfl rfl ?_
      refine Ex_iconst 156 (v := 0) dX9_readsCaller_155 (by decide) rfl ?_
      refine Ex_bipush 158 (v := 9) dX9_readsCaller_156 (by decide) rfl ?_
      refine Ex_callV (M' := MX9_needsNumber) 161 [.int 0, .int 9] (rest := []) dX9_readsCaller_158 lX9_261 mX9_needsNumber rfl (xMs_0 hm) rfl (Nat.le_of_ble_eq_true rfl) (Nat.le_of_ble_eq_true rfl) rfl ?_
      refine mc_needsNumber (lo := 0) (hi := 9) hm hA4 hc (by decide) (by decide) (fun hb => ?_) (fun hb hb4 => ?_) (fun hb hb1 hb2 t5 r5 I5 L5 er5 gs5 gv5 gt5 hA5 => ?_)
      · simp only [Option.toList, List.nil_append, List.cons_append]
        refine Ex_if_ne 164 166 dX9_readsCaller_161 (by decide) rfl (fun c4 => absurd c4 (fun q => q (by decide))) (fun c4 => ?_)
        refine Ex_iconst 165 (v := 0) dX9_readsCaller_164 (by decide) rfl ?_
        refine Ex_iret dX9_readsCaller_165 rfl (by decide) (Or.inl rfl) ?_
        have hfl := hmFl_lt (k := 1) (t := t4) (by omega) (by omega) hA4.pl
        exact hF (hmFl 1 t4) _ L4 (by rw [e4]; unfold hmC4; rw [hmXn_no hb]; rfl) hfl.1 hfl.2 (g4.tr hmZf.fl) (l4) (by rw [va_up_self, va_up_self])
      · simp only [Option.toList, List.nil_append, List.cons_append]
        refine Ex_if_ne 164 166 dX9_readsCaller_161 (by decide) rfl (fun c5 => absurd c5 (fun q => q (by decide))) (fun c5 => ?_)
        refine Ex_iconst 165 (v := 0) dX9_readsCaller_164 (by decide) rfl ?_
        refine Ex_iret dX9_readsCaller_165 rfl (by decide) (Or.inl rfl) ?_
        have hfl := hmFl_lt (k := 4) (t := t4) (by omega) (by omega) hA4.pl
        exact hF (hmFl 4 t4) _ L4 (by rw [e4]; unfold hmC4; rw [hmXn_out hb hb4]; rfl) hfl.1 hfl.2 (g4.tr hmZf.fl) (l4) (by rw [va_up_self, va_up_self])
      · simp only [Option.toList, List.nil_append, List.cons_append]
        have g5 := g4.tr (hmZf.mm (n := (6 + nms.length)) gs5.1 (fun k a b c d _ f => gs5.2 k a b c d f))
        have l5 := l4.tr (hmZl.nl (n := (6 + nms.length)) gt5)
        have v5 : I5 (m + 4) (6 + nms.length) = nI k := by rw [gs5.1 (m + 4) (by omega)]; exact v4
        have o5 : I5 (m + 2) 2 = nI nms.length := by rw [gs5.1 (m + 2) (by omega)]; exact o4
        have e5 : RR = hmC5 nm k (hmDec t4.2.1) (t5 :: r5) := by rw [e4, ← er5]; unfold hmC4; rw [hmXn_yes hb hb1 hb2]; rfl
        refine Ex_if_ne 164 166 dX9_readsCaller_161 (by decide) rfl (fun c6 => ?_) (fun c6 => absurd c6 (by decide))
        refine Ex_aload_n 167 (i := 0) dX9_readsCaller_166 rfl rfl rfl ?_
        refine Ex_getR 170 dX9_readsCaller_167 fX9_23 (xMs_0 hm) rfl (xMr_13 hm) rfl ?_
        refine Ex_iload_n 171 (i := 1) dX9_readsCaller_170 rfl rfl rfl ?_
        refine Ex_aload_n 172 (i := 0) dX9_readsCaller_171 rfl rfl rfl ?_
        refine Ex_gI 175 (I5 m 33) dX9_readsCaller_172 fX9_248 (xMs_0 hm) rfl rfl rfl ?_
        rw [gv5]
        refine Ex_sI 176 (6 + nms.length) (I5 (m + 5)) (va_up I5 (m + 5) (va_up (I5 (m + 5)) (6 + nms.length) (nI (hmDec t4.2.1)))) dX9_readsCaller_175 (xMs_5 hm) rfl (by omega) (by decide) rfl rfl rfl ?_
        have hA5x : hmAm (va_up I5 (m + 5) (va_up (I5 (m + 5)) (6 + nms.length) (nI (hmDec t4.2.1)))) L5 m T t5 r5 := hA5.kept (fun k hk => by rw [va_up_ne _ _ (by omega)]) (va_up_ne _ _ (by omega)) rfl
        have g5x := g5.tr (hmZf.up (n := (6 + nms.length)) (Or.inr (Or.inl rfl)) (I := I5) (v := nI (hmDec t4.2.1)))
        refine Ex_aload_n 177 (i := 0) dX9_readsCaller_176 rfl rfl rfl ?_
        refine Ex_ldc2 180 (v := 6132988) dX9_readsCaller_177 kX9_220 rfl ?_
        refine Ex_callV (M' := MX9_needsWord) 183 [.long 6132988] (rest := []) dX9_readsCaller_180 lX9_258 mX9_needsWord rfl (xMs_0 hm) rfl (Nat.le_of_ble_eq_true rfl) (Nat.le_of_ble_eq_true rfl) rfl ?_
        refine mc_needsWord (l := wKnows) hm hA5x hc (by decide +kernel) (by unfold hmWd; decide) (fun hb => ?_) (fun hb t6 r6 I6 L6 er6 gs6 gt6 hA6 => ?_)
        · simp only [Option.toList, List.nil_append, List.cons_append]
          refine Ex_if_eq 186 194 dX9_readsCaller_183 (by decide) rfl (fun c7 => ?_) (fun c7 => absurd c7 (fun q => q (by decide)))
          refine Ex_iconst 195 (v := 0) dX9_readsCaller_194 (by decide) rfl ?_
          refine Ex_iret dX9_readsCaller_195 rfl (by decide) (Or.inl rfl) ?_
          have hfl := hmFl_lt (k := 1) (t := t5) (by omega) (by omega) hA5x.pl
          exact hF (hmFl 1 t5) _ L5 (by rw [e5]; unfold hmC5; rw [hmXw_no hb]; rfl) hfl.1 hfl.2 (g5x.tr hmZf.fl) (l5) (by rw [va_up_self, va_up_self])
        · simp only [Option.toList, List.nil_append, List.cons_append]
          have g6 := g5x.tr (hmZf.nf (n := (6 + nms.length)) gs6)
          have l6 := l5.tr (hmZl.nl (n := (6 + nms.length)) gt6)
          have v6 : I6 (m + 4) (6 + nms.length) = nI k := by rw [gs6.1 (m + 4) (by omega), va_up_ne _ _ (by omega)]; exact v5
          have o6 : I6 (m + 2) 2 = nI nms.length := by rw [gs6.1 (m + 2) (by omega), va_up_ne _ _ (by omega)]; exact o5
          have u6 : I6 (m + 5) (6 + nms.length) = nI (hmDec t4.2.1) := by rw [gs6.1 (m + 5) (by omega), va_up_self, va_up_self]
          have e6 : RR = hmC6 nm k (hmDec t4.2.1) (t6 :: r6) := by rw [e5, ← er6]; unfold hmC5; rw [hmXw_yes hb]; rfl
          refine Ex_if_eq 186 194 dX9_readsCaller_183 (by decide) rfl (fun c8 => absurd c8 (by decide)) (fun c8 => ?_)
          refine Ex_aload_n 187 (i := 0) dX9_readsCaller_186 rfl rfl rfl ?_
          refine Ex_iload_n 188 (i := 1) dX9_readsCaller_187 rfl rfl rfl ?_
          refine Ex_callV (M' := MX9_readsKnows) 191 [.int (nI (6 + nms.length))] (rest := []) dX9_readsCaller_188 lX9_265 mX9_readsKnows rfl (xMs_0 hm) rfl (Nat.le_of_ble_eq_true rfl) (Nat.le_of_ble_eq_true rfl) rfl ?_
          refine mc_readsKnows (n := (6 + nms.length)) hm hc (by omega) hA6 (fun F7 I7 L7 ef7 fa7 fb7 ga7 gt7 k7 => ?_) (fun kn t7 r7 I7 L7 ef7 ga7 kv7 gt7 hA7 => ?_)
          · simp only [Option.toList, List.nil_append, List.cons_append]
            refine Ex_if_ne 194 196 dX9_readsCaller_191 (by decide) rfl (fun c9 => absurd c9 (fun q => q (by decide))) (fun c9 => ?_)
            refine Ex_iconst 195 (v := 0) dX9_readsCaller_194 (by decide) rfl ?_
            refine Ex_iret dX9_readsCaller_195 rfl (by decide) (Or.inl rfl) ?_
            exact hF F7 I7 L7 (by rw [e6]; unfold hmC6; rw [ef7]; rfl) fa7 fb7 (g6.tr (hmZf.kf ga7)) (l6.tr (hmZl.nl gt7)) k7
          · simp only [Option.toList, List.nil_append, List.cons_append]
            have g7 := g6.tr (hmZf.kf ga7)
            have l7 := l6.tr (hmZl.nl (n := (6 + nms.length)) gt7)
            have v7 : I7 (m + 4) (6 + nms.length) = nI k := by rw [ga7.1 (m + 4) (by omega) (by omega)]; exact v6
            have u7 : I7 (m + 5) (6 + nms.length) = nI (hmDec t4.2.1) := by rw [ga7.1 (m + 5) (by omega) (by omega)]; exact u6
            have o7 : I7 (m + 2) 2 = nI nms.length := by rw [ga7.1 (m + 2) (by omega) (by omega)]; exact o6
            have q7 := kv7
            have e7 : RR = hmC7 nm k (hmDec t4.2.1) kn (t7 :: r7) := by rw [e6]; unfold hmC6; rw [ef7]; rfl
            refine Ex_if_ne 194 196 dX9_readsCaller_191 (by decide) rfl (fun c10 => ?_) (fun c10 => absurd c10 (by decide))
            refine Ex_aload_n 197 (i := 0) dX9_readsCaller_196 rfl rfl rfl ?_
            refine Ex_ldc2 200 (v := 4555648) dX9_readsCaller_197 kX9_222 rfl ?_
            refine Ex_callV (M' := MX9_needsWord) 203 [.long 4555648] (rest := []) dX9_readsCaller_200 lX9_258 mX9_needsWord rfl (xMs_0 hm) rfl (Nat.le_of_ble_eq_true rfl) (Nat.le_of_ble_eq_true rfl) rfl ?_
            refine mc_needsWord (l := wHolds) hm hA7 hc (by decide +kernel) (by unfold hmWd; decide) (fun hb => ?_) (fun hb t8 r8 I8 L8 er8 gs8 gt8 hA8 => ?_)
            · simp only [Option.toList, List.nil_append, List.cons_append]
              refine Ex_if_eq 206 216 dX9_readsCaller_203 (by decide) rfl (fun c11 => ?_) (fun c11 => absurd c11 (fun q => q (by decide)))
              refine Ex_iconst 217 (v := 0) dX9_readsCaller_216 (by decide) rfl ?_
              refine Ex_iret dX9_readsCaller_217 rfl (by decide) (Or.inl rfl) ?_
              have hfl := hmFl_lt (k := 1) (t := t7) (by omega) (by omega) hA7.pl
              exact hF (hmFl 1 t7) _ L7 (by rw [e7]; unfold hmC7; rw [hmXw_no hb]; rfl) hfl.1 hfl.2 (g7.tr hmZf.fl) (l7) (by rw [va_up_self, va_up_self])
            · simp only [Option.toList, List.nil_append, List.cons_append]
              have g8 := g7.tr (hmZf.nf (n := (6 + nms.length)) gs8)
              have l8 := l7.tr (hmZl.nl (n := (6 + nms.length)) gt8)
              have v8 : I8 (m + 4) (6 + nms.length) = nI k := by rw [gs8.1 (m + 4) (by omega)]; exact v7
              have u8 : I8 (m + 5) (6 + nms.length) = nI (hmDec t4.2.1) := by rw [gs8.1 (m + 5) (by omega)]; exact u7
              have q8 : I8 (m + 6) (6 + nms.length) = kn := by rw [gs8.1 (m + 6) (by omega)]; exact q7
              have o8 : I8 (m + 2) 2 = nI nms.length := by rw [gs8.1 (m + 2) (by omega)]; exact o7
              have e8 : RR = hmC8 nm k (hmDec t4.2.1) kn (t8 :: r8) := by rw [e7, ← er8]; unfold hmC7; rw [hmXw_yes hb]; rfl
              refine Ex_if_eq 206 216 dX9_readsCaller_203 (by decide) rfl (fun c12 => absurd c12 (by decide)) (fun c12 => ?_)
              refine Ex_aload_n 207 (i := 0) dX9_readsCaller_206 rfl rfl rfl ?_
              refine Ex_iconst 208 (v := 1) dX9_readsCaller_207 (by decide) rfl ?_
              refine Ex_bipush 210 (v := 30) dX9_readsCaller_208 (by decide) rfl ?_
              refine Ex_callV (M' := MX9_needsNumber) 213 [.int 1, .int 30] (rest := []) dX9_readsCaller_210 lX9_261 mX9_needsNumber rfl (xMs_0 hm) rfl (Nat.le_of_ble_eq_true rfl) (Nat.le_of_ble_eq_true rfl) rfl ?_
              refine mc_needsNumber (lo := 1) (hi := 30) hm hA8 hc (by decide) (by decide) (fun hb => ?_) (fun hb hb4 => ?_) (fun hb hb1 hb2 t9 r9 I9 L9 er9 gs9 gv9 gt9 hA9 => ?_)
              · simp only [Option.toList, List.nil_append, List.cons_append]
                refine Ex_if_ne 216 218 dX9_readsCaller_213 (by decide) rfl (fun c13 => absurd c13 (fun q => q (by decide))) (fun c13 => ?_)
                refine Ex_iconst 217 (v := 0) dX9_readsCaller_216 (by decide) rfl ?_
                refine Ex_iret dX9_readsCaller_217 rfl (by decide) (Or.inl rfl) ?_
                have hfl := hmFl_lt (k := 1) (t := t8) (by omega) (by omega) hA8.pl
                exact hF (hmFl 1 t8) _ L8 (by rw [e8]; unfold hmC8; rw [hmXn_no hb]; rfl) hfl.1 hfl.2 (g8.tr hmZf.fl) (l8) (by rw [va_up_self, va_up_self])
              · simp only [Option.toList, List.nil_append, List.cons_append]
                refine Ex_if_ne 216 218 dX9_readsCaller_213 (by decide) rfl (fun c14 => absurd c14 (fun q => q (by decide))) (fun c14 => ?_)
                refine Ex_iconst 217 (v := 0) dX9_readsCaller_216 (by decide) rfl ?_
                refine Ex_iret dX9_readsCaller_217 rfl (by decide) (Or.inl rfl) ?_
                have hfl := hmFl_lt (k := 4) (t := t8) (by omega) (by omega) hA8.pl
                exact hF (hmFl 4 t8) _ L8 (by rw [e8]; unfold hmC8; rw [hmXn_out hb hb4]; rfl) hfl.1 hfl.2 (g8.tr hmZf.fl) (l8) (by rw [va_up_self, va_up_self])
              · simp only [Option.toList, List.nil_append, List.cons_append]
                have g9 := g8.tr (hmZf.mm (n := (6 + nms.length)) gs9.1 (fun k a b c d _ f => gs9.2 k a b c d f))
                have l9 := l8.tr (hmZl.nl (n := (6 + nms.length)) gt9)
                have v9 : I9 (m + 4) (6 + nms.length) = nI k := by rw [gs9.1 (m + 4) (by omega)]; exact v8
                have u9 : I9 (m + 5) (6 + nms.length) = nI (hmDec t4.2.1) := by rw [gs9.1 (m + 5) (by omega)]; exact u8
                have q9 : I9 (m + 6) (6 + nms.length) = kn := by rw [gs9.1 (m + 6) (by omega)]; exact q8
                have o9 : I9 (m + 2) 2 = nI nms.length := by rw [gs9.1 (m + 2) (by omega)]; exact o8
                have e9 : RR = hmC9 (nm, k, hmDec t4.2.1, kn, hmDec t8.2.1) (t9 :: r9) := by rw [e8, ← er9]; unfold hmC8; rw [hmXn_yes hb hb1 hb2]; rfl
                refine Ex_if_ne 216 218 dX9_readsCaller_213 (by decide) rfl (fun c15 => ?_) (fun c15 => absurd c15 (by decide))
                refine Ex_aload_n 219 (i := 0) dX9_readsCaller_218 rfl rfl rfl ?_
                refine Ex_getR 222 dX9_readsCaller_219 fX9_29 (xMs_0 hm) rfl (xMr_15 hm) rfl ?_
                refine Ex_iload_n 223 (i := 1) dX9_readsCaller_222 rfl rfl rfl ?_
                refine Ex_aload_n 224 (i := 0) dX9_readsCaller_223 rfl rfl rfl ?_
                refine Ex_gI 227 (I9 m 33) dX9_readsCaller_224 fX9_248 (xMs_0 hm) rfl rfl rfl ?_
                rw [gv9]
                refine Ex_sI 228 (6 + nms.length) (I9 (m + 7)) (va_up I9 (m + 7) (va_up (I9 (m + 7)) (6 + nms.length) (nI (hmDec t8.2.1)))) dX9_readsCaller_227 (xMs_7 hm) rfl (by omega) (by decide) rfl rfl rfl ?_
                refine Ex_aload_n 229 (i := 0) dX9_readsCaller_228 rfl rfl rfl ?_
                refine Ex_getR 232 dX9_readsCaller_229 fX9_16 (xMs_0 hm) rfl (xMr_11 hm) rfl ?_
                refine Ex_iload_n 233 (i := 1) dX9_readsCaller_232 rfl rfl rfl ?_
                refine Ex_lload_n 234 (i := 2) dX9_readsCaller_233 rfl rfl rfl ?_
                refine Ex_sL 235 (6 + nms.length) (L9 (m + 3)) (va_up L9 (m + 3) (va_up (L9 (m + 3)) (6 + nms.length) (hmE27 nm))) dX9_readsCaller_234 (xMs_3 hm) rfl (by omega) (by decide) rfl rfl rfl ?_
                refine Ex_aload_n 236 (i := 0) dX9_readsCaller_235 rfl rfl rfl ?_
                refine Ex_getR 239 dX9_readsCaller_236 fX9_13 (xMs_0 hm) rfl (xMr_10 hm) rfl ?_
                refine Ex_iconst 240 (v := 2) dX9_readsCaller_239 (by decide) rfl ?_
                refine Ex_dup2 241 dX9_readsCaller_240 rfl rfl rfl ?_
                refine Ex_aI 242 2 (I9 (m + 2) 2) dX9_readsCaller_241 (xMs_2 hm) rfl (by decide) (by decide) (congrFun (va_up_ne _ _ (by omega)) _) rfl ?_
                rw [o9]
                refine Ex_iconst 243 (v := 1) dX9_readsCaller_242 (by decide) rfl ?_
                refine Ex_iadd 244 dX9_readsCaller_243 rfl ?_
                rw [nI_1]
                refine Ex_sI 245 2 (I9 (m + 2)) (va_up (va_up I9 (m + 7) (va_up (I9 (m + 7)) (6 + nms.length) (nI (hmDec t8.2.1)))) (m + 2) (va_up (I9 (m + 2)) 2 (nI (nms.length + 1)))) dX9_readsCaller_244 (xMs_2 hm) rfl (by decide) (by decide) (va_up_ne _ _ (by omega)) rfl rfl ?_
                have hA9x : hmAm (va_up (va_up I9 (m + 7) (va_up (I9 (m + 7)) (6 + nms.length) (nI (hmDec t8.2.1)))) (m + 2) (va_up (I9 (m + 2)) 2 (nI (nms.length + 1)))) (va_up L9 (m + 3) (va_up (L9 (m + 3)) (6 + nms.length) (hmE27 nm))) m T t9 r9 := hA9.kept (fun k hk => by rw [va_up_ne _ _ (by omega), va_up_ne _ _ (by omega)]) (by rw [va_up_ne _ _ (by omega), va_up_ne _ _ (by omega)]) (by rw [va_up_ne _ _ (by omega)])
                have g9x : hmZf m (6 + nms.length) I (va_up (va_up I9 (m + 7) (va_up (I9 (m + 7)) (6 + nms.length) (nI (hmDec t8.2.1)))) (m + 2) (va_up (I9 (m + 2)) 2 (nI (nms.length + 1)))) := by
                  have h1 := g9.tr (hmZf.up (n := (6 + nms.length)) (Or.inr (Or.inr rfl)) (I := I9) (v := nI (hmDec t8.2.1)))
                  have h2 := h1.tr (hmZf.of (n := (6 + nms.length)) (v := nI (nms.length + 1)))
                  rw [va_up_ne _ _ (show m + 2 ≠ m + 7 by omega)] at h2
                  exact h2
                have l9x := l9.tr (hmZl.up (n := (6 + nms.length)) (L := L9) (v := hmE27 nm))
                refine Ex_aload_n 246 (i := 0) dX9_readsCaller_245 rfl rfl rfl ?_
                refine Ex_callV (M' := MX9_closes) 249 [] (rest := []) dX9_readsCaller_246 lX9_268 mX9_closes rfl (xMs_0 hm) rfl (Nat.le_of_ble_eq_true rfl) (Nat.le_of_ble_eq_true rfl) rfl ?_
                refine mc_closes hm hA9x hc (fun hb => ?_) (fun hb t10 r10 I10 L10 er10 gs10 gt10 hA10 => ?_)
                · simp only [Option.toList, List.nil_append, List.cons_append]
                  refine Ex_iret dX9_readsCaller_249 rfl (by decide) (Or.inl rfl) ?_
                  have hfl := hmFl_lt (k := 1) (t := t9) (by omega) (by omega) hA9.pl
                  exact hF (hmFl 1 t9) _ _ (by rw [e9]; unfold hmC9; rw [hmXs_no hb]; rfl) hfl.1 hfl.2 (g9x.tr hmZf.fl) (l9x) (by rw [va_up_self, va_up_self])
                · simp only [Option.toList, List.nil_append, List.cons_append]
                  refine Ex_iret dX9_readsCaller_249 rfl (by decide) (Or.inl rfl) ?_
                  exact hQ (nm, k, hmDec t4.2.1, kn, hmDec t8.2.1) t10 r10 I10 L10 (by rw [e9, ← er10]; unfold hmC9; rw [hmXs_yes hb]; rfl) (g9x.tr (hmZf.nf gs10)) (l9x.tr (hmZl.nl gt10)) (by rw [gs10.1 (m + 2) (by omega), va_up_self, va_up_self]) ⟨by rw [gt10.1 (m + 3) (by omega), va_up_self, va_up_self], by rw [gs10.1 (m + 4) (by omega), va_up_ne _ _ (by omega), va_up_ne _ _ (by omega)]; exact v9, by rw [gs10.1 (m + 5) (by omega), va_up_ne _ _ (by omega), va_up_ne _ _ (by omega)]; exact u9, by rw [gs10.1 (m + 6) (by omega), va_up_ne _ _ (by omega), va_up_ne _ _ (by omega)]; exact q9, by rw [gs10.1 (m + 7) (by omega), va_up_ne _ _ (by omega), va_up_self, va_up_self]⟩ hA10
