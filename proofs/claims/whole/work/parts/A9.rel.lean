/-! the state of the whole, on both sides -/
def zC (sh : xSh) (R : xR) (L : xL) (I : xI) (h dk dd pl pd e : Nat) (Z : hmZ) : Prop := xHM sh R h dk dd pl pd ∧ hmD I dk (zO Z) ∧ hmR I (h + 30) (zH Z) ∧ hmPl I pl (zD Z) ∧ hmPast I h e (zP Z) ∧ (∀ i, i < 4 → hmMark I (h + 129 + 10 * i) (zM Z i)) ∧ I h 11 = hmTb (zW Z) ∧ I h 12 = hmTs (zW Z) ∧ hmTp I (h + 2) (zT Z) ∧ hmCache I h (hmFind (hmFo (zO Z) (zH Z)) (hmFree (hmN (zO Z)) (zH Z))) ∧ ∀ w, w < hmN (zO Z) → L (dk + 1) w = hmE256 (zN Z w)
def zR (sh : xSh) (R : xR) (L : xL) (I : xI) (m : Nat) (Z : hmZ) : Prop := xModel sh R m ∧ hmMo I m (zO Z) ∧ hmMr (I (m + 28)) (zH Z) ∧ hmMd I m 0 (zD Z) ∧ hmMP I m (zP Z) ∧ hmMK I m (zM Z) ∧ hmTa (I (m + 27)) 0 (zW Z) ∧ hmTm I m (zT Z) ∧ I m 46 = nI (hmTk (zO Z)) ∧ ∀ w, w < hmN (zO Z) → L (m + 3) w = hmE27 (zN Z w)
/-- a hall that may come about -/
def zHk (O : hmO) (b : Nat) (H : hmH) : Prop := hmOk O H ∧ hmMin H ≤ b ∧ hmTkb H ∧ hmSb (hmN O) H
def zOk (Z : hmZ) (b : Nat) : Prop := hmOok (zO Z) ∧ zHk (zO Z) b (zH Z) ∧ hmDok (zO Z) (zD Z) ∧ (∀ G, G ∈ zP Z → zHk (zO Z) b G) ∧ (∀ i H D t, zM Z i = some (H, D, t) → zHk (zO Z) b H ∧ hmDok (zO Z) D ∧ ∀ w, hmN (zO Z) ≤ w → t w = none) ∧ (∀ w, hmN (zO Z) ≤ w → zW Z w = none) ∧ (∀ x, x ∈ zT Z → x < 127) ∧ (∀ w, w < hmN (zO Z) → hmWd (zN Z w)) ∧ b ≤ 600
section ZZ
variable {sh : xSh} {R R' : xR} {L L' : xL} {I I' : xI} {h dk dd pl pd e m b : Nat} {Z : hmZ}
theorem zHk.up {O : hmO} {b : Nat} {H : hmH} (h : zHk O b H) : zHk O (b + 1) H := ⟨h.1, by have := h.2.1; omega, h.2.2⟩
theorem zOk.up (h : zOk Z b) (hb : b + 1 ≤ 600) : zOk Z (b + 1) := by
  obtain ⟨h1, h2, h3, h4, h5, h6, h7, h8, h9⟩ := h
  exact ⟨h1, h2.up, h3, fun G hG => (h4 G hG).up, fun i H D t hM => ⟨(h5 i H D t hM).1.up, (h5 i H D t hM).2⟩, h6, h7, h8, hb⟩
theorem zOk.gk (h : zOk Z b) : hmOk (zO Z) (zH Z) := h.2.1.1
theorem zOk.gmn (h : zOk Z b) : hmMin (zH Z) < 800000 := by
  have h1 := h.2.1.2.1
  have h2 := h.2.2.2.2.2.2.2.2
  omega
theorem zOk.gtb (h : zOk Z b) : hmTkb (zH Z) := h.2.1.2.2.1
theorem zOk.gsb (h : zOk Z b) : hmSb (hmN (zO Z)) (zH Z) := h.2.1.2.2.2
theorem zOk.gtn (h : zOk Z b) : ∀ w, hmN (zO Z) ≤ w → zW Z w = none := h.2.2.2.2.2.1
theorem zC.gX (h1 : zC sh R L I h dk dd pl pd e Z) : xHM sh R h dk dd pl pd := h1.1
theorem zC.gO (h1 : zC sh R L I h dk dd pl pd e Z) : hmD I dk (zO Z) := h1.2.1
theorem zC.gH (h1 : zC sh R L I h dk dd pl pd e Z) : hmR I (h + 30) (zH Z) := h1.2.2.1
theorem zC.gD (h1 : zC sh R L I h dk dd pl pd e Z) : hmPl I pl (zD Z) := h1.2.2.2.1
theorem zC.gP (h1 : zC sh R L I h dk dd pl pd e Z) : hmPast I h e (zP Z) := h1.2.2.2.2.1
theorem zC.gM (h1 : zC sh R L I h dk dd pl pd e Z) : ∀ i, i < 4 → hmMark I (h + 129 + 10 * i) (zM Z i) := h1.2.2.2.2.2.1
theorem zC.gT1 (h1 : zC sh R L I h dk dd pl pd e Z) : I h 11 = hmTb (zW Z) := h1.2.2.2.2.2.2.1
theorem zC.gT2 (h1 : zC sh R L I h dk dd pl pd e Z) : I h 12 = hmTs (zW Z) := h1.2.2.2.2.2.2.2.1
theorem zC.gT (h1 : zC sh R L I h dk dd pl pd e Z) : hmTp I (h + 2) (zT Z) := h1.2.2.2.2.2.2.2.2.1
theorem zC.gC (h1 : zC sh R L I h dk dd pl pd e Z) : hmCache I h (hmFind (hmFo (zO Z) (zH Z)) (hmFree (hmN (zO Z)) (zH Z))) := h1.2.2.2.2.2.2.2.2.2.1
theorem zC.gN (h1 : zC sh R L I h dk dd pl pd e Z) : ∀ w, w < hmN (zO Z) → L (dk + 1) w = hmE256 (zN Z w) := h1.2.2.2.2.2.2.2.2.2.2
theorem zC.gK (h1 : zC sh R L I h dk dd pl pd e Z) : ((dk = h + 4 ∧ dd = h + 13) ∨ (dk = h + 13 ∧ dd = h + 4)) ∧ ((pl = h + 22 ∧ pd = h + 26) ∨ (pl = h + 26 ∧ pd = h + 22)) := ⟨xH_27 h1.1, xH_28 h1.1⟩
theorem hmMark.kept {a : Nat} {k : Option (hmH × hmDay × hmTo)} (h : hmMark I a k) (hf : ∀ x, a ≤ x → x < a + 10 → I' x = I x) : hmMark I' a k := by
  cases k with
  | none =>
    simp only [hmMark] at h ⊢
    rw [hf a (by omega) (by omega)]
    exact h
  | some q =>
    obtain ⟨H, D, t⟩ := q
    simp only [hmMark] at h ⊢
    rw [hf a (by omega) (by omega)]
    exact ⟨h.1, h.2.1.kept (fun x h1 h2 => hf x (by omega) (by omega)), h.2.2.1.kept (fun x h1 h2 => hf x (by omega) (by omega)), h.2.2.2⟩
theorem hmTp.kept {a : Nat} {T : List Nat} (h : hmTp I a T) (h1 : I' a 1 = I a 1) (h2 : I' (a + 1) = I (a + 1)) : hmTp I' a T := by
  unfold hmTp at h ⊢
  rw [h1, h2]
  exact h
theorem hmCache.kept {f : Nat × Int32 × List Nat} (hc : hmCache I h f) (h1 : I' (h + 42) = I (h + 42)) (h2 : I' (h + 44) = I (h + 44)) : hmCache I' h f := by
  unfold hmCache at hc ⊢
  rw [h1, h2]
  exact hc
/-- all stays but for cells that aren't read before they are written -/
theorem zC.kept (h1 : zC sh R L I h dk dd pl pd e Z) (hf : ∀ x, h ≤ x → x < h + 169 → ¬ (h + 35 ≤ x ∧ x < h + 40) → ¬ (h + 42 ≤ x ∧ x < h + 49) → x ≠ dk + 8 → I' x = I x) (hc : hmCache I' h (hmFind (hmFo (zO Z) (zH Z)) (hmFree (hmN (zO Z)) (zH Z)))) (hL : ∀ w, w < hmN (zO Z) → L' (dk + 1) w = L (dk + 1) w) : zC sh R L' I' h dk dd pl pd e Z := by
  have hd := h1.gK
  refine ⟨h1.gX, h1.gO.kept (fun x a1 a2 => hf x (by omega) (by omega) (by omega) (by omega) (by omega)), h1.gH.kept (fun x a1 a2 => hf x (by omega) (by omega) (by omega) (by omega) (by omega)), h1.gD.kept (fun x a1 a2 => hf x (by omega) (by omega) (by omega) (by omega) (by omega)), h1.gP.kept ?_ (fun x a1 a2 => hf x (by omega) (by omega) (by omega) (by omega) (by omega)), fun i hi => (h1.gM i hi).kept (fun x a1 a2 => hf x (by omega) (by omega) (by omega) (by omega) (by omega)), ?_, ?_, h1.gT.kept ?_ ?_, hc, fun w hw => (hL w hw).trans (h1.gN w hw)⟩
  · rw [hf h (by omega) (by omega) (by omega) (by omega) (by omega)]
    exact ⟨rfl, rfl⟩
  · rw [hf h (by omega) (by omega) (by omega) (by omega) (by omega)]
    exact h1.gT1
  · rw [hf h (by omega) (by omega) (by omega) (by omega) (by omega)]
    exact h1.gT2
  · rw [hf (h + 2) (by omega) (by omega) (by omega) (by omega) (by omega)]
  · exact hf (h + 2 + 1) (by omega) (by omega) (by omega) (by omega) (by omega)
theorem zC.qf (h1 : zC sh R L I h dk dd pl pd e Z) (hf : hmQf h dk I I') : zC sh R L I' h dk dd pl pd e Z := by
  have hd := h1.gK
  exact h1.kept (fun x a1 a2 a3 a4 a5 => hf x (by omega) (by omega) (by omega)) (h1.gC.kept (hf _ (by omega) (by omega) (by omega)) (hf _ (by omega) (by omega) (by omega))) (fun _ _ => rfl)
theorem zC.of (h1 : zC sh R L I h dk dd pl pd e Z) (hf : hmOf h dk I I') (hc : hmCache I' h (hmFind (hmFo (zO Z) (zH Z)) (hmFree (hmN (zO Z)) (zH Z)))) : zC sh R L I' h dk dd pl pd e Z :=
  h1.kept (fun x a1 a2 a3 a4 a5 => hf x (by omega) (by omega) (by omega)) hc (fun _ _ => rfl)
theorem zC.out (h1 : zC sh R L I h dk dd pl pd e Z) (hf : ∀ x, x < h + 169 → I' x = I x) (hL : ∀ x, x < h + 169 → L' x = L x) : zC sh R L' I' h dk dd pl pd e Z := by
  have hd := h1.gK
  exact h1.kept (fun x a1 a2 a3 a4 a5 => hf x (by omega)) (h1.gC.kept (hf _ (by omega)) (hf _ (by omega))) (fun w _ => by rw [hL _ (by omega)])
theorem zqf_hi (h1 : zC sh R L I h dk dd pl pd e Z) (hf : hmQf h dk I I') : ∀ x, h + 169 ≤ x → I' x = I x := by
  have hd := h1.gK
  exact fun x hx => hf x (by omega) (by omega) (by omega)
theorem zof_hi (h1 : zC sh R L I h dk dd pl pd e Z) (hf : hmOf h dk I I') : ∀ x, h + 169 ≤ x → I' x = I x := by
  have hd := h1.gK
  exact fun x hx => hf x (by omega) (by omega) (by omega)
theorem zR.gX (h1 : zR sh R L I m Z) : xModel sh R m := h1.1
theorem zR.gO (h1 : zR sh R L I m Z) : hmMo I m (zO Z) := h1.2.1
theorem zR.gH (h1 : zR sh R L I m Z) : hmMr (I (m + 28)) (zH Z) := h1.2.2.1
theorem zR.gD (h1 : zR sh R L I m Z) : hmMd I m 0 (zD Z) := h1.2.2.2.1
theorem zR.gP (h1 : zR sh R L I m Z) : hmMP I m (zP Z) := h1.2.2.2.2.1
theorem zR.gM (h1 : zR sh R L I m Z) : hmMK I m (zM Z) := h1.2.2.2.2.2.1
theorem zR.gW (h1 : zR sh R L I m Z) : hmTa (I (m + 27)) 0 (zW Z) := h1.2.2.2.2.2.2.1
theorem zR.gT (h1 : zR sh R L I m Z) : hmTm I m (zT Z) := h1.2.2.2.2.2.2.2.1
theorem zR.gK (h1 : zR sh R L I m Z) : I m 46 = nI (hmTk (zO Z)) := h1.2.2.2.2.2.2.2.2.1
theorem zR.gN (h1 : zR sh R L I m Z) : ∀ w, w < hmN (zO Z) → L (m + 3) w = hmE27 (zN Z w) := h1.2.2.2.2.2.2.2.2.2
theorem hmMK.kept {M : Nat → Option (hmH × hmDay × hmTo)} (h : hmMK I m M) (hf : ∀ x, ((m + 23 ≤ x ∧ x < m + 28) ∨ x = m + 31 ∨ x = m + 33) → I' x = I x) : hmMK I' m M := by
  intro i hi
  obtain ⟨a1, a2⟩ := h i hi
  refine ⟨by rw [hf (m + 33) (by omega)]; exact a1, fun H D t hM => ?_⟩
  obtain ⟨b1, b2, b3⟩ := a2 H D t hM
  rw [hf (m + 31) (by omega), hf (m + 27) (by omega)]
  exact ⟨b1, b2.kept (fun x c1 c2 => hf x (by omega)), b3⟩
theorem hmTm.kept {T : List Nat} (h : hmTm I m T) (h1 : I' m 1 = I m 1) (h2 : I' (m + 1) = I (m + 1)) : hmTm I' m T := by
  unfold hmTm at h ⊢
  rw [h1, h2]
  exact h
theorem zR.kept (h1 : zR sh R L I m Z) (hS : hmMr (I' (m + 28)) (zH Z)) (hf : ∀ x, m + 1 ≤ x → x < m + 38 → ¬ (m + 11 ≤ x ∧ x < m + 23) → ¬ (m + 28 ≤ x ∧ x < m + 31) → ¬ (m + 34 ≤ x ∧ x < m + 38) → I' x = I x) (hm : I' m 1 = I m 1 ∧ I' m 45 = I m 45 ∧ I' m 46 = I m 46) (hL : ∀ w, w < hmN (zO Z) → L' (m + 3) w = L (m + 3) w) : zR sh R L' I' m Z := by
  refine ⟨h1.gX, h1.gO.kept (fun x a1 a2 => hf x (by omega) (by omega) (by omega) (by omega) (by omega)), hS, h1.gD.kept (fun x a1 a2 => hf x (by omega) (by omega) (by omega) (by omega) (by omega)), h1.gP.kept hm.2.1 (hf _ (by omega) (by omega) (by omega) (by omega) (by omega)), h1.gM.kept (fun x a1 => hf x (by omega) (by omega) (by omega) (by omega) (by omega)), ?_, h1.gT.kept hm.1 (hf _ (by omega) (by omega) (by omega) (by omega) (by omega)), hm.2.2.trans h1.gK, fun w hw => (hL w hw).trans (h1.gN w hw)⟩
  rw [hf (m + 27) (by omega) (by omega) (by omega) (by omega) (by omega)]
  exact h1.gW
theorem zR.out (h1 : zR sh R L I m Z) (hf : ∀ x, m ≤ x → x < m + 38 → I' x = I x) (hL : ∀ x, m ≤ x → x < m + 38 → L' x = L x) : zR sh R L' I' m Z := by
  refine h1.kept (by rw [hf (m + 28) (by omega) (by omega)]; exact h1.gH) (fun x a1 a2 _ _ _ => hf x (by omega) (by omega)) ?_ (fun w _ => by rw [hL _ (by omega) (by omega)])
  rw [hf m (by omega) (by omega)]
  exact ⟨rfl, rfl, rfl⟩
theorem zth_ne {x : Nat} (hx : x ≠ m) : hmTh I m x = I x := va_up_ne _ _ hx
theorem zth_at {k : Nat} (hk : k ≠ 0) : hmTh I m m k = I m k := by
  show va_up I m (va_up (I m) 0 0) m k = I m k
  rw [va_up_self, va_up_ne _ _ hk]
theorem zR.mg (h1 : zR sh R L I m Z) (hg : hmMg m (hmTh I m) I') (hS : hmMr (I' (m + 28)) (zH Z)) (hL : ∀ w, w < hmN (zO Z) → L' (m + 3) w = L (m + 3) w) : zR sh R L' I' m Z := by
  refine h1.kept hS (fun x a1 a2 a3 a4 a5 => ?_) ⟨hg.2.2.1.trans (zth_at (by decide)), hg.2.2.2.1.trans (zth_at (by decide)), hg.2.2.2.2.trans (zth_at (by decide))⟩ hL
  exact (hg.1 x (by simp only [hmMt]; omega)).trans (zth_ne (by omega))
theorem zmg_lo (hg : hmMg m (hmTh I m) I') : ∀ x, x < m → I' x = I x := fun x hx => (hg.1 x (by simp only [hmMt]; omega)).trans (zth_ne (by omega))
theorem zmg_hi (hg : hmMg m (hmTh I m) I') : ∀ x, m + 38 ≤ x → I' x = I x := fun x hx => (hg.1 x (by simp only [hmMt]; omega)).trans (zth_ne (by omega))
theorem zR.th (h1 : zR sh R L I m Z) : zR sh R L (hmTh I m) m Z := by
  refine h1.kept (by rw [zth_ne (by omega)]; exact h1.gH) (fun x a1 a2 a3 a4 a5 => zth_ne (by omega)) ⟨zth_at (by decide), zth_at (by decide), zth_at (by decide)⟩ (fun _ _ => rfl)
end ZZ
