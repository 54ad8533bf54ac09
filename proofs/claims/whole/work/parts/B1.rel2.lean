/-! changes of the whole state -/
def zHP (Z : hmZ) (H : hmH) (P : List hmH) : hmZ := (zT Z, zO Z, zN Z, zD Z, H, P, zM Z, zW Z)
def zTs (Z : hmZ) (T : List Nat) : hmZ := (T, zO Z, zN Z, zD Z, zH Z, zP Z, zM Z, zW Z)
def zDs (Z : hmZ) (T : List Nat) (D : hmDay) : hmZ := (T, zO Z, zN Z, D, zH Z, zP Z, zM Z, zW Z)
def zWs (Z : hmZ) (W : hmTo) : hmZ := (zT Z, zO Z, zN Z, zD Z, zH Z, zP Z, zM Z, W)
def zMs (Z : hmZ) (M : Nat → Option (hmH × hmDay × hmTo)) : hmZ := (zT Z, zO Z, zN Z, zD Z, zH Z, zP Z, M, zW Z)
def zBk (Z : hmZ) (H : hmH) (D : hmDay) (t : hmTo) : hmZ := (zT Z, zO Z, zN Z, D, H, [], zM Z, t)
def zNw (O : hmO) (N : Nat → List Nat) : hmZ := ([], O, N, [], hmBegin O, [], fun _ => none, fun _ => none)
section ZM
variable {sh : xSh} {R R' : xR} {L L' : xL} {I I' : xI} {h dk dd pl pd e e' m b : Nat} {Z : hmZ} {H' : hmH} {P' : List hmH}
theorem zHk_take {O : hmO} {G : hmH} {H : hmH} {P : List hmH} {b : Nat} (h1 : zHk O b H) (h2 : ∀ G, G ∈ P → zHk O b G) (hG : G ∈ (H :: P).take 16) : zHk O b G := by
  have h3 := List.mem_of_mem_take hG
  rcases List.mem_cons.mp h3 with h4 | h4
  · rw [h4]; exact h1
  · exact h2 G h4
theorem zOk.hp (hz : zOk Z b) (hb : b + 1 ≤ 600) (hH : zHk (zO Z) (b + 1) H') (hP : ∀ G, G ∈ P' → zHk (zO Z) (b + 1) G) : zOk (zHP Z H' P') (b + 1) := by
  obtain ⟨h1, h2, h3, h4, h5, h6, h7, h8, h9⟩ := hz.up hb
  exact ⟨h1, hH, h3, hP, h5, h6, h7, h8, h9⟩
theorem zOk.hp1 (hz : zOk Z b) (hb : b + 1 ≤ 600) (hH : zHk (zO Z) (b + 1) H') : zOk (zHP Z H' ((zH Z :: zP Z).take 16)) (b + 1) :=
  hz.hp hb hH (fun G hG => zHk_take (hz.up hb).2.1 (hz.up hb).2.2.2.1 hG)
theorem zC.km (h1 : zC sh R L I h dk dd pl pd e Z) (hf : hmKm h dk I I') (hH : hmR I' (h + 30) H') (hP : hmPast I' h e' P') : zC sh R L I' h dk dd pl pd e' (zHP Z H' P') := by
  have hd := h1.gK
  have f : ∀ x, x ≠ h → x ≠ h + 42 → ¬ (h + 49 ≤ x ∧ x < h + 129) → ¬ (h + 30 ≤ x ∧ x < h + 35) → x ≠ dk + 8 → I' x = I x := hf.1
  refine ⟨h1.gX, h1.gO.kept (fun x a1 a2 => f x (by omega) (by omega) (by omega) (by omega) (by omega)), hH, h1.gD.kept (fun x a1 a2 => f x (by omega) (by omega) (by omega) (by omega) (by omega)), hP, fun i hi => (h1.gM i hi).kept (fun x a1 a2 => f x (by omega) (by omega) (by omega) (by omega) (by omega)), (hf.2.1 11 (by decide) (by decide)).trans h1.gT1, (hf.2.1 12 (by decide) (by decide)).trans h1.gT2, h1.gT.kept ?_ (f _ (by omega) (by omega) (by omega) (by omega) (by omega)), Or.inl hf.2.2, h1.gN⟩
  rw [f (h + 2) (by omega) (by omega) (by omega) (by omega) (by omega)]
theorem zkm_hi (h1 : zC sh R L I h dk dd pl pd e Z) (hf : hmKm h dk I I') : ∀ x, h + 169 ≤ x → I' x = I x := by
  have hd := h1.gK
  exact fun x hx => hf.1 x (by omega) (by omega) (by omega) (by omega) (by omega)
theorem zR.km (h1 : zR sh R L I m Z) (hf : hmKM m (hmTh I m) I') (hS : hmMr (I' (m + 28)) H') (hP : hmMP I' m P') : zR sh R L I' m (zHP Z H' P') := by
  have f : ∀ x, x ≠ m → x ≠ m + 28 → x ≠ m + 32 → ¬ (m + 13 ≤ x ∧ x < m + 23) → I' x = I x := fun x a1 a2 a3 a4 => (hf.1 x a1 a2 a3 a4).trans (zth_ne a1)
  refine ⟨h1.gX, h1.gO.kept (fun x a1 a2 => f x (by omega) (by omega) (by omega) (by omega)), hS, h1.gD.kept (fun x a1 a2 => f x (by omega) (by omega) (by omega) (by omega)), hP, h1.gM.kept (fun x a1 => f x (by omega) (by omega) (by omega) (by omega)), ?_, h1.gT.kept ((hf.2 1 (by decide)).trans (zth_at (by decide))) (f _ (by omega) (by omega) (by omega) (by omega)), ((hf.2 46 (by decide)).trans (zth_at (by decide))).trans h1.gK, h1.gN⟩
  rw [f (m + 27) (by omega) (by omega) (by omega) (by omega)]
  exact h1.gW
theorem zKM_lo (hf : hmKM m (hmTh I m) I') : ∀ x, x < m → I' x = I x := fun x hx => (hf.1 x (by omega) (by omega) (by omega) (by omega)).trans (zth_ne (by omega))
/-- the tape -/
theorem hmPut_mem {T : List Nat} {s : Int32} {x : Nat} (hx : x ∈ hmPut T s) : x ∈ T ∨ x < 127 := by
  unfold hmPut at hx
  by_cases hg : hmGood s = true ∧ T.length < 1000
  · rw [if_pos hg] at hx
    rcases List.mem_append.mp hx with h1 | h1
    · exact Or.inl h1
    · obtain ⟨c, hc, rfl, -⟩ := hm_good hg.1
      rw [List.mem_singleton] at h1
      have h2 : (nI c).toInt = c := nI_toInt (by omega)
      rw [h2] at h1
      exact Or.inr (by omega)
  · rw [if_neg hg] at hx
    exact Or.inl hx
theorem hmPut8_mem {T : List Nat} {v : Int64} (hT : ∀ x, x ∈ T → x < 127) : ∀ (j x : Nat), x ∈ hmPut8 T v j → x < 127 := by
  intro j
  induction j with
  | zero => exact hT
  | succ j ih =>
    intro x hx
    rcases hmPut_mem hx with h1 | h1
    · exact ih x h1
    · exact h1
theorem zOk.ts (hz : zOk Z b) (hb : b + 1 ≤ 600) {T : List Nat} (hT : ∀ x, x ∈ T → x < 127) : zOk (zTs Z T) (b + 1) := by
  obtain ⟨h1, h2, h3, h4, h5, h6, h7, h8, h9⟩ := hz.up hb
  exact ⟨h1, h2, h3, h4, h5, h6, hT, h8, h9⟩
/-- but for the tape's cells, the reader's and the drafts' -/
theorem zC.tp (h1 : zC sh R L I h dk dd pl pd e Z) {T : List Nat} (hf : ∀ x, x ≠ h + 1 → x ≠ h + 2 → x ≠ h + 3 → ¬ (dd ≤ x ∧ x < dd + 9) → ¬ (pd ≤ x ∧ x < pd + 4) → I' x = I x) (hT : hmTp I' (h + 2) T) (hL : ∀ w, w < hmN (zO Z) → L' (dk + 1) w = L (dk + 1) w) : zC sh R L' I' h dk dd pl pd e (zTs Z T) := by
  have hd := h1.gK
  have f : ∀ x, h ≤ x → x ≠ h + 1 → x ≠ h + 2 → x ≠ h + 3 → ¬ (dd ≤ x ∧ x < dd + 9) → ¬ (pd ≤ x ∧ x < pd + 4) → I' x = I x := fun x _ a1 a2 a3 a4 a5 => hf x a1 a2 a3 a4 a5
  refine ⟨h1.gX, h1.gO.kept (fun x a1 a2 => f x (by omega) (by omega) (by omega) (by omega) (by omega) (by omega)), h1.gH.kept (fun x a1 a2 => f x (by omega) (by omega) (by omega) (by omega) (by omega) (by omega)), h1.gD.kept (fun x a1 a2 => f x (by omega) (by omega) (by omega) (by omega) (by omega) (by omega)), h1.gP.kept ?_ (fun x a1 a2 => f x (by omega) (by omega) (by omega) (by omega) (by omega) (by omega)), fun i hi => (h1.gM i hi).kept (fun x a1 a2 => f x (by omega) (by omega) (by omega) (by omega) (by omega) (by omega)), ?_, ?_, hT, h1.gC.kept (f _ (by omega) (by omega) (by omega) (by omega) (by omega) (by omega)) (f _ (by omega) (by omega) (by omega) (by omega) (by omega) (by omega)), fun w hw => (hL w hw).trans (h1.gN w hw)⟩
  · rw [f h (by omega) (by omega) (by omega) (by omega) (by omega) (by omega)]
    exact ⟨rfl, rfl⟩
  · rw [f h (by omega) (by omega) (by omega) (by omega) (by omega) (by omega)]
    exact h1.gT1
  · rw [f h (by omega) (by omega) (by omega) (by omega) (by omega) (by omega)]
    exact h1.gT2
theorem hmTp_nil {a : Nat} (h1 : I a 1 = 0) : hmTp I a [] := ⟨Nat.zero_le _, h1, fun i hi => absurd hi (Nat.not_lt_zero i)⟩
theorem hmTm_nil (h1 : I m 1 = 0) : hmTm I m [] := ⟨Nat.zero_le _, h1, fun i hi => absurd hi (Nat.not_lt_zero i)⟩
theorem zR.tp (h1 : zR sh R L I m Z) {T : List Nat} (hf : ∀ x, x ≠ m → x ≠ m + 1 → I' x = I x) (hk : ∀ k, k ≠ 1 → I' m k = hmTh I m m k) (hT : hmTm I' m T) : zR sh R L I' m (zTs Z T) := by
  refine ⟨h1.gX, h1.gO.kept (fun x a1 a2 => hf x (by omega) (by omega)), by rw [hf (m + 28) (by omega) (by omega)]; exact h1.gH, h1.gD.kept (fun x a1 a2 => hf x (by omega) (by omega)), h1.gP.kept ((hk 45 (by decide)).trans (zth_at (by decide))) (hf _ (by omega) (by omega)), h1.gM.kept (fun x a1 => hf x (by omega) (by omega)), ?_, hT, ((hk 46 (by decide)).trans (zth_at (by decide))).trans h1.gK, h1.gN⟩
  rw [hf (m + 27) (by omega) (by omega)]
  exact h1.gW
/-- an office that wasn't taken: the reference -/
theorem hmMo.wf {O : hmO} (ho : hmOok O) (h1 : hmMo I m O) (hw : hmWf m I I') : hmMo I' m O := by
  obtain ⟨a1, a2, a3, cd, a4, a5, a6, a7, a8⟩ := h1
  obtain ⟨b1, b2, b3, b4, b5, b6, b7⟩ := hw
  refine ⟨(b3 0 (by decide)).trans a1, (b3 1 (by decide)).trans a2, fun w hw => ?_, cd, b5.trans a4, b6.trans a5, a6, fun i hi => (b7 i (by omega)).trans (a7 i hi), a8⟩
  obtain ⟨c1, c2, c3, c4⟩ := b4 w (by have := ho.1; omega)
  obtain ⟨d1, d2, d3, d4⟩ := a3 w hw
  exact ⟨c1.trans d1, c2.trans d2, c3.trans d3, c4.trans d4⟩
theorem zR.wf (h1 : zR sh R L I m Z) (ho : hmOok (zO Z)) (hw : hmWf m (hmTh I m) I') (hl : hmVl m L L') (h0 : I' m 1 = 0) : zR sh R L' I' m (zTs Z []) := by
  have ht := h1.th
  have f : ∀ x, x ≠ m → ¬ (m + 2 ≤ x ∧ x < m + 13) → I' x = I x := fun x a1 a2 => (hw.1 x a1 a2).trans (zth_ne a1)
  refine ⟨h1.gX, ht.gO.wf ho hw, by rw [f (m + 28) (by omega) (by omega)]; exact h1.gH, h1.gD.kept (fun x a1 a2 => f x (by omega) (by omega)), h1.gP.kept ((hw.2.1 45 (by decide) (by decide) (by decide) (by decide) (by decide) (by decide) (by decide) (by decide) (by decide) (by decide)).trans (zth_at (by decide))) (f _ (by omega) (by omega)), h1.gM.kept (fun x a1 => f x (by omega) (by omega)), ?_, hmTm_nil h0, ((hw.2.1 46 (by decide) (by decide) (by decide) (by decide) (by decide) (by decide) (by decide) (by decide) (by decide) (by decide)).trans (zth_at (by decide))).trans h1.gK, fun w hw2 => (hl.2.1 w (Nat.lt_of_lt_of_le hw2 ho.1)).trans (h1.gN w hw2)⟩
  rw [f (m + 27) (by omega) (by omega)]
  exact h1.gW
theorem zwf_lo (hw : hmWf m (hmTh I m) I') : ∀ x, x < m → I' x = I x := fun x hx => (hw.1 x (by omega) (by omega)).trans (zth_ne (by omega))
/-- an office that was taken -/
theorem xModel.rw' (h1 : xModel sh R m) (hR : R' m = R m) : xModel sh R' m := by
  unfold xModel at h1 ⊢
  rw [hR]
  exact h1
theorem hmTb_none : hmTb (fun _ => none) = 0 := by decide +kernel
theorem hmTs_none : hmTs (fun _ => none) = 0 := by decide +kernel
theorem zOk_nw {O : hmO} {N : Nat → List Nat} (ho : hmOok O) (hN : ∀ w, w < hmN O → hmWd (N w)) (hb : b ≤ 600) : zOk (zNw O N) b := by
  refine ⟨ho, ⟨hmOk_begin ho, Nat.zero_le _, hmTkb_begin O, hmSb_begin O _⟩, fun x hx => absurd hx List.not_mem_nil, fun x hx => absurd hx List.not_mem_nil, fun i H D t hM => ?_, fun _ _ => rfl, fun x hx => absurd hx List.not_mem_nil, hN, hb⟩
  cases hM
theorem zC_nw {O : hmO} {N : Nat → List Nat} (hx : xHM sh R h dk dd pl pd) (he : e < 16) (hO : hmD I dk O) (hH : hmR I (h + 30) (hmBegin O)) (h3 : I pl 3 = 0) (h8 : I h 8 = 0) (h9 : I h 9 = nI e) (hm : ∀ i, i < 4 → I (h + 129 + 10 * i) 4 = 0) (h11 : I h 11 = 0) (h12 : I h 12 = 0) (ht : I (h + 2) 1 = 0) (hc : I (h + 42) 4 = 0) (hn : ∀ w, w < hmN O → L (dk + 1) w = hmE256 (N w)) : zC sh R L I h dk dd pl pd e (zNw O N) :=
  ⟨hx, hO, hH, ⟨Nat.zero_le _, h3, fun i hi => absurd hi (Nat.not_lt_zero i)⟩, ⟨Nat.zero_le _, he, h8, h9, fun j H hj => by cases hj⟩, fun i hi => hm i hi, h11.trans hmTb_none.symm, h12.trans hmTs_none.symm, hmTp_nil ht, Or.inl hc, hn⟩
theorem zR_nw {O : hmO} {N : Nat → List Nat} (hx : xModel sh R m) (hO : hmMo I m O) (hH : hmMr (I (m + 28)) (hmBegin O)) (h23 : I (m + 23) 0 = 0) (h45 : I m 45 = 0) (h33 : ∀ i, i < 4 → I (m + 33) i = 0) (h27 : ∀ j, j < 6 → I (m + 27) j = -1) (h1 : I m 1 = 0) (h46 : I m 46 = nI (hmTk O)) (hn : ∀ w, w < hmN O → L (m + 3) w = hmE27 (N w)) : zR sh R L I m (zNw O N) := by
  refine ⟨hx, hO, hH, ⟨Nat.zero_le _, h23, fun i hi => absurd hi (Nat.not_lt_zero i)⟩, ⟨Nat.zero_le _, h45, fun j H hj => by cases hj⟩, fun i hi => ⟨h33 i hi, fun H D t hM => by cases hM⟩, fun w hw => ?_, hmTm_nil h1, h46, hn⟩
  rw [show 6 * 0 + w = w by omega]
  exact h27 w hw
theorem hmOok_oo {D : hmDr} {lw : List Int32} (hD : hmDrOk D) (hl : lw.length ≤ 1000) (hs : (D.2.2 = none ∧ lw = []) ∨ ∃ cd, D.2.2 = some cd ∧ hmSem cd lw) : hmOok (hmOo D lw) := by
  obtain ⟨d1, d2, d3⟩ := hD
  have htk : 1 ≤ D.2.1.getD 5 ∧ D.2.1.getD 5 ≤ 20 := by
    cases hq : D.2.1 with
    | none => exact ⟨by decide, by decide⟩
    | some n => exact d3 n hq
  refine ⟨d1, htk.1, htk.2, fun w hw => ?_, hl, ?_⟩
  · have hw2 : w < D.1.length := hw
    have hm : D.1.getD w ([], 0, 0, 0, 0) ∈ D.1 := by
      rw [List.getD_eq_getElem?_getD, List.getElem?_eq_getElem hw2]
      exact List.getElem_mem hw2
    obtain ⟨c1, c2, c3, c4, c5, c6, c7⟩ := d2 _ hm
    exact ⟨c3, c4, c5, c6, c7⟩
  · rcases hs with ⟨-, hs⟩ | ⟨cd, -, hs⟩
    · exact Or.inl hs
    · exact Or.inr hs.2.2
theorem hmDr_nm {D : hmDr} (hD : hmDrOk D) {w : Nat} (hw : w < D.1.length) : hmWd (D.1.getD w ([], 0, 0, 0, 0)).1 := by
  have hm : D.1.getD w ([], 0, 0, 0, 0) ∈ D.1 := by
    rw [List.getD_eq_getElem?_getD, List.getElem?_eq_getElem hw]
    exact List.getElem_mem hw
  exact (hD.2.1 _ hm).1
/-- a day that was taken -/
theorem zOk.ds (hz : zOk Z b) (hb : b + 1 ≤ 600) {D : hmDay} (hD : hmDok (zO Z) D) : zOk (zDs Z [] D) (b + 1) := by
  obtain ⟨h1, h2, h3, h4, h5, h6, h7, h8, h9⟩ := hz.up hb
  exact ⟨h1, h2, hD, h4, h5, h6, fun x hx => absurd hx List.not_mem_nil, h8, h9⟩
theorem zC.ds (h1 : zC sh R L I h dk dd pl pd e Z) {D : hmDay} (hx : xHM sh R' h dk dd pd pl) (hf : hmRz (h + 1) pd 4 I I') (hT : I' (h + 2) 1 = 0) (hD : hmPl I' pd D) (hL : ∀ w, w < hmN (zO Z) → L' (dk + 1) w = L (dk + 1) w) : zC sh R' L' I' h dk dd pd pl e (zDs Z [] D) := by
  have hd := h1.gK
  have f : ∀ x, h ≤ x → x ≠ h + 1 → x ≠ h + 2 → ¬ (pd ≤ x ∧ x < pd + 4) → I' x = I x := fun x _ a1 a2 a3 => hf x a1 a2 a3
  refine ⟨hx, h1.gO.kept (fun x a1 a2 => f x (by omega) (by omega) (by omega) (by omega)), h1.gH.kept (fun x a1 a2 => f x (by omega) (by omega) (by omega) (by omega)), hD, h1.gP.kept ?_ (fun x a1 a2 => f x (by omega) (by omega) (by omega) (by omega)), fun i hi => (h1.gM i hi).kept (fun x a1 a2 => f x (by omega) (by omega) (by omega) (by omega)), ?_, ?_, hmTp_nil hT, h1.gC.kept (f _ (by omega) (by omega) (by omega) (by omega)) (f _ (by omega) (by omega) (by omega) (by omega)), fun w hw => (hL w hw).trans (h1.gN w hw)⟩
  · rw [f h (by omega) (by omega) (by omega) (by omega)]
    exact ⟨rfl, rfl⟩
  · rw [f h (by omega) (by omega) (by omega) (by omega)]
    exact h1.gT1
  · rw [f h (by omega) (by omega) (by omega) (by omega)]
    exact h1.gT2
/-- a day, told or not: the reference -/
theorem zR.dy (h1 : zR sh R L I m Z) {D : hmDay} (hf : ∀ x, x ≠ m → ¬ (m + 23 ≤ x ∧ x < m + 27) → I' x = I x) (hk : ∀ k, k ≠ 0 → k ≠ 1 → k ≠ 3 → k ≠ 4 → k ≠ 5 → k ≠ 6 → k ≠ 8 → k ≠ 9 → k ≠ 33 → I' m k = I m k) (h0 : I' m 1 = 0) (hM : ∀ k E, k < 5 → k ≠ 0 → hmMd I m k E → hmMd I' m k E) (hD : hmMd I' m 0 D) (hl : hmNl m L L') : zR sh R L' I' m (zDs Z [] D) := by
  have hK : ∀ k, 40 ≤ k → I' m k = I m k := fun k h => hk k (by omega) (by omega) (by omega) (by omega) (by omega) (by omega) (by omega) (by omega) (by omega)
  refine ⟨h1.gX, h1.gO.kept (fun x a1 a2 => hf x (by omega) (by omega)), by rw [hf (m + 28) (by omega) (by omega)]; exact h1.gH, hD, h1.gP.kept (hK 45 (by decide)) (hf _ (by omega) (by omega)), fun i hi => ?_, ?_, hmTm_nil h0, (hK 46 (by decide)).trans h1.gK, fun w hw => by rw [hl.1 _ (by omega)]; exact h1.gN w hw⟩
  · obtain ⟨a1, a2⟩ := h1.gM i hi
    refine ⟨by rw [hf (m + 33) (by omega) (by omega)]; exact a1, fun H D t hM2 => ?_⟩
    obtain ⟨b1, b2, b3⟩ := a2 H D t hM2
    rw [hf (m + 31) (by omega) (by omega), hf (m + 27) (by omega) (by omega)]
    exact ⟨b1, hM (1 + i) D (by omega) (by omega) b2, b3⟩
  · rw [hf (m + 27) (by omega) (by omega)]
    exact h1.gW
/-- what is told -/
theorem zOk.ws (hz : zOk Z b) (hb : b + 1 ≤ 600) {W : hmTo} (hW : ∀ w, hmN (zO Z) ≤ w → W w = none) : zOk (zWs Z W) (b + 1) := by
  obtain ⟨h1, h2, h3, h4, h5, h6, h7, h8, h9⟩ := hz.up hb
  exact ⟨h1, h2, h3, h4, h5, hW, h7, h8, h9⟩
theorem zC.ws (h1 : zC sh R L I h dk dd pl pd e Z) {W : hmTo} (hf : ∀ x, x ≠ h → I' x = I x) (hk : ∀ k, k ≠ 11 → k ≠ 12 → I' h k = I h k) (ht1 : I' h 11 = hmTb W) (ht2 : I' h 12 = hmTs W) : zC sh R L I' h dk dd pl pd e (zWs Z W) := by
  have hd := h1.gK
  exact ⟨h1.gX, h1.gO.kept (fun x a1 a2 => hf x (by omega)), h1.gH.kept (fun x a1 a2 => hf x (by omega)), h1.gD.kept (fun x a1 a2 => hf x (by omega)), h1.gP.kept ⟨hk 8 (by decide) (by decide), hk 9 (by decide) (by decide)⟩ (fun x a1 a2 => hf x (by omega)), fun i hi => (h1.gM i hi).kept (fun x a1 a2 => hf x (by omega)), ht1, ht2, h1.gT.kept (by rw [hf (h + 2) (by omega)]) (hf _ (by omega)), h1.gC.kept (hf _ (by omega)) (hf _ (by omega)), h1.gN⟩
theorem zR.ws (h1 : zR sh R L I m Z) {W : hmTo} (hf : ∀ x, x ≠ m → x ≠ m + 27 → I' x = I x) (hk : I' m = hmTh I m m) (hj : ∀ j, 6 ≤ j → I' (m + 27) j = I (m + 27) j) (hW : hmTa (I' (m + 27)) 0 W) : zR sh R L I' m (zWs Z W) := by
  have hK : ∀ k, k ≠ 0 → I' m k = I m k := fun k h => by rw [hk]; exact zth_at h
  refine ⟨h1.gX, h1.gO.kept (fun x a1 a2 => hf x (by omega) (by omega)), by rw [hf (m + 28) (by omega) (by omega)]; exact h1.gH, h1.gD.kept (fun x a1 a2 => hf x (by omega) (by omega)), h1.gP.kept (hK 45 (by decide)) (hf _ (by omega) (by omega)), fun i hi => ?_, hW, h1.gT.kept (hK 1 (by decide)) (hf _ (by omega) (by omega)), (hK 46 (by decide)).trans h1.gK, h1.gN⟩
  obtain ⟨a1, a2⟩ := h1.gM i hi
  refine ⟨by rw [hf (m + 33) (by omega) (by omega)]; exact a1, fun H D t hM2 => ?_⟩
  obtain ⟨b1, b2, b3⟩ := a2 H D t hM2
  rw [hf (m + 31) (by omega) (by omega)]
  exact ⟨b1, b2.kept (fun x c1 c2 => hf x (by omega) (by omega)), fun w hw => (hj _ (by omega)).trans (b3 w hw)⟩
/-- a mark laid -/
theorem zOk.ms (hz : zOk Z b) (hb : b + 1 ≤ 600) {k : Nat} : zOk (zMs Z (va_up (zM Z) k (some (zH Z, zD Z, zW Z)))) (b + 1) := by
  obtain ⟨h1, h2, h3, h4, h5, h6, h7, h8, h9⟩ := hz.up hb
  refine ⟨h1, h2, h3, h4, fun i H D t hM => ?_, h6, h7, h8, h9⟩
  have hM2 : va_up (zM Z) k (some (zH Z, zD Z, zW Z)) i = some (H, D, t) := hM
  by_cases hi : i = k
  · subst hi
    rw [va_up_self] at hM2
    cases hM2
    exact ⟨h2, h3, h6⟩
  · rw [va_up_ne _ _ hi] at hM2
    exact h5 i H D t hM2
theorem zC.ms (h1 : zC sh R L I h dk dd pl pd e Z) {k : Nat} (hk4 : k < 4) {q : hmH × hmDay × hmTo} (hf : ∀ x, ¬ (h + 129 + 10 * k ≤ x ∧ x < h + 129 + 10 * k + 10) → I' x = I x) (hM : hmMark I' (h + 129 + 10 * k) (some q)) : zC sh R L I' h dk dd pl pd e (zMs Z (va_up (zM Z) k (some q))) := by
  have hd := h1.gK
  have f : ∀ x, x < h + 129 → I' x = I x := fun x hx => hf x (by omega)
  refine ⟨h1.gX, h1.gO.kept (fun x a1 a2 => f x (by omega)), h1.gH.kept (fun x a1 a2 => f x (by omega)), h1.gD.kept (fun x a1 a2 => f x (by omega)), h1.gP.kept ?_ (fun x a1 a2 => f x (by omega)), fun i hi => ?_, ?_, ?_, h1.gT.kept (by rw [f (h + 2) (by omega)]) (f _ (by omega)), h1.gC.kept (f _ (by omega)) (f _ (by omega)), h1.gN⟩
  · rw [f h (by omega)]
    exact ⟨rfl, rfl⟩
  · show hmMark I' (h + 129 + 10 * i) (va_up (zM Z) k (some q) i)
    by_cases hik : i = k
    · subst hik
      rw [va_up_self]
      exact hM
    · rw [va_up_ne _ _ hik]
      exact (h1.gM i hi).kept (fun x a1 a2 => hf x (by omega))
  · rw [f h (by omega)]
    exact h1.gT1
  · rw [f h (by omega)]
    exact h1.gT2
theorem zR.ms (h1 : zR sh R L I m Z) {M : Nat → Option (hmH × hmDay × hmTo)} (hf : ∀ x, ¬ (m + 23 ≤ x ∧ x < m + 28) → x ≠ m + 31 → x ≠ m + 33 → I' x = (hmTh I m) x) (hS : hmMr (I' (m + 28)) (zH Z)) (hM : hmMK I' m M) (hD : hmMd I' m 0 (zD Z)) (hW : hmTa (I' (m + 27)) 0 (zW Z)) : zR sh R L I' m (zMs Z M) := by
  have f : ∀ x, x ≠ m → ¬ (m + 23 ≤ x ∧ x < m + 28) → x ≠ m + 31 → x ≠ m + 33 → I' x = I x := fun x a a1 a2 a3 => (hf x a1 a2 a3).trans (zth_ne a)
  have hK : ∀ k, k ≠ 0 → I' m k = I m k := fun k h => by rw [hf m (by omega) (by omega) (by omega)]; exact zth_at h
  exact ⟨h1.gX, h1.gO.kept (fun x a1 a2 => f x (by omega) (by omega) (by omega) (by omega)), hS, hD, h1.gP.kept (hK 45 (by decide)) (f _ (by omega) (by omega) (by omega) (by omega)), hM, hW, h1.gT.kept (hK 1 (by decide)) (f _ (by omega) (by omega) (by omega) (by omega)), (hK 46 (by decide)).trans h1.gK, h1.gN⟩
/-- back to a mark -/
theorem zOk.bk (hz : zOk Z b) (hb : b + 1 ≤ 600) {k : Nat} {H : hmH} {D : hmDay} {t : hmTo} (hM : zM Z k = some (H, D, t)) : zOk (zBk Z H D t) (b + 1) := by
  obtain ⟨h1, h2, h3, h4, h5, h6, h7, h8, h9⟩ := hz.up hb
  obtain ⟨g1, g2, g3⟩ := h5 k H D t hM
  exact ⟨h1, g1, g2, fun x hx => absurd hx List.not_mem_nil, h5, g3, h7, h8, h9⟩
theorem zC.bk (h1 : zC sh R L I h dk dd pl pd e Z) {D : hmDay} {t : hmTo} (hf : ∀ x, x ≠ h → x ≠ h + 42 → ¬ (h + 30 ≤ x ∧ x < h + 30 + 5) → ¬ (pl ≤ x ∧ x < pl + 4) → I' x = I x) (hk : ∀ k, k ≠ 8 → k ≠ 11 → k ≠ 12 → I' h k = I h k) (h8 : I' h 8 = 0) (ht1 : I' h 11 = hmTb t) (ht2 : I' h 12 = hmTs t) (hc : I' (h + 42) 4 = 0) (hH : hmR I' (h + 30) H') (hD : hmPl I' pl D) : zC sh R L I' h dk dd pl pd e (zBk Z H' D t) := by
  have hd := h1.gK
  exact ⟨h1.gX, h1.gO.kept (fun x a1 a2 => hf x (by omega) (by omega) (by omega) (by omega)), hH, hD, ⟨Nat.zero_le _, h1.gP.2.1, h8, (hk 9 (by decide) (by decide) (by decide)).trans h1.gP.2.2.2.1, fun j H hj => by cases hj⟩, fun i hi => (h1.gM i hi).kept (fun x a1 a2 => hf x (by omega) (by omega) (by omega) (by omega)), ht1, ht2, h1.gT.kept (by rw [hf (h + 2) (by omega) (by omega) (by omega) (by omega)]) (hf _ (by omega) (by omega) (by omega) (by omega)), Or.inl hc, h1.gN⟩
theorem zR.bk (h1 : zR sh R L I m Z) {D : hmDay} {t : hmTo} (hf : ∀ x, x ≠ m → ¬ (m + 23 ≤ x ∧ x < m + 29) → x ≠ m + 33 → I' x = (hmTh I m) x) (hk : ∀ k, k ≠ 45 → I' m k = (hmTh I m) m k) (h45 : I' m 45 = 0) (hS : hmMr (I' (m + 28)) H') (hM : hmMK I' m (zM Z)) (hD : hmMd I' m 0 D) (hW : hmTa (I' (m + 27)) 0 t) : zR sh R L I' m (zBk Z H' D t) := by
  have f : ∀ x, x ≠ m → ¬ (m + 23 ≤ x ∧ x < m + 29) → x ≠ m + 33 → I' x = I x := fun x a1 a2 a3 => (hf x a1 a2 a3).trans (zth_ne a1)
  exact ⟨h1.gX, h1.gO.kept (fun x a1 a2 => f x (by omega) (by omega) (by omega)), hS, hD, ⟨Nat.zero_le _, h45, fun j H hj => by cases hj⟩, hM, hW, h1.gT.kept ((hk 1 (by decide)).trans (zth_at (by decide))) (f _ (by omega) (by omega) (by omega)), ((hk 46 (by decide)).trans (zth_at (by decide))).trans h1.gK, h1.gN⟩
end ZM
