def xMark (sh : xSh) (R : xR) (a : Nat) : Prop := sh a = some (.inl 3) ∧ R a 0 = some (a + 1) ∧ R a 1 = some (a + 6) ∧ xHall sh R (a + 1) ∧ xPlan sh R (a + 6)
/-- the layout of the class at h -/
def xHM (sh : xSh) (R : xR) (h dk dd pl pd : Nat) : Prop := sh h = some (.inl 8) ∧ R h 0 = some (h + 1) ∧ R h 1 = some dk ∧ R h 2 = some dd ∧ R h 3 = some pl ∧ R h 4 = some pd ∧ R h 5 = some (h + 30) ∧ R h 6 = some (h + 35) ∧ R h 7 = some (h + 40) ∧ R h 10 = some (h + 41) ∧ R h 13 = some (h + 42) ∧ R h 14 = some (h + 45) ∧ R h 15 = some (h + 48) ∧ xReader sh R (h + 1) ∧ xDesk sh R dk ∧ xDesk sh R dd ∧ xPlan sh R pl ∧ xPlan sh R pd ∧ xHall sh R (h + 30) ∧ xHall sh R (h + 35) ∧ sh (h + 40) = some (.inr (.object "HeldMusic$Hall", 16)) ∧ sh (h + 41) = some (.inr (.object "HeldMusic$Mark", 4)) ∧ xRows sh R (h + 42) ∧ xRows sh R (h + 45) ∧ sh (h + 48) = some (.inr (.int, 6)) ∧ (∀ i, i < 16 → R (h + 40) i = some (h + 49 + 5 * i) ∧ xHall sh R (h + 49 + 5 * i)) ∧ (∀ i, i < 4 → R (h + 41) i = some (h + 129 + 10 * i) ∧ xMark sh R (h + 129 + 10 * i)) ∧ ((dk = h + 4 ∧ dd = h + 13) ∨ (dk = h + 13 ∧ dd = h + 4)) ∧ ((pl = h + 22 ∧ pd = h + 26) ∨ (pl = h + 26 ∧ pd = h + 22))
theorem xH_0 {sh : xSh} {R : xR} {h dk dd pl pd : Nat} (hx : xHM sh R h dk dd pl pd) : sh h = some (.inl 8) := hx.1
theorem xH_1 {sh : xSh} {R : xR} {h dk dd pl pd : Nat} (hx : xHM sh R h dk dd pl pd) : R h 0 = some (h + 1) := hx.2.1
theorem xH_2 {sh : xSh} {R : xR} {h dk dd pl pd : Nat} (hx : xHM sh R h dk dd pl pd) : R h 1 = some dk := hx.2.2.1
theorem xH_3 {sh : xSh} {R : xR} {h dk dd pl pd : Nat} (hx : xHM sh R h dk dd pl pd) : R h 2 = some dd := hx.2.2.2.1
theorem xH_4 {sh : xSh} {R : xR} {h dk dd pl pd : Nat} (hx : xHM sh R h dk dd pl pd) : R h 3 = some pl := hx.2.2.2.2.1
theorem xH_5 {sh : xSh} {R : xR} {h dk dd pl pd : Nat} (hx : xHM sh R h dk dd pl pd) : R h 4 = some pd := hx.2.2.2.2.2.1
theorem xH_6 {sh : xSh} {R : xR} {h dk dd pl pd : Nat} (hx : xHM sh R h dk dd pl pd) : R h 5 = some (h + 30) := hx.2.2.2.2.2.2.1
theorem xH_7 {sh : xSh} {R : xR} {h dk dd pl pd : Nat} (hx : xHM sh R h dk dd pl pd) : R h 6 = some (h + 35) := hx.2.2.2.2.2.2.2.1
theorem xH_8 {sh : xSh} {R : xR} {h dk dd pl pd : Nat} (hx : xHM sh R h dk dd pl pd) : R h 7 = some (h + 40) := hx.2.2.2.2.2.2.2.2.1
theorem xH_9 {sh : xSh} {R : xR} {h dk dd pl pd : Nat} (hx : xHM sh R h dk dd pl pd) : R h 10 = some (h + 41) := hx.2.2.2.2.2.2.2.2.2.1
theorem xH_10 {sh : xSh} {R : xR} {h dk dd pl pd : Nat} (hx : xHM sh R h dk dd pl pd) : R h 13 = some (h + 42) := hx.2.2.2.2.2.2.2.2.2.2.1
theorem xH_11 {sh : xSh} {R : xR} {h dk dd pl pd : Nat} (hx : xHM sh R h dk dd pl pd) : R h 14 = some (h + 45) := hx.2.2.2.2.2.2.2.2.2.2.2.1
theorem xH_12 {sh : xSh} {R : xR} {h dk dd pl pd : Nat} (hx : xHM sh R h dk dd pl pd) : R h 15 = some (h + 48) := hx.2.2.2.2.2.2.2.2.2.2.2.2.1
theorem xH_13 {sh : xSh} {R : xR} {h dk dd pl pd : Nat} (hx : xHM sh R h dk dd pl pd) : xReader sh R (h + 1) := hx.2.2.2.2.2.2.2.2.2.2.2.2.2.1
theorem xH_14 {sh : xSh} {R : xR} {h dk dd pl pd : Nat} (hx : xHM sh R h dk dd pl pd) : xDesk sh R dk := hx.2.2.2.2.2.2.2.2.2.2.2.2.2.2.1
theorem xH_15 {sh : xSh} {R : xR} {h dk dd pl pd : Nat} (hx : xHM sh R h dk dd pl pd) : xDesk sh R dd := hx.2.2.2.2.2.2.2.2.2.2.2.2.2.2.2.1
theorem xH_16 {sh : xSh} {R : xR} {h dk dd pl pd : Nat} (hx : xHM sh R h dk dd pl pd) : xPlan sh R pl := hx.2.2.2.2.2.2.2.2.2.2.2.2.2.2.2.2.1
theorem xH_17 {sh : xSh} {R : xR} {h dk dd pl pd : Nat} (hx : xHM sh R h dk dd pl pd) : xPlan sh R pd := hx.2.2.2.2.2.2.2.2.2.2.2.2.2.2.2.2.2.1
theorem xH_18 {sh : xSh} {R : xR} {h dk dd pl pd : Nat} (hx : xHM sh R h dk dd pl pd) : xHall sh R (h + 30) := hx.2.2.2.2.2.2.2.2.2.2.2.2.2.2.2.2.2.2.1
theorem xH_19 {sh : xSh} {R : xR} {h dk dd pl pd : Nat} (hx : xHM sh R h dk dd pl pd) : xHall sh R (h + 35) := hx.2.2.2.2.2.2.2.2.2.2.2.2.2.2.2.2.2.2.2.1
theorem xH_20 {sh : xSh} {R : xR} {h dk dd pl pd : Nat} (hx : xHM sh R h dk dd pl pd) : sh (h + 40) = some (.inr (.object "HeldMusic$Hall", 16)) := hx.2.2.2.2.2.2.2.2.2.2.2.2.2.2.2.2.2.2.2.2.1
theorem xH_21 {sh : xSh} {R : xR} {h dk dd pl pd : Nat} (hx : xHM sh R h dk dd pl pd) : sh (h + 41) = some (.inr (.object "HeldMusic$Mark", 4)) := hx.2.2.2.2.2.2.2.2.2.2.2.2.2.2.2.2.2.2.2.2.2.1
theorem xH_22 {sh : xSh} {R : xR} {h dk dd pl pd : Nat} (hx : xHM sh R h dk dd pl pd) : xRows sh R (h + 42) := hx.2.2.2.2.2.2.2.2.2.2.2.2.2.2.2.2.2.2.2.2.2.2.1
theorem xH_23 {sh : xSh} {R : xR} {h dk dd pl pd : Nat} (hx : xHM sh R h dk dd pl pd) : xRows sh R (h + 45) := hx.2.2.2.2.2.2.2.2.2.2.2.2.2.2.2.2.2.2.2.2.2.2.2.1
theorem xH_24 {sh : xSh} {R : xR} {h dk dd pl pd : Nat} (hx : xHM sh R h dk dd pl pd) : sh (h + 48) = some (.inr (.int, 6)) := hx.2.2.2.2.2.2.2.2.2.2.2.2.2.2.2.2.2.2.2.2.2.2.2.2.1
theorem xH_25 {sh : xSh} {R : xR} {h dk dd pl pd : Nat} (hx : xHM sh R h dk dd pl pd) : (∀ i, i < 16 → R (h + 40) i = some (h + 49 + 5 * i) ∧ xHall sh R (h + 49 + 5 * i)) := hx.2.2.2.2.2.2.2.2.2.2.2.2.2.2.2.2.2.2.2.2.2.2.2.2.2.1
theorem xH_26 {sh : xSh} {R : xR} {h dk dd pl pd : Nat} (hx : xHM sh R h dk dd pl pd) : (∀ i, i < 4 → R (h + 41) i = some (h + 129 + 10 * i) ∧ xMark sh R (h + 129 + 10 * i)) := hx.2.2.2.2.2.2.2.2.2.2.2.2.2.2.2.2.2.2.2.2.2.2.2.2.2.2.1
theorem xH_27 {sh : xSh} {R : xR} {h dk dd pl pd : Nat} (hx : xHM sh R h dk dd pl pd) : ((dk = h + 4 ∧ dd = h + 13) ∨ (dk = h + 13 ∧ dd = h + 4)) := hx.2.2.2.2.2.2.2.2.2.2.2.2.2.2.2.2.2.2.2.2.2.2.2.2.2.2.2.1
theorem xH_28 {sh : xSh} {R : xR} {h dk dd pl pd : Nat} (hx : xHM sh R h dk dd pl pd) : ((pl = h + 22 ∧ pd = h + 26) ∨ (pl = h + 26 ∧ pd = h + 22)) := hx.2.2.2.2.2.2.2.2.2.2.2.2.2.2.2.2.2.2.2.2.2.2.2.2.2.2.2.2
/-- a day's lines: deed (0 ring, 1 off, 2 swap, 3 minute), who, whom -/
abbrev hmDay : Type := List (Nat × Nat × Nat)
abbrev hmTo : Type := Nat → Option Bool
/-- the whole: signs fed, office, names, day, hall, what can be undone (the newest first), marks, what is told -/
abbrev hmZ : Type := List Nat × hmO × (Nat → List Nat) × hmDay × hmH × List hmH × (Nat → Option (hmH × hmDay × hmTo)) × hmTo
def zT (Z : hmZ) : List Nat := Z.1
def zO (Z : hmZ) : hmO := Z.2.1
def zN (Z : hmZ) : Nat → List Nat := Z.2.2.1
def zD (Z : hmZ) : hmDay := Z.2.2.2.1
def zH (Z : hmZ) : hmH := Z.2.2.2.2.1
def zP (Z : hmZ) : List hmH := Z.2.2.2.2.2.1
def zM (Z : hmZ) : Nat → Option (hmH × hmDay × hmTo) := Z.2.2.2.2.2.2.1
def zW (Z : hmZ) : hmTo := Z.2.2.2.2.2.2.2
/-- a day at pl -/
def hmPl (I : xI) (pl : Nat) (D : hmDay) : Prop := D.length ≤ 40 ∧ I pl 3 = nI D.length ∧ ∀ i, i < D.length → I (pl + 1) i = nI (D.getD i (3, 0, 0)).1 ∧ ((D.getD i (3, 0, 0)).1 ≠ 3 → I (pl + 2) i = nI (D.getD i (3, 0, 0)).2.1) ∧ ((D.getD i (3, 0, 0)).1 = 2 → I (pl + 3) i = nI (D.getD i (3, 0, 0)).2.2)
def hmDok (O : hmO) (D : hmDay) : Prop := ∀ x, x ∈ D → x.1 < 4 ∧ (x.1 ≠ 3 → x.2.1 < hmN O) ∧ (x.1 = 2 → x.2.2 < hmN O ∧ x.2.1 ≠ x.2.2)
theorem hmPl.kept {I I' : xI} {pl : Nat} {D : hmDay} (h : hmPl I pl D) (hf : ∀ x, pl ≤ x → x < pl + 4 → I' x = I x) : hmPl I' pl D := by
  unfold hmPl at h ⊢
  rw [hf pl (by omega) (by omega), hf (pl + 1) (by omega) (by omega), hf (pl + 2) (by omega) (by omega), hf (pl + 3) (by omega) (by omega)]
  exact h
/-- those of whom something is told, and of whom it is told that they are settled, as bits -/
def hmTb (t : hmTo) : Int32 := hmBits ((List.range 6).filter (fun w => (t w).isSome))
def hmTs (t : hmTo) : Int32 := hmBits ((List.range 6).filter (fun w => t w == some true))
/-- the place in the ring of what was kept j steps ago -/
def hmRg (e j : Nat) : Nat := (e + 15 - j) % 16
def hmPast (I : xI) (h e : Nat) (P : List hmH) : Prop := P.length ≤ 16 ∧ e < 16 ∧ I h 8 = nI P.length ∧ I h 9 = nI e ∧ ∀ j H, P[j]? = some H → hmR I (h + 49 + 5 * hmRg e j) H
def hmMark (I : xI) (a : Nat) (k : Option (hmH × hmDay × hmTo)) : Prop := match k with
  | none => I a 4 = 0
  | some (H, D, t) => I a 4 = 1 ∧ hmR I (a + 1) H ∧ hmPl I (a + 6) D ∧ I a 2 = hmTb t ∧ I a 3 = hmTs t
/-- what holds of every state that comes about, b minutes at most having gone by -/
def hmZok (Z : hmZ) (b : Nat) : Prop := hmOok (zO Z) ∧ hmOk (zO Z) (zH Z) ∧ hmMin (zH Z) ≤ b ∧ hmDok (zO Z) (zD Z) ∧ (∀ H, H ∈ zP Z → hmOk (zO Z) H ∧ hmMin H ≤ b) ∧ (∀ i H D t, zM Z i = some (H, D, t) → hmOk (zO Z) H ∧ hmMin H ≤ b ∧ hmDok (zO Z) D ∧ ∀ w, hmN (zO Z) ≤ w → t w = none) ∧ (∀ w, hmN (zO Z) ≤ w → zW Z w = none) ∧ (zT Z).length ≤ 1000 ∧ (∀ x, x ∈ zT Z → x = 10 ∨ (32 ≤ x ∧ x ≤ 126)) ∧ (∀ w, w < hmN (zO Z) → (zN Z w).length ≤ 8 ∧ 1 ≤ (zN Z w).length ∧ ∀ c, c ∈ zN Z w → 97 ≤ c ∧ c ≤ 122) ∧ b ≤ 100000
/-- a word as its letters' bytes, and by 27 -/
def hmE256 (l : List Nat) : Int64 := l.foldl (fun v c => (v <<< 8) ||| Int64.ofNat c) 0
def hmE27 (l : List Nat) : Int64 := l.foldl (fun v c => v * 27 + Int64.ofNat c - 96) 0
/-- the orders that were found, if they are known -/
def hmCache (I : xI) (h : Nat) (f : Nat × Int32 × List Nat) : Prop := I (h + 42) 4 = 0 ∨ (I (h + 42) 4 = 1 ∧ I (h + 42) 2 = nI f.1 ∧ f.1 ≤ 6 ∧ I (h + 42) 3 = f.2.1 ∧ ∀ i, i < f.1 → I (h + 44) i = nI (f.2.2.getD i 0))
