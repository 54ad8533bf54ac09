/-! the reference's rows -/
def hmMr (r : Nat → Int32) (H : hmH) : Prop :=
  (hmLine H).length ≤ 6 ∧ r 0 = nI (hmMin H) ∧ r 1 = nI (hmLine H).length ∧ r 2 = hmSet H ∧ r 3 = hmTak H ∧
  (∀ i, i < (hmLine H).length → r (4 + i) = nI ((hmLine H).getD i 0)) ∧ (∀ w, w < 6 → r (10 + w) = nI (hmHeld H w)) ∧ (∀ w, w < 6 → r (16 + w) = hmHas H w) ∧
  (∀ x, x < 6 → ∀ y, y < 6 → r (22 + 6 * x + y) = nI (hmTalk H x y))
/-- a caller's number, as an int that is given -/
def hmCal (n : Nat) (v : Int32) : Bool := decide (0 ≤ v.toInt ∧ v.toInt < n)
theorem hmCal_of {n : Nat} {v : Int32} (h : hmCal n v = true) : ∃ w, w < n ∧ v = nI w := by
  have h1 : 0 ≤ v.toInt ∧ v.toInt < n := by simpa [hmCal] using h
  refine ⟨v.toInt.toNat, by omega, ?_⟩
  apply Int32.toInt_inj.mp
  have h2 := Int32.toInt_lt v
  rw [nI_toInt (by omega)]
  omega
theorem hmCal_nI {n w : Nat} (hw : w < n) (hn : n < 2 ^ 31) : hmCal n (nI w) = true := by
  have h1 : (nI w).toInt = w := nI_toInt (by omega)
  simp only [hmCal, h1, decide_eq_true_eq]
  omega
theorem hm_lt0 {v : Int32} : (v < 0 ↔ v.toInt < 0) := by
  rw [Int32.lt_iff_toInt_lt]
  have e : (0 : Int32).toInt = 0 := by decide
  rw [e]
theorem hm_leN {v : Int32} {n : Nat} (hn : n < 2 ^ 31) : (nI n ≤ v ↔ (n : Int) ≤ v.toInt) := by
  rw [Int32.le_iff_toInt_le, nI_toInt hn]
theorem hmPlc_lt {l : List Nat} {w : Nat} (hl : l.length ≤ 1000) : (hmPlc l w < 0 ↔ w ∉ l) := by
  unfold hmPlc
  by_cases h : w ∈ l
  · have h1 := List.idxOf_lt_length_of_mem h
    simp only [h, if_true, not_true, iff_false]
    exact nI_pos (by omega)
  · simp [h]
def hmWith (v lo hi : Int32) : Bool := decide (¬ v < lo ∧ ¬ hi < v)
