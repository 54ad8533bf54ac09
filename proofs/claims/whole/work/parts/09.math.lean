/-! the mathematical state: what the class and the reference both mean -/
/-- a hall: line, answers, minutes held, how often put through, settled, taken up, minute -/
abbrev hmH : Type := List Nat × (Nat → Int32) × (Nat → Nat) × (Nat → Nat → Nat) × Int32 × Int32 × Nat
def hmLine (H : hmH) : List Nat := H.1
def hmHas (H : hmH) : Nat → Int32 := H.2.1
def hmHeld (H : hmH) : Nat → Nat := H.2.2.1
def hmTalk (H : hmH) : Nat → Nat → Nat := H.2.2.2.1
def hmSet (H : hmH) : Int32 := H.2.2.2.2.1
def hmTak (H : hmH) : Int32 := H.2.2.2.2.2.1
def hmMin (H : hmH) : Nat := H.2.2.2.2.2.2
/-- the hall at a is H -/
def hmR (I : xI) (a : Nat) (H : hmH) : Prop :=
  (hmLine H).length ≤ 6 ∧ I a 4 = nI (hmLine H).length ∧ I a 5 = hmSet H ∧ I a 6 = hmTak H ∧ I a 7 = nI (hmMin H) ∧
  (∀ i, i < (hmLine H).length → I (a + 3) i = nI ((hmLine H).getD i 0)) ∧ (∀ w, w < 6 → I (a + 1) w = hmHas H w) ∧ (∀ w, w < 6 → I (a + 2) w = nI (hmHeld H w)) ∧
  (∀ x, x < 6 → ∀ y, y < 6 → I (a + 4) (x * 6 + y) = nI (hmTalk H x y))
/-- outside of some rows nothing has changed -/
def hmFr (P : Nat → Prop) (I I' : xI) : Prop := ∀ x, ¬ P x → I' x = I x
def hmIn (a k : Nat) : Nat → Prop := fun x => a ≤ x ∧ x < a + k
theorem hmFr.rf {P : Nat → Prop} {I : xI} : hmFr P I I := fun _ _ => rfl
theorem hmFr.tr {P : Nat → Prop} {I J K : xI} (h1 : hmFr P I J) (h2 : hmFr P J K) : hmFr P I K := fun x hx => (h2 x hx).trans (h1 x hx)
theorem hmFr.mono {P P' : Nat → Prop} {I J : xI} (h : hmFr P I J) (hp : ∀ x, P x → P' x) : hmFr P' I J := fun x hx => h x (fun q => hx (hp x q))
theorem hmFr.up {P : Nat → Prop} {I J : xI} {a : Nat} {r : Nat → Int32} (h : hmFr P I J) (ha : P a) : hmFr P I (va_up J a r) := fun x hx => by
  have hxa : x ≠ a := fun q => hx (by rw [q]; exact ha)
  rw [va_up_ne _ _ hxa]
  exact h x hx
theorem hmR.kept {I I' : xI} {a : Nat} {H : hmH} (h : hmR I a H) (hf : ∀ x, a ≤ x → x < a + 5 → I' x = I x) : hmR I' a H := by
  unfold hmR at h ⊢
  rw [hf a (by omega) (by omega), hf (a + 1) (by omega) (by omega), hf (a + 2) (by omega) (by omega), hf (a + 3) (by omega) (by omega), hf (a + 4) (by omega) (by omega)]
  exact h
/-- the place of one on the line, or -1 -/
def hmPlc (l : List Nat) (w : Nat) : Int32 := if w ∈ l then nI (l.idxOf w) else -1
def hmBit (x : Int32) (k : Nat) : Bool := (x >>> (nI k &&& 31)) &&& 1 == 1
def hmB (b : Bool) : Int32 := if b then 1 else 0
def hmOne (w : Nat) : Int32 := 1 <<< (nI w &&& 31)
def hmBits (l : List Nat) : Int32 := l.foldl (fun b w => b ||| hmOne w) 0
theorem hmPlc_ne {l : List Nat} {w : Nat} (hl : l.length ≤ 1000) : (hmPlc l w = -1 ↔ w ∉ l) := by
  unfold hmPlc
  by_cases h : w ∈ l
  · have h1 := List.idxOf_lt_length_of_mem h
    simp only [h, if_true, not_true, iff_false]
    intro q
    have h2 := congrArg Int32.toInt q
    rw [nI_toInt (by omega)] at h2
    have h3 : (-1 : Int32).toInt = -1 := by decide
    omega
  · simp [h]
theorem hmB_nar (b : Bool) : narrow .boolean (.int (hmB b)) = .int (hmB b) := by cases b <;> decide
theorem hmB_1 (b : Bool) : (hmB b = 1 ↔ b = true) := by cases b <;> simp [hmB]
theorem hmB_0 (b : Bool) : (hmB b = 0 ↔ b = false) := by cases b <;> simp [hmB]
theorem hmBit_1 {x : Int32} {k : Nat} : (hmBit x k = true ↔ (x >>> (nI k &&& 31)) &&& 1 = 1) := by simp [hmBit]
theorem hm_getD_mem {l : List Nat} {i : Nat} (h : i < l.length) : l.getD i 0 ∈ l := by
  rw [List.getD_eq_getElem?_getD, List.getElem?_eq_getElem h]
  exact List.getElem_mem h
