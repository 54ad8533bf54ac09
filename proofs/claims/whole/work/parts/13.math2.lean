/-! telling, pairs, settling, holding, taking up: a minute -/
theorem hm_or1 (x s : Int32) : x ||| (s &&& (x ^^^ -1)) = x ||| s := by
  apply Int32.toBitVec_inj.mp
  simp only [Int32.toBitVec_or, Int32.toBitVec_and, Int32.toBitVec_xor]
  have e : (-1 : Int32).toBitVec = BitVec.allOnes 32 := by decide
  rw [e]
  ext i hi
  simp only [BitVec.getElem_or, BitVec.getElem_and, BitVec.getElem_xor, BitVec.getElem_allOnes]
  cases x.toBitVec[i] <;> cases s.toBitVec[i] <;> rfl
def hmOb (b : Option Nat) : Int32 := match b with
  | none => -1
  | some b => nI b
def hmSaid (O : hmO) (has : Nat → Int32) (fr to : Nat) (bh : Option Nat) : Int32 :=
  if hmKi O fr = 1 then has fr &&& hmOne (hmTr O to) else if hmKi O fr = 2 then (match bh with
    | none => has fr
    | some b => has fr ||| has b) else has fr
def hmLaw (O : hmO) (has : Nat → Int32) (held : Nat → Nat) (tm fr to : Nat) : Int32 := hmLawV (hmLw O) (nI (held to)) (nI tm) (hmCnt (has to)) (hmCnt (has fr))
def hmTell (O : hmO) (has : Nat → Int32) (held : Nat → Nat) (tm fr to : Nat) (bh : Option Nat) : Nat → Int32 :=
  if hmKi O to = 3 ∨ hmLaw O has held tm fr to = 0 then has else va_up has to (has to ||| hmSaid O has fr to bh)
def hmHeard (O : hmO) (has : Nat → Int32) (held : Nat → Nat) (tm fr to : Nat) (bh : Option Nat) : Int32 :=
  if hmSaid O has fr to bh &&& (has to ^^^ -1) = 0 ∨ hmKi O to = 3 then 0 else if hmLaw O has held tm fr to = 0 then 0 else hmSaid O has fr to bh &&& (has to ^^^ -1)
theorem hm_heard_tell (O : hmO) (has : Nat → Int32) (held : Nat → Nat) (tm fr to : Nat) (bh : Option Nat) : va_up has to (has to ||| hmHeard O has held tm fr to bh) = hmTell O has held tm fr to bh := by
  have hz : ∀ x : Int32, x ||| 0 = x := fun x => Int32.or_zero
  unfold hmHeard hmTell
  by_cases h3 : hmKi O to = 3
  · rw [if_pos (Or.inr h3), if_pos (Or.inl h3), hz, va_up_id]
  · by_cases hl : hmLaw O has held tm fr to = 0
    · rw [if_pos (Or.inr hl)]
      by_cases hf : hmSaid O has fr to bh &&& (has to ^^^ -1) = 0
      · rw [if_pos (Or.inl hf), hz, va_up_id]
      · rw [if_neg (fun q => q.elim hf h3), if_pos hl, hz, va_up_id]
    · have hr : ¬ (hmKi O to = 3 ∨ hmLaw O has held tm fr to = 0) := fun q => q.elim h3 hl
      by_cases hf : hmSaid O has fr to bh &&& (has to ^^^ -1) = 0
      · rw [if_neg hr, if_pos (Or.inl hf), hz]
        have h1 := hm_or1 (has to) (hmSaid O has fr to bh)
        rw [hf, hz] at h1
        rw [← h1]
      · have hr2 : ¬ (hmSaid O has fr to bh &&& (has to ^^^ -1) = 0 ∨ hmKi O to = 3) := fun q => q.elim hf h3
        rw [if_neg hr, if_neg hr2, if_neg hl, hm_or1]
def hmTalk2 (tk : Nat → Nat → Nat) (a b : Nat) : Nat → Nat → Nat := fun x y => if (x = a ∧ y = b) ∨ (x = b ∧ y = a) then tk a b + 1 else tk x y
def hmPair (O : hmO) (H : hmH) (a b : Nat) (bh : Option Nat) : hmH :=
  (hmLine H, hmTell O (hmTell O (hmHas H) (hmHeld H) (hmTalk H a b + 1) a b bh) (hmHeld H) (hmTalk H a b + 1) b a bh, hmHeld H, hmTalk2 (hmTalk H) a b, hmSet H, hmTak H, hmMin H)
def hmPairs (O : hmO) (H : hmH) : Nat → hmH
  | 0 => H
  | k + 1 => hmPair O (hmPairs O H k) ((hmLine H).getD (2 * k) 0) ((hmLine H).getD (2 * k + 1) 0) ((hmLine H)[2 * k + 2]?)
theorem hmPairs_line (O : hmO) (H : hmH) (k : Nat) : hmLine (hmPairs O H k) = hmLine H := by
  induction k with
  | zero => rfl
  | succ k ih => exact ih
theorem hmPairs_held (O : hmO) (H : hmH) (k : Nat) : hmHeld (hmPairs O H k) = hmHeld H := by
  induction k with
  | zero => rfl
  | succ k ih => exact ih
theorem hmPairs_set (O : hmO) (H : hmH) (k : Nat) : hmSet (hmPairs O H k) = hmSet H := by
  induction k with
  | zero => rfl
  | succ k ih => exact ih
theorem hmPairs_tak (O : hmO) (H : hmH) (k : Nat) : hmTak (hmPairs O H k) = hmTak H := by
  induction k with
  | zero => rfl
  | succ k ih => exact ih
theorem hmPairs_min (O : hmO) (H : hmH) (k : Nat) : hmMin (hmPairs O H k) = hmMin H := by
  induction k with
  | zero => rfl
  | succ k ih => exact ih
def hmHelped (O : hmO) (has : Nat → Int32) (w : Nat) : Bool := hmBit (has w) (hmTr O w)
def hmSettle (O : hmO) (H : hmH) : hmH :=
  ((hmLine H).filter (fun w => !hmHelped O (hmHas H) w), hmHas H, fun w => if w ∈ hmLine H ∧ hmHelped O (hmHas H) w = true then 0 else hmHeld H w, hmTalk H, ((hmLine H).filter (hmHelped O (hmHas H))).foldl (fun s w => s ||| hmOne w) (hmSet H), hmTak H, hmMin H)
def hmStays (O : hmO) (held : Nat → Nat) (w : Nat) : Bool := decide (held w + 1 < hmHo O w)
def hmHold (O : hmO) (H : hmH) : hmH :=
  ((hmLine H).filter (hmStays O (hmHeld H)), hmHas H, fun w => if w ∈ hmLine H then (if hmStays O (hmHeld H) w = true then hmHeld H w + 1 else 0) else hmHeld H w, hmTalk H, hmSet H, hmTak H, hmMin H)
def hmTick (H : hmH) : hmH := (hmLine H, hmHas H, hmHeld H, hmTalk H, hmSet H, hmTak H, hmMin H + 1)
def hmTake (O : hmO) (H : hmH) (w : Nat) : hmH :=
  ((hmLine H).erase w, va_up (hmHas H) w (hmHas H w ||| hmOne (hmTr O w)), va_up (hmHeld H) w 0, hmTalk H, hmSet H ||| hmOne w, hmTak H ||| hmOne w, hmMin H)
def hmLast (O : hmO) (tk : Nat) (H : hmH) : hmH := match hmLine H with
  | [] => H
  | w :: _ => if hmMin H % tk = 0 then hmTake O H w else H
def hmMinute (O : hmO) (tk : Nat) (H : hmH) : hmH := hmLast O tk (hmTick (hmHold O (hmSettle O (hmPairs O H ((hmLine H).length / 2)))))
/-- what holds of the halls that come about -/
def hmOk (O : hmO) (H : hmH) : Prop :=
  (hmLine H).Nodup ∧ (∀ w, w ∈ hmLine H → w < hmN O) ∧ (∀ w, w < 6 → hmS10 (hmHas H w)) ∧ hmS6 (hmSet H) ∧ hmS6 (hmTak H) ∧ (∀ w, w ∈ hmLine H → hmHeld H w < hmHo O w) ∧ (∀ w, w ∉ hmLine H → hmHeld H w = 0) ∧ (∀ w, w ∈ hmLine H → hmBit (hmSet H) w = false) ∧ (∀ x y, hmTalk H x y = hmTalk H y x)
