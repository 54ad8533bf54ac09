/-! the reference's working of a law: nine rows by depth -/
abbrev hmW9 : Type := (Nat → Int32) × (Nat → Int32) × (Nat → Int32) × (Nat → Int32) × (Nat → Int32) × (Nat → Int32) × (Nat → Int32) × (Nat → Int32) × (Nat → Int32)
def hmKept (k : hmW9) := k.1
def hmKeptBy (k : hmW9) := k.2.1
def hmAhead (k : hmW9) := k.2.2.1
def hmAgst (k : hmW9) := k.2.2.2.1
def hmSum (k : hmW9) := k.2.2.2.2.1
def hmSumBy (k : hmW9) := k.2.2.2.2.2.1
def hmTerm (k : hmW9) := k.2.2.2.2.2.2.1
def hmTermBy (k : hmW9) := k.2.2.2.2.2.2.2.1
def hmByNot (k : hmW9) := k.2.2.2.2.2.2.2.2
def hmK (I : xI) (m : Nat) : hmW9 := (I (m + 13), I (m + 14), I (m + 15), I (m + 16), I (m + 17), I (m + 18), I (m + 19), I (m + 20), I (m + 21))
theorem hmK_eq {I : xI} {m : Nat} {a0 a1 a2 a3 a4 a5 a6 a7 a8 : Nat → Int32} (e0 : I (m + 13) = a0) (e1 : I (m + 14) = a1) (e2 : I (m + 15) = a2) (e3 : I (m + 16) = a3) (e4 : I (m + 17) = a4) (e5 : I (m + 18) = a5) (e6 : I (m + 19) = a6) (e7 : I (m + 20) = a7) (e8 : I (m + 21) = a8) : hmK I m = (a0, a1, a2, a3, a4, a5, a6, a7, a8) := by
  subst e0; subst e1; subst e2; subst e3; subst e4; subst e5; subst e6; subst e7; subst e8
  rfl
def hmOpens (k : hmW9) (d : Nat) : hmW9 := (hmKept k, va_up (hmKeptBy k) d 0, hmAhead k, va_up (hmAgst k) d 0, va_up (hmSum k) d 0, va_up (hmSumBy k) d 20, hmTerm k, va_up (hmTermBy k) d 0, hmByNot k)
def hmSumV (k : hmW9) (d : Nat) : Int32 := if hmSumBy k d = 21 then hmSum k d - hmTerm k d else hmSum k d + hmTerm k d
def hmSums (k : hmW9) (d : Nat) : hmW9 := (hmKept k, hmKeptBy k, hmAhead k, hmAgst k, va_up (hmSum k) d (hmSumV k d), hmSumBy k, hmTerm k, va_up (hmTermBy k) d 0, hmByNot k)
def hmCmpV (k : hmW9) (d : Nat) : Int32 := if hmAgst k d = 24 then (if hmAhead k d < hmSum k d then 1 else 0) else if hmAgst k d = 25 then (if hmAhead k d = hmSum k d then 1 else 0) else hmSum k d
def hmJoinV (k : hmW9) (d : Nat) (v : Int32) : Int32 := if hmKeptBy k d = 26 then (if ¬ hmKept k d = 0 ∧ ¬ v = 0 then 1 else 0) else if hmKeptBy k d = 27 then (if ¬ hmKept k d = 0 ∨ ¬ v = 0 then 1 else 0) else v
def hmTests2 (k : hmW9) (d : Nat) : hmW9 := (va_up (hmKept k) d (hmJoinV k d (hmCmpV k d)), hmKeptBy k, hmAhead k, va_up (hmAgst k) d 0, va_up (hmSum k) d 0, va_up (hmSumBy k) d 20, hmTerm k, hmTermBy k, hmByNot k)
def hmTests (k : hmW9) (d : Nat) : hmW9 := hmTests2 (hmSums k d) d
def hmTermV (k : hmW9) (d : Nat) (v : Int32) : Int32 := if hmTermBy k d = 0 then v else hmTerm k d * v
def hmPutT (k : hmW9) (d : Nat) (v : Int32) : hmW9 := (hmKept k, hmKeptBy k, hmAhead k, hmAgst k, hmSum k, hmSumBy k, va_up (hmTerm k) d (hmTermV k d v), hmTermBy k, hmByNot k)
/-- a value comes: the nots above it first -/
def hmVal (k : hmW9) : Nat → Int32 → Nat × hmW9
  | 0, v => (0, hmPutT k 0 v)
  | d + 1, v => if hmByNot k (d + 1) = 1 then hmVal k d (if v = 0 then 1 else 0) else (d + 1, hmPutT k (d + 1) v)
def hmFct (h m o t c : Int32) : Int32 := if c = 1 then h else if c = 2 then m else if c = 3 then o else t
def hmWstep (h m o t : Int32) (s : Nat × hmW9) (c : Int32) : Nat × hmW9 :=
  if c = 28 ∨ c = 30 then (s.1 + 1, hmOpens (hmKept s.2, hmKeptBy s.2, hmAhead s.2, hmAgst s.2, hmSum s.2, hmSumBy s.2, hmTerm s.2, hmTermBy s.2, va_up (hmByNot s.2) (s.1 + 1) (if c = 30 then 1 else 0)) (s.1 + 1))
  else if c = 20 ∨ c = 21 then (s.1, (hmKept (hmSums s.2 s.1), hmKeptBy (hmSums s.2 s.1), hmAhead (hmSums s.2 s.1), hmAgst (hmSums s.2 s.1), hmSum (hmSums s.2 s.1), va_up (hmSumBy (hmSums s.2 s.1)) s.1 c, hmTerm (hmSums s.2 s.1), hmTermBy (hmSums s.2 s.1), hmByNot (hmSums s.2 s.1)))
  else if c = 22 then (s.1, (hmKept s.2, hmKeptBy s.2, hmAhead s.2, hmAgst s.2, hmSum s.2, hmSumBy s.2, hmTerm s.2, va_up (hmTermBy s.2) s.1 c, hmByNot s.2))
  else if c = 24 ∨ c = 25 then (s.1, (hmKept (hmSums s.2 s.1), hmKeptBy (hmSums s.2 s.1), va_up (hmAhead (hmSums s.2 s.1)) s.1 (hmSum (hmSums s.2 s.1) s.1), va_up (hmAgst (hmSums s.2 s.1)) s.1 c, va_up (hmSum (hmSums s.2 s.1)) s.1 0, va_up (hmSumBy (hmSums s.2 s.1)) s.1 20, hmTerm (hmSums s.2 s.1), hmTermBy (hmSums s.2 s.1), hmByNot (hmSums s.2 s.1)))
  else if c = 26 ∨ c = 27 then (s.1, (hmKept (hmTests s.2 s.1), va_up (hmKeptBy (hmTests s.2 s.1)) s.1 c, hmAhead (hmTests s.2 s.1), hmAgst (hmTests s.2 s.1), hmSum (hmTests s.2 s.1), hmSumBy (hmTests s.2 s.1), hmTerm (hmTests s.2 s.1), hmTermBy (hmTests s.2 s.1), hmByNot (hmTests s.2 s.1)))
  else if c = 29 then hmVal (hmTests s.2 s.1) (s.1 - 1) (hmKept (hmTests s.2 s.1) s.1)
  else hmVal s.2 s.1 (if c < 100 then hmFct h m o t c else c - 100)
/-- the codes that there are -/
def hmCod (c : Int32) : Prop := c = 1 ∨ c = 2 ∨ c = 3 ∨ c = 4 ∨ c = 20 ∨ c = 21 ∨ c = 22 ∨ c = 24 ∨ c = 25 ∨ c = 26 ∨ c = 27 ∨ c = 28 ∨ c = 29 ∨ c = 30 ∨ ∃ n : Nat, n < 10000 ∧ c = nI (100 + n)
def hmWk (c : List Int32) (k0 : hmW9) (h m o t : Int32) : Int32 := hmKept (hmTests (c.foldl (hmWstep h m o t) (0, hmOpens k0 0)).2 0) 0
/-- the depth stays within -/
def hmWok (c : List Int32) (k0 : hmW9) (h m o t : Int32) : Prop :=
  (∀ x, x ∈ c → hmCod x) ∧ ∀ i, i < c.length → ((c.take i).foldl (hmWstep h m o t) (0, hmOpens k0 0)).1 ≤ 5 ∧ (c.getD i 0 = 29 → 1 ≤ ((c.take i).foldl (hmWstep h m o t) (0, hmOpens k0 0)).1)
def hmFw (m : Nat) (I I' : xI) : Prop := ∀ x, ¬ (m + 13 ≤ x ∧ x < m + 22) → I' x = I x
theorem hmFw.rf {m : Nat} {I : xI} : hmFw m I I := fun _ _ => rfl
theorem hmFw.tr {m : Nat} {I J K : xI} (h1 : hmFw m I J) (h2 : hmFw m J K) : hmFw m I K := fun x hx => (h2 x hx).trans (h1 x hx)
theorem hmFw.up {m : Nat} {I J : xI} {a : Nat} {r : Nat → Int32} (h : hmFw m I J) (ha : m + 13 ≤ a ∧ a < m + 22) : hmFw m I (va_up J a r) := fun x hx => by
  have hxa : x ≠ a := fun q => hx (by rw [q]; exact ha)
  rw [va_up_ne _ _ hxa]
  exact h x hx
