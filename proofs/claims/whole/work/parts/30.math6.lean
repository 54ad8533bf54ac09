/-! what the queries answer -/
def hmIx (v : Int32) : Nat := v.toInt.toNat
theorem hmIx_nI {w : Nat} (h : w < 2 ^ 31) : hmIx (nI w) = w := by
  unfold hmIx
  rw [nI_toInt h]
  rfl
def spCaller (O : hmO) (H : hmH) (v w : Int32) : Int32 :=
  if hmCal (hmN O) v = true then
    (if w = 0 then nI (hmKi O (hmIx v)) else if w = 1 then nI (hmTr O (hmIx v)) else if w = 2 then nI (hmHo O (hmIx v)) else if w = 3 then hmHas H (hmIx v) else if w = 4 then hmB (hmBit (hmSet H) (hmIx v)) else if w = 5 then hmPlc (hmLine H) (hmIx v) else if w = 6 then nI (hmHeld H (hmIx v)) else -2)
  else -2
def hmTwo (n : Nat) (v u : Int32) : Bool := hmCal n v && hmCal n u && decide (¬ v = u)
def spMet (n : Nat) (H : hmH) (v u : Int32) : Int32 := if hmTwo n v u = true then nI (hmTalk H (hmIx v) (hmIx u)) else -1
def spLine (H : hmH) (v : Int32) : Int32 := if hmCal (hmLine H).length v = true then nI ((hmLine H).getD (hmIx v) 0) else -1
def hmOn (n : Nat) (H : hmH) (v : Int32) : Bool := hmCal n v && decide (hmIx v ∈ hmLine H)
def hmPart (p : Nat) : Nat := if p % 2 = 0 then p + 1 else p - 1
def spNext (n : Nat) (H : hmH) (v : Int32) : Int32 := if hmOn n H v = true then (if hmPart ((hmLine H).idxOf (hmIx v)) < (hmLine H).length then nI ((hmLine H).getD (hmPart ((hmLine H).idxOf (hmIx v))) 0) else -1) else -1
def spHolders (n : Nat) (H : hmH) (v : Int32) : Int32 := if hmCal 10 v = true then hmWho (hmHas H) (hmIx v) n else -1
def spHears (O : hmO) (H : hmH) (v u : Int32) : Int32 := if hmTwo (hmN O) v u = true then hmHeard O (hmHas H) (hmHeld H) (hmTalk H (hmIx v) (hmIx u) + 1) (hmIx u) (hmIx v) none else -1
/-- to whom one was put through the most often, the first of equal ones: the number so far, the best so far -/
def hmUs (f : Nat → Nat) : Nat → Nat × Int32
  | 0 => (0, -1)
  | n + 1 => if f n > (hmUs f n).1 then (f n, nI n) else hmUs f n
def spUsual (n : Nat) (H : hmH) (v : Int32) : Int32 := if hmCal n v = true then (hmUs (hmTalk H (hmIx v)) n).2 else -1
def hmKnown (H : hmH) : Int32 := (hmLine H).foldl (fun s w => s ||| hmHas H w) 0
def spLost (O : hmO) (H : hmH) : Int32 := ((hmLine H).filter (fun w => !hmBit (hmKnown H) (hmTr O w))).foldl (fun s w => s ||| hmOne w) 0
/-- who has the most answers: how many he has, who -/
def hmWi (f : Nat → Int32) : Nat → Int32 × Int32
  | 0 => (-1, -1)
  | n + 1 => if (hmWi f n).1 < hmCnt (f n) then (hmCnt (f n), nI n) else hmWi f n
def spWisest (n : Nat) (H : hmH) : Int32 := (hmWi (hmHas H) n).2
theorem hm_part0 : ∀ p, p < 6 → nI p ^^^ 1 = nI (hmPart p) := by decide +kernel
theorem hm_orfold (f : Nat → Int32) (l : List Nat) : ∀ (s : Int32) (k : Nat), (l.foldl (fun s w => s ||| f w) s).toBitVec.getLsbD k = (s.toBitVec.getLsbD k || l.any (fun w => (f w).toBitVec.getLsbD k)) := by
  induction l with
  | nil => intro s k; simp
  | cons u l ih =>
    intro s k
    rw [List.foldl_cons, ih, Int32.toBitVec_or, BitVec.getLsbD_or, List.any_cons, Bool.or_assoc]
theorem hm_orfold_eq {f : Nat → Int32} {l l' : List Nat} {s : Int32} (h : ∀ w, w ∈ l ↔ w ∈ l') : l.foldl (fun s w => s ||| f w) s = l'.foldl (fun s w => s ||| f w) s := by
  apply Int32.toBitVec_inj.mp
  apply BitVec.eq_of_getLsbD_eq
  intro k hk
  rw [hm_orfold, hm_orfold]
  congr 1
  rw [Bool.eq_iff_iff, List.any_eq_true, List.any_eq_true]
  constructor
  · rintro ⟨w, h1, h2⟩
    exact ⟨w, (h w).mp h1, h2⟩
  · rintro ⟨w, h1, h2⟩
    exact ⟨w, (h w).mpr h1, h2⟩
theorem hm_tell_new (O : hmO) (has : Nat → Int32) (held : Nat → Nat) (tm fr to : Nat) (bh : Option Nat) : hmTell O has held tm fr to bh to &&& (has to ^^^ -1) = hmHeard O has held tm fr to bh := by
  have h0 : ∀ x : Int32, x &&& (x ^^^ -1) = 0 := by
    intro x
    apply Int32.toBitVec_inj.mp
    simp only [Int32.toBitVec_and, Int32.toBitVec_xor]
    have e : (-1 : Int32).toBitVec = BitVec.allOnes 32 := by decide
    rw [e]
    ext i hi
    simp only [BitVec.getElem_and, BitVec.getElem_xor, BitVec.getElem_allOnes, Int32.toBitVec_zero, BitVec.getElem_zero]
    cases x.toBitVec[i] <;> rfl
  have h1 : ∀ x s : Int32, (x ||| s) &&& (x ^^^ -1) = s &&& (x ^^^ -1) := by
    intro x s
    apply Int32.toBitVec_inj.mp
    simp only [Int32.toBitVec_or, Int32.toBitVec_and, Int32.toBitVec_xor]
    have e : (-1 : Int32).toBitVec = BitVec.allOnes 32 := by decide
    rw [e]
    ext i hi
    simp only [BitVec.getElem_or, BitVec.getElem_and, BitVec.getElem_xor, BitVec.getElem_allOnes]
    cases x.toBitVec[i] <;> cases s.toBitVec[i] <;> rfl
  unfold hmTell hmHeard
  by_cases h3 : hmKi O to = 3
  · rw [if_pos (Or.inl h3), if_pos (Or.inr h3), h0]
  · by_cases hl : hmLaw O has held tm fr to = 0
    · rw [if_pos (Or.inr hl), h0]
      split <;> rfl
    · have hr : ¬ (hmKi O to = 3 ∨ hmLaw O has held tm fr to = 0) := fun q => q.elim h3 hl
      rw [if_neg hr, va_up_self, h1]
      by_cases hf : hmSaid O has fr to bh &&& (has to ^^^ -1) = 0
      · rw [if_pos (Or.inl hf), hf]
      · rw [if_neg (fun q => q.elim hf h3), if_neg hl]
