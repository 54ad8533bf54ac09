/-! the mathematical state: what the class and the reference both mean -/
/-- a hall: line, answers, minutes held, how often put through, settled, taken up, minute -/
abbrev hmH : Type := List Nat × (Nat → Int32) × (Nat → Nat) × (Nat → Nat → Nat) × Int32 × Int32 × Nat
def hmLine (H : hmH) : List Nat := H.1
def hmHas (H : hmH) : Nat → Int32 := H.2.1
def hmHeld (H : hmH) : Nat → Nat := H.2.2.1
def hmTalk (H : hmH) : Nat → Nat → Nat := H.2.2.2.1
def hmSet (H : hmH) : Int32 := H.2.2.2.2.1
def hmTak (H : hmH) : Int32 := H.2.2.2.2.2.1
def hmMin (H : hmH) : Nat := H.2.2.2.2.2.2
/-- the rows of a hall that is H: its fields, answers, minutes held, line, talks -/
def hmRow (H : hmH) (r0 r1 r2 r3 r4 : Nat → Int32) : Prop :=
  (hmLine H).length ≤ 6 ∧ r0 4 = nI (hmLine H).length ∧ r0 5 = hmSet H ∧ r0 6 = hmTak H ∧ r0 7 = nI (hmMin H) ∧
  (∀ i, i < (hmLine H).length → r3 i = nI ((hmLine H).getD i 0)) ∧ (∀ w, w < 6 → r1 w = hmHas H w) ∧ (∀ w, w < 6 → r2 w = nI (hmHeld H w)) ∧
  (∀ x, x < 6 → ∀ y, y < 6 → r4 (x * 6 + y) = nI (hmTalk H x y))
/-- the hall at a is H -/
def hmR (I : xI) (a : Nat) (H : hmH) : Prop := hmRow H (I a) (I (a + 1)) (I (a + 2)) (I (a + 3)) (I (a + 4))
theorem hmR_mk {I : xI} {a : Nat} {H : hmH} {r0 r1 r2 r3 r4 : Nat → Int32} (e0 : I a = r0) (e1 : I (a + 1) = r1) (e2 : I (a + 2) = r2) (e3 : I (a + 3) = r3) (e4 : I (a + 4) = r4) (h : hmRow H r0 r1 r2 r3 r4) : hmR I a H := by
  subst e0; subst e1; subst e2; subst e3; subst e4
  exact h
theorem va_up_id {α : Type} (f : Nat → α) (a : Nat) : va_up f a (f a) = f := by
  funext y
  by_cases hy : y = a
  · subst hy; simp [va_up]
  · simp [va_up, hy]
/-- outside of some rows nothing has changed -/
def hmFr (P : Nat → Prop) (I I' : xI) : Prop := ∀ x, ¬ P x → I' x = I x
def hmIn (a k : Nat) : Nat → Prop := fun x => a ≤ x ∧ x < a + k
theorem hmFr.rf {P : Nat → Prop} {I : xI} : hmFr P I I := fun _ _ => rfl
theorem hmFr.tr {P : Nat → Prop} {I J K : xI} (h1 : hmFr P I J) (h2 : hmFr P J K) : hmFr P I K := fun x hx => (h2 x hx).trans (h1 x hx)
theorem hmFr.mono {P P' : Nat → Prop} {I J : xI} (h : hmFr P I J) (hp : ∀ x, P x → P' x) : hmFr P' I J := fun x hx => h x (fun q => hx (hp x q))
theorem hmFr.up {P : Nat → Prop} {I J : xI} {a : Nat} {r : Nat → Int32} (h : hmFr P I J) (ha : P a) : hmFr P I (va_up J a r) := fun x hx => by
  have hxa : x ≠ a := fun q => hx (by rw [q]; exact ha)
  rw [va_up_ne _ _ hxa]
  exact h x hx
theorem hmR.kept {I I' : xI} {a : Nat} {H : hmH} (h : hmR I a H) (hf : ∀ x, a ≤ x → x < a + 5 → I' x = I x) : hmR I' a H := by
  unfold hmR at h ⊢
  rw [hf a (by omega) (by omega), hf (a + 1) (by omega) (by omega), hf (a + 2) (by omega) (by omega), hf (a + 3) (by omega) (by omega), hf (a + 4) (by omega) (by omega)]
  exact h
/-- the place of one on the line, or -1 -/
def hmPlc (l : List Nat) (w : Nat) : Int32 := if w ∈ l then nI (l.idxOf w) else -1
def hmBit (x : Int32) (k : Nat) : Bool := (x >>> (nI k &&& 31)) &&& 1 == 1
def hmB (b : Bool) : Int32 := if b then 1 else 0
def hmOne (w : Nat) : Int32 := 1 <<< (nI w &&& 31)
def hmBits (l : List Nat) : Int32 := l.foldl (fun b w => b ||| hmOne w) 0
theorem hmPlc_ne {l : List Nat} {w : Nat} (hl : l.length ≤ 1000) : (hmPlc l w = -1 ↔ w ∉ l) := by
  unfold hmPlc
  by_cases h : w ∈ l
  · have h1 := List.idxOf_lt_length_of_mem h
    simp only [h, if_true, not_true, iff_false]
    intro q
    have h2 := congrArg Int32.toInt q
    rw [nI_toInt (by omega)] at h2
    have h3 : (-1 : Int32).toInt = -1 := by decide
    omega
  · simp [h]
theorem hmB_nar (b : Bool) : narrow .boolean (.int (hmB b)) = .int (hmB b) := by cases b <;> decide
theorem hmB_1 (b : Bool) : (hmB b = 1 ↔ b = true) := by cases b <;> simp [hmB]
theorem hmB_0 (b : Bool) : (hmB b = 0 ↔ b = false) := by cases b <;> simp [hmB]
theorem hmBit_1 {x : Int32} {k : Nat} : (hmBit x k = true ↔ (x >>> (nI k &&& 31)) &&& 1 = 1) := by simp [hmBit]
theorem hm_getD_mem {l : List Nat} {i : Nat} (h : i < l.length) : l.getD i 0 ∈ l := by
  rw [List.getD_eq_getElem?_getD, List.getElem?_eq_getElem h]
  exact List.getElem_mem h
/-- an office: how many callers, kinds, troubles, answers known, minutes they hold, takes, the law's steps -/
abbrev hmO : Type := Nat × (Nat → Nat) × (Nat → Nat) × (Nat → Int32) × (Nat → Nat) × Nat × List Int32
def hmN (O : hmO) : Nat := O.1
def hmKi (O : hmO) : Nat → Nat := O.2.1
def hmTr (O : hmO) : Nat → Nat := O.2.2.1
def hmKn (O : hmO) : Nat → Int32 := O.2.2.2.1
def hmHo (O : hmO) : Nat → Nat := O.2.2.2.2.1
def hmTk (O : hmO) : Nat := O.2.2.2.2.2.1
def hmLw (O : hmO) : List Int32 := O.2.2.2.2.2.2
/-- the steps of a law: one on the stack (top first) -/
def hmStep (h m o t : Int32) (k : List Int32) (s : Int32) : List Int32 :=
  if s < -4 then
    match k with
    | [] => []
    | r :: k => if s = -5 then (if r = 0 then 1 else 0) :: k else
      match k with
      | [] => [r]
      | q :: k => (if s = -6 then (if ¬ q = 0 ∧ ¬ r = 0 then 1 else 0) else if s = -7 then (if ¬ q = 0 ∨ ¬ r = 0 then 1 else 0) else if s = -8 then (if q < r then 1 else 0) else if s = -9 then (if q = r then 1 else 0) else if s = -10 then q + r else if s = -11 then q - r else q * r) :: k
  else (if s = -1 then h else if s = -2 then m else if s = -3 then o else if s = -4 then t else s) :: k
/-- how high the stack stands behind some steps, if that goes well -/
def hmHi : List Int32 → Nat → Option Nat
  | [], k => some k
  | s :: r, k => if s < -12 then none else if s < -5 then (if 2 ≤ k then hmHi r (k - 1) else none) else if s = -5 then (if 1 ≤ k then hmHi r k else none) else (if k + 1 ≤ 32 then hmHi r (k + 1) else none)
def hmLawV (c : List Int32) (h m o t : Int32) : Int32 := match c.foldl (hmStep h m o t) [] with
  | [] => 1
  | v :: _ => v
def hmS10 (x : Int32) : Prop := ∃ k : Nat, k < 1024 ∧ x = nI k
def hmS6 (x : Int32) : Prop := ∃ k : Nat, k < 64 ∧ x = nI k
def hmOok (O : hmO) : Prop := hmN O ≤ 6 ∧ 1 ≤ hmTk O ∧ hmTk O ≤ 20 ∧ (∀ w, w < hmN O → hmKi O w < 4 ∧ hmTr O w < 10 ∧ hmS10 (hmKn O w) ∧ 1 ≤ hmHo O w ∧ hmHo O w ≤ 30) ∧ (hmLw O).length ≤ 1000 ∧ (hmLw O = [] ∨ hmHi (hmLw O) 0 = some 1)
/-- the desk at dk is O (its names apart) -/
def hmD (I : xI) (dk : Nat) (O : hmO) : Prop := I dk 6 = nI (hmN O) ∧ I dk 7 = nI (hmTk O) ∧ (∀ w, w < hmN O → I (dk + 2) w = nI (hmKi O w) ∧ I (dk + 3) w = nI (hmTr O w) ∧ I (dk + 4) w = hmKn O w ∧ I (dk + 5) w = nI (hmHo O w)) ∧ I (dk + 6) 2 = nI (hmLw O).length ∧ ∀ i, i < (hmLw O).length → I (dk + 7) i = (hmLw O).getD i 0
theorem hmD.kept {I I' : xI} {dk : Nat} {O : hmO} (h : hmD I dk O) (hf : ∀ x, dk ≤ x → x < dk + 8 → I' x = I x) : hmD I' dk O := by
  unfold hmD at h ⊢
  rw [hf dk (by omega) (by omega), hf (dk + 2) (by omega) (by omega), hf (dk + 3) (by omega) (by omega), hf (dk + 4) (by omega) (by omega), hf (dk + 5) (by omega) (by omega), hf (dk + 6) (by omega) (by omega), hf (dk + 7) (by omega) (by omega)]
  exact h
def hmCntF (x : Int32) : Nat → Int32
  | 0 => 0
  | k + 1 => hmCntF x k + ((x >>> (nI k &&& 31)) &&& 1)
def hmCnt (x : Int32) : Int32 := hmCntF x 10
def hmCome (H : hmH) (w : Nat) : hmH := (hmLine H ++ [w], hmHas H, va_up (hmHeld H) w 0, hmTalk H, hmSet H, hmTak H, hmMin H)
def hmLeave (H : hmH) (w : Nat) : hmH := if w ∈ hmLine H then ((hmLine H).erase w, hmHas H, va_up (hmHeld H) w 0, hmTalk H, hmSet H, hmTak H, hmMin H) else H
def hmSw (x y z : Nat) : Nat := if z = x then y else if z = y then x else z
def hmSwap (H : hmH) (x y : Nat) : hmH := if x ∈ hmLine H ∧ y ∈ hmLine H then ((hmLine H).map (hmSw x y), hmHas H, hmHeld H, hmTalk H, hmSet H, hmTak H, hmMin H) else H
def hmStand (H : hmH) (l : List Nat) : hmH := (l, hmHas H, hmHeld H, hmTalk H, hmSet H, hmTak H, hmMin H)
def hmBegin (O : hmO) : hmH := ([], fun w => if w < hmN O then hmKn O w else 0, fun _ => 0, fun _ _ => 0, 0, 0, 0)
def hmWho (f : Nat → Int32) (k : Nat) : Nat → Int32
  | 0 => 0
  | n + 1 => hmWho f k n ||| (((f n >>> (nI k &&& 31)) &&& 1) <<< (nI n &&& 31))
def hmAll (f : Nat → Int32) : Nat → Int32
  | 0 => 0
  | n + 1 => hmAll f n + hmCnt (f n)
theorem hm_eraseIdx {l : List Nat} {w : Nat} (h : w ∈ l) : l.erase w = l.eraseIdx (l.idxOf w) := by
  rw [List.erase_eq_eraseIdx_of_idxOf (i := l.idxOf w) rfl]
theorem hm_erase_at {l : List Nat} {w j : Nat} (h : w ∈ l) (hj : j + 1 < l.length) : (l.erase w).getD j 0 = if j < l.idxOf w then l.getD j 0 else l.getD (j + 1) 0 := by
  rw [hm_eraseIdx h]
  simp only [List.getD_eq_getElem?_getD, List.getElem?_eraseIdx]
  split <;> rfl
