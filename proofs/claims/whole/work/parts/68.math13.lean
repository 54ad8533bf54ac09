/-! the law: kinds of tokens, the reader of a law as the reference has it, what a law's steps come to -/
def wNot : List Nat := [110, 111, 116]
def wAnd : List Nat := [97, 110, 100]
def wOr : List Nat := [111, 114]
def wHeld : List Nat := [104, 101, 108, 100]
def wMet : List Nat := [109, 101, 116]
def wOwn : List Nat := [111, 119, 110]
def wTheirs : List Nat := [116, 104, 101, 105, 114, 115]
def hmKs (c : Nat) : Nat := if c = 40 then 2 else if c = 41 then 3 else if c = 59 then 4 else if c = 43 then 5 else if c = 45 then 6 else if c = 42 then 7 else if c = 60 then 8 else if c = 61 then 9 else 0
def hmKw (l : List Nat) : Nat := if l = wNot then 1 else if l = wAnd then 10 else if l = wOr then 11 else if l = wHeld then 12 else if l = wMet then 13 else if l = wOwn then 14 else if l = wTheirs then 15 else 0
def hmKd (t : hmTok) : Nat := if t.1 = 4 then hmKs (t.2.1.getD 0 0) else if t.1 = 2 then hmKw t.2.1 else if t.1 = 3 then 16 + hmDec t.2.1 else 0
theorem hmKs_le (c : Nat) : hmKs c = 0 ∨ (2 ≤ hmKs c ∧ hmKs c ≤ 9) := by
  unfold hmKs
  repeat' split
  all_goals omega
theorem hmKw_le (l : List Nat) : hmKw l = 0 ∨ hmKw l = 1 ∨ (10 ≤ hmKw l ∧ hmKw l ≤ 15) := by
  unfold hmKw
  repeat' split
  all_goals omega
theorem hmKs_inj {c k : Nat} (hc : hmKs c = k) (hk : k ≠ 0) {x : Nat} (hx : hmKs x = k) : x = c := by
  unfold hmKs at hc hx
  repeat' split at hc
  all_goals (repeat' split at hx)
  all_goals omega
theorem hmKw_inj {l : List Nat} {k : Nat} (hc : hmKw l = k) (hk : k ≠ 0) {x : List Nat} (hx : hmKw x = k) : x = l := by
  unfold hmKw at hc hx
  repeat' split at hc
  all_goals (repeat' split at hx)
  all_goals first | omega | (rename_i h1 h2; rw [h1, h2]) | simp_all
theorem hm_kS {t : hmTok} (ht : hmTkOk t) {c k : Nat} (hc : hmKs c = k) (hk : k ≠ 0) : hmIsS t c = decide (hmKd t = k) := by
  unfold hmIsS
  apply decide_eq_decide.mpr
  by_cases h4 : t.1 = 4
  · obtain ⟨x, hx, h8⟩ := ht.2.2.1 h4
    have e : hmKd t = hmKs x := by
      unfold hmKd
      rw [if_pos h4, hx]
      rfl
    rw [e, hx]
    constructor
    · intro q
      have q2 := q.2
      simp only [List.cons.injEq, and_true] at q2
      rw [q2]
      exact hc
    · intro q
      rw [hmKs_inj hc hk q]
      exact ⟨h4, rfl⟩
  · constructor
    · intro q
      exact absurd q.1 h4
    · intro q
      exfalso
      have hb := hmKs_le c
      unfold hmKd at q
      rw [if_neg h4] at q
      by_cases h2 : t.1 = 2
      · rw [if_pos h2] at q
        have := hmKw_le t.2.1
        omega
      · rw [if_neg h2] at q
        by_cases h3 : t.1 = 3
        · rw [if_pos h3] at q
          omega
        · rw [if_neg h3] at q
          omega
theorem hm_kW {t : hmTok} (ht : hmTkOk t) {l : List Nat} {k : Nat} (hc : hmKw l = k) (hk : k ≠ 0) : hmIsW t l = decide (hmKd t = k) := by
  unfold hmIsW
  apply decide_eq_decide.mpr
  by_cases h2 : t.1 = 2
  · have e : hmKd t = hmKw t.2.1 := by
      unfold hmKd
      rw [if_neg (by omega), if_pos h2]
    rw [e]
    constructor
    · intro q
      rw [q.2]
      exact hc
    · intro q
      exact ⟨h2, hmKw_inj hc hk q⟩
  · constructor
    · intro q
      exact absurd q.1 h2
    · intro q
      exfalso
      have hb := hmKw_le l
      unfold hmKd at q
      by_cases h4 : t.1 = 4
      · rw [if_pos h4] at q
        have := hmKs_le (t.2.1.getD 0 0)
        omega
      · rw [if_neg h4, if_neg h2] at q
        by_cases h3 : t.1 = 3
        · rw [if_pos h3] at q
          omega
        · rw [if_neg h3] at q
          omega
theorem hm_kN {t : hmTok} : (t.1 = 3 ↔ 16 ≤ hmKd t) ∧ (t.1 = 3 → hmKd t = 16 + hmDec t.2.1) := by
  unfold hmKd
  by_cases h4 : t.1 = 4
  · rw [if_pos h4]
    have := hmKs_le (t.2.1.getD 0 0)
    omega
  · rw [if_neg h4]
    by_cases h2 : t.1 = 2
    · rw [if_pos h2]
      have := hmKw_le t.2.1
      omega
    · rw [if_neg h2]
      by_cases h3 : t.1 = 3
      · rw [if_pos h3]
        omega
      · rw [if_neg h3]
        omega
theorem hm_k0 {t : hmTok} (h : t.1 = 0) : hmKd t = 0 := by
  unfold hmKd
  rw [if_neg (by omega), if_neg (by omega), if_neg (by omega)]
/-- a value's code, its step -/
def hmVc (k : Nat) : Int32 := if k < 16 then nI (k - 11) else nI (100 + (k - 16))
def hmVp (k : Nat) : Int32 := if k = 12 then -1 else if k = 13 then -2 else if k = 14 then -3 else if k = 15 then -4 else nI (k - 16)
abbrev hmLv : Type := List (Nat × Bool)
def hmPn : hmLv → hmLv
  | [] => []
  | (x, c) :: r => if x = 1 then hmPn r else (x, c) :: r
def hmCm1 (lv : hmLv) : Bool := match lv with
  | [] => false
  | (_, c) :: _ => c
def hmSc (b : Bool) (lv : hmLv) : hmLv := match lv with
  | [] => []
  | (x, _) :: r => (x, b) :: r
def hmLm : List hmTok → Bool → hmLv → List Int32 → Nat ⊕ (List Int32 × List hmTok)
  | [], _, _, _ => .inl 0
  | t :: r, true, lv, cs =>
    if hmKd t = 0 ∨ (3 ≤ hmKd t ∧ hmKd t ≤ 11) then .inl (1 + 16 * t.2.2)
    else if lv.length = 6 then .inl (5 + 16 * t.2.2)
    else if hmKd t = 1 then hmLm r true ((1, false) :: lv) (cs ++ [30])
    else if hmKd t = 2 then hmLm r true ((2, false) :: lv) (cs ++ [28])
    else hmLm r false (hmPn lv) (cs ++ [hmVc (hmKd t)])
  | t :: r, false, lv, cs =>
    if hmKd t = 5 ∨ hmKd t = 6 ∨ hmKd t = 7 then hmLm r true lv (cs ++ [if hmKd t = 5 then 20 else if hmKd t = 6 then 21 else 22])
    else if (hmKd t = 8 ∨ hmKd t = 9) ∧ hmCm1 lv = false then hmLm r true (hmSc true lv) (cs ++ [if hmKd t = 8 then 24 else 25])
    else if hmKd t = 10 ∨ hmKd t = 11 then hmLm r true (hmSc false lv) (cs ++ [if hmKd t = 10 then 26 else 27])
    else if hmKd t = 3 ∧ 1 < lv.length then hmLm r false (hmPn lv.tail) (cs ++ [29])
    else if lv.length = 1 ∧ hmKd t = 4 then .inr (cs, r)
    else .inl (1 + 16 * t.2.2)
/-- the rows agree below d -/
def hmAg (d : Nat) (k k' : hmW9) : Prop := ∀ j, j < d → hmKept k j = hmKept k' j ∧ hmKeptBy k j = hmKeptBy k' j ∧ hmAhead k j = hmAhead k' j ∧ hmAgst k j = hmAgst k' j ∧ hmSum k j = hmSum k' j ∧ hmSumBy k j = hmSumBy k' j ∧ hmTerm k j = hmTerm k' j ∧ hmTermBy k j = hmTermBy k' j ∧ hmByNot k j = hmByNot k' j
theorem hmAg.rf {d : Nat} {k : hmW9} : hmAg d k k := fun _ _ => ⟨rfl, rfl, rfl, rfl, rfl, rfl, rfl, rfl, rfl⟩
theorem hmAg.tr {d : Nat} {k k' k'' : hmW9} (h1 : hmAg d k k') (h2 : hmAg d k' k'') : hmAg d k k'' := fun j hj => by
  obtain ⟨a1, a2, a3, a4, a5, a6, a7, a8, a9⟩ := h1 j hj
  obtain ⟨b1, b2, b3, b4, b5, b6, b7, b8, b9⟩ := h2 j hj
  exact ⟨a1.trans b1, a2.trans b2, a3.trans b3, a4.trans b4, a5.trans b5, a6.trans b6, a7.trans b7, a8.trans b8, a9.trans b9⟩
theorem hmAg.lt {d e : Nat} {k k' : hmW9} (h : hmAg d k k') (he : e ≤ d) : hmAg e k k' := fun j hj => h j (by omega)
/-- a run of the working over some codes, its depth within -/
def hmRn (h m o t : Int32) (s : Nat × hmW9) (c : List Int32) (s' : Nat × hmW9) : Prop := c.foldl (hmWstep h m o t) s = s' ∧ ∀ i, i < c.length → ((c.take i).foldl (hmWstep h m o t) s).1 ≤ 5 ∧ (c.getD i 0 = 29 → 1 ≤ ((c.take i).foldl (hmWstep h m o t) s).1)
theorem hmRn.app {h m o t : Int32} {s s1 s2 : Nat × hmW9} {c1 c2 : List Int32} (a : hmRn h m o t s c1 s1) (b : hmRn h m o t s1 c2 s2) : hmRn h m o t s (c1 ++ c2) s2 := by
  refine ⟨by rw [List.foldl_append, a.1]; exact b.1, fun i hi => ?_⟩
  by_cases hc : i < c1.length
  · have e1 : (c1 ++ c2).take i = c1.take i := List.take_append_of_le_length (by omega)
    have e2 : (c1 ++ c2).getD i 0 = c1.getD i 0 := by simp [List.getElem?_append_left hc]
    rw [e1, e2]
    exact a.2 i hc
  · rw [List.length_append] at hi
    have e1 : (c1 ++ c2).take i = c1 ++ c2.take (i - c1.length) := by
      rw [List.take_append]
      rw [List.take_of_length_le (by omega)]
    have e2 : (c1 ++ c2).getD i 0 = c2.getD (i - c1.length) 0 := by simp [List.getElem?_append_right (show c1.length ≤ i by omega)]
    rw [e1, e2, List.foldl_append, a.1]
    exact b.2 (i - c1.length) (by omega)
theorem hmRn.one {h m o t : Int32} {s : Nat × hmW9} {c : Int32} (h1 : s.1 ≤ 5) (h2 : c = 29 → 1 ≤ s.1) : hmRn h m o t s [c] (hmWstep h m o t s c) := by
  refine ⟨rfl, fun i hi => ?_⟩
  have e : i = 0 := by simpa using hi
  subst e
  exact ⟨h1, h2⟩
/-- the height of the steps' stack -/
def hmHq (b : Nat) (cp : List Int32) : Prop := ∀ k r, k + b ≤ 32 → hmHi (cp ++ r) k = hmHi r (k + 1)
/-- a level at work: none of its own nots -/
def hmRl (k : hmW9) (d : Nat) : Prop := d = 0 ∨ ¬ hmByNot k d = 1
def hmSP (d : Nat) (ci cp : List Int32) : Prop := d ≤ 4 ∧ (∀ x, x ∈ ci → hmCod x) ∧ hmHq (1 + 4 * (4 - d)) cp ∧ ∀ h m o t : Int32, ∃ v, (∀ st, cp.foldl (hmStep h m o t) st = v :: st) ∧ ∀ k, ∃ k', hmRn h m o t (d, k) ci (hmVal k' d v) ∧ hmAg (d + 1) k' k
def hmSX (d : Nat) (ci cp : List Int32) : Prop := d ≤ 4 ∧ (∀ x, x ∈ ci → hmCod x) ∧ hmHq (2 + 4 * (4 - d)) cp ∧ ∀ h m o t : Int32, ∃ v, (∀ st, cp.foldl (hmStep h m o t) st = v :: st) ∧ ∀ k, hmRl k d → hmTermBy k d = 0 → ∃ k', hmRn h m o t (d, k) ci (d, k') ∧ hmAg d k' k ∧ hmTerm k' d = v ∧ hmSum k' d = hmSum k d ∧ hmSumBy k' d = hmSumBy k d ∧ hmAhead k' d = hmAhead k d ∧ hmAgst k' d = hmAgst k d ∧ hmKept k' d = hmKept k d ∧ hmKeptBy k' d = hmKeptBy k d ∧ hmByNot k' d = hmByNot k d
def hmSS (d : Nat) (ci cp : List Int32) : Prop := d ≤ 4 ∧ (∀ x, x ∈ ci → hmCod x) ∧ hmHq (3 + 4 * (4 - d)) cp ∧ ∀ h m o t : Int32, ∃ v, (∀ st, cp.foldl (hmStep h m o t) st = v :: st) ∧ ∀ k, hmRl k d → hmTermBy k d = 0 → hmSum k d = 0 → hmSumBy k d = 20 → ∃ k', hmRn h m o t (d, k) ci (d, k') ∧ hmAg d k' k ∧ hmSumV k' d = v ∧ hmAhead k' d = hmAhead k d ∧ hmAgst k' d = hmAgst k d ∧ hmKept k' d = hmKept k d ∧ hmKeptBy k' d = hmKeptBy k d ∧ hmByNot k' d = hmByNot k d
def hmST (d : Nat) (ci cp : List Int32) : Prop := d ≤ 4 ∧ (∀ x, x ∈ ci → hmCod x) ∧ hmHq (4 + 4 * (4 - d)) cp ∧ ∀ h m o t : Int32, ∃ v, (∀ st, cp.foldl (hmStep h m o t) st = v :: st) ∧ ∀ k, hmRl k d → hmTermBy k d = 0 → hmSum k d = 0 → hmSumBy k d = 20 → hmAgst k d = 0 → ∃ k', hmRn h m o t (d, k) ci (d, k') ∧ hmAg d k' k ∧ hmCmpV (hmSums k' d) d = v ∧ hmKept k' d = hmKept k d ∧ hmKeptBy k' d = hmKeptBy k d ∧ hmByNot k' d = hmByNot k d
def hmSW (d : Nat) (ci cp : List Int32) : Prop := d ≤ 4 ∧ (∀ x, x ∈ ci → hmCod x) ∧ hmHq (5 + 4 * (4 - d)) cp ∧ ∀ h m o t : Int32, ∃ v, (∀ st, cp.foldl (hmStep h m o t) st = v :: st) ∧ ∀ k, hmRl k d → hmTermBy k d = 0 → hmSum k d = 0 → hmSumBy k d = 20 → hmAgst k d = 0 → hmKeptBy k d = 0 → ∃ k', hmRn h m o t (d, k) ci (d, k') ∧ hmAg d k' k ∧ hmKept (hmTests k' d) d = v ∧ hmByNot k' d = hmByNot k d
theorem hmVal_rl {k : hmW9} {d : Nat} (h : hmRl k d) (v : Int32) : hmVal k d v = (d, hmPutT k d v) := by
  cases d with
  | zero => rfl
  | succ d =>
    unfold hmVal
    rw [if_neg (h.resolve_left (by omega))]
theorem hmPutT_ag {k : hmW9} {d : Nat} {v : Int32} : hmAg d (hmPutT k d v) k := fun j hj => ⟨rfl, rfl, rfl, rfl, rfl, rfl, va_up_ne _ _ (by omega), rfl, rfl⟩
theorem hmHq_lt {a b : Nat} {cp : List Int32} (h : hmHq a cp) (hab : a ≤ b) : hmHq b cp := fun k r hk => h k r (by omega)
theorem hmHq_two {a b : Nat} {c1 c2 : List Int32} {s : Int32} (h1 : hmHq a c1) (h2 : hmHq b c2) (hs : s < -5) (hs2 : ¬ s < -12) (ha : a ≤ b + 1) : hmHq (b + 1) (c1 ++ c2 ++ [s]) := fun k r hk => by
  rw [List.append_assoc, List.append_assoc, h1 k _ (by omega), h2 (k + 1) _ (by omega)]
  have e : hmHi (s :: r) (k + 1 + 1) = if s < -12 then none else if s < -5 then (if 2 ≤ k + 1 + 1 then hmHi r (k + 1 + 1 - 1) else none) else if s = -5 then (if 1 ≤ k + 1 + 1 then hmHi r (k + 1 + 1) else none) else (if k + 1 + 1 + 1 ≤ 32 then hmHi r (k + 1 + 1 + 1) else none) := rfl
  show hmHi (s :: r) (k + 1 + 1) = _
  rw [e, if_neg hs2, if_pos hs, if_pos (by omega), show k + 1 + 1 - 1 = k + 1 by omega]
theorem hmSP_SX {d : Nat} {ci cp : List Int32} (h : hmSP d ci cp) : hmSX d ci cp := by
  obtain ⟨h1, h2, h3, h4⟩ := h
  refine ⟨h1, h2, hmHq_lt h3 (by omega), fun hh m o t => ?_⟩
  obtain ⟨v, e1, e2⟩ := h4 hh m o t
  refine ⟨v, e1, fun k hl htb => ?_⟩
  obtain ⟨k', r1, r2⟩ := e2 k
  obtain ⟨a1, a2, a3, a4, a5, a6, a7, a8, a9⟩ := r2 d (by omega)
  have hl' : hmRl k' d := hl.elim Or.inl (fun q => Or.inr (by rw [a9]; exact q))
  rw [hmVal_rl hl'] at r1
  refine ⟨hmPutT k' d v, r1, hmPutT_ag.tr (r2.lt (by omega)), ?_, a5, a6, a3, a4, a1, a2, a9⟩
  show va_up (hmTerm k') d (hmTermV k' d v) d = v
  rw [va_up_self]
  unfold hmTermV
  rw [if_pos (a8.trans htb)]
