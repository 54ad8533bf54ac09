/-! the office and the day, as they are read -/
def wCaller : List Nat := [99, 97, 108, 108, 101, 114]
def wTrouble : List Nat := [116, 114, 111, 117, 98, 108, 101]
def wKnows : List Nat := [107, 110, 111, 119, 115]
def wHolds : List Nat := [104, 111, 108, 100, 115]
def wTakes : List Nat := [116, 97, 107, 101, 115]
def wBelieves : List Nat := [98, 101, 108, 105, 101, 118, 101, 115]
def wRing : List Nat := [114, 105, 110, 103]
def wOff : List Nat := [111, 102, 102]
def wSwap : List Nat := [115, 119, 97, 112]
def wMinute : List Nat := [109, 105, 110, 117, 116, 101]
def wPlain : List Nat := [112, 108, 97, 105, 110]
def wShy : List Nat := [115, 104, 121]
def wGossip : List Nat := [103, 111, 115, 115, 105, 112]
def wDeaf : List Nat := [100, 101, 97, 102]
def hmRes : List (List Nat) := [wCaller, wTrouble, wKnows, wHolds, wTakes, wBelieves, wRing, wOff, wSwap, wMinute, wPlain, wShy, wGossip, wDeaf, wNot, wAnd, wOr]
def hmNm (t : hmTok) : Bool := decide (t.1 = 2 ∧ t.2.1 ∉ hmRes)
def hmKl (l : List Nat) : Option Nat := if l = wPlain then some 0 else if l = wShy then some 1 else if l = wGossip then some 2 else if l = wDeaf then some 3 else none
def hmKk (t : hmTok) : Option Nat := if t.1 = 2 then hmKl t.2.1 else none
def hmBd {A B : Type} (x : Nat ⊕ A) (f : A → Nat ⊕ B) : Nat ⊕ B := match x with
  | .inl F => .inl F
  | .inr a => f a
def hmXw (l : List Nat) (ts : List hmTok) : Nat ⊕ List hmTok := match ts with
  | [] => .inl 0
  | t :: r => if hmIsW t l = true then .inr r else .inl (hmFl 1 t)
def hmXs (c : Nat) (ts : List hmTok) : Nat ⊕ List hmTok := match ts with
  | [] => .inl 0
  | t :: r => if hmIsS t c = true then .inr r else .inl (hmFl 1 t)
def hmXn (lo hi : Nat) (ts : List hmTok) : Nat ⊕ (Nat × List hmTok) := match ts with
  | [] => .inl 0
  | t :: r => if t.1 = 3 then (if hmDec t.2.1 < lo ∨ hi < hmDec t.2.1 then .inl (hmFl 4 t) else .inr (hmDec t.2.1, r)) else .inl (hmFl 1 t)
def hmAn : List hmTok → Nat → Int32 → Nat ⊕ (Int32 × List hmTok)
  | [], _, _ => .inl 0
  | t :: r, many, kn => if t.1 = 3 then (if 9 < hmDec t.2.1 then .inl (hmFl 4 t) else if hmBit kn (hmDec t.2.1) = true then .inl (hmFl 3 t) else if many = 6 then .inl (hmFl 5 t) else hmAn r (many + 1) (kn ||| hmOne (hmDec t.2.1))) else if many = 0 then .inl (hmFl 1 t) else .inr (kn, t :: r)
/-- a caller: name, kind, trouble, answers, minutes -/
abbrev hmCq : Type := List Nat × Nat × Nat × Int32 × Nat
def hmC9 (c : hmCq) (ts : List hmTok) : Nat ⊕ (hmCq × List hmTok) := hmBd (hmXs 59 ts) (fun r => .inr (c, r))
def hmC8 (nm : List Nat) (k tr : Nat) (kn : Int32) (ts : List hmTok) : Nat ⊕ (hmCq × List hmTok) := hmBd (hmXn 1 30 ts) (fun p => hmC9 (nm, k, tr, kn, p.1) p.2)
def hmC7 (nm : List Nat) (k tr : Nat) (kn : Int32) (ts : List hmTok) : Nat ⊕ (hmCq × List hmTok) := hmBd (hmXw wHolds ts) (hmC8 nm k tr kn)
def hmC6 (nm : List Nat) (k tr : Nat) (ts : List hmTok) : Nat ⊕ (hmCq × List hmTok) := hmBd (hmAn ts 0 0) (fun p => hmC7 nm k tr p.1 p.2)
def hmC5 (nm : List Nat) (k tr : Nat) (ts : List hmTok) : Nat ⊕ (hmCq × List hmTok) := hmBd (hmXw wKnows ts) (hmC6 nm k tr)
def hmC4 (nm : List Nat) (k : Nat) (ts : List hmTok) : Nat ⊕ (hmCq × List hmTok) := hmBd (hmXn 0 9 ts) (fun p => hmC5 nm k p.1 p.2)
def hmC3 (nm : List Nat) (k : Nat) (ts : List hmTok) : Nat ⊕ (hmCq × List hmTok) := hmBd (hmXw wTrouble ts) (hmC4 nm k)
def hmC2 (nm : List Nat) (ts : List hmTok) : Nat ⊕ (hmCq × List hmTok) := match ts with
  | [] => .inl 0
  | t :: r => match hmKk t with
    | none => .inl (hmFl 1 t)
    | some k => hmC3 nm k r
def hmCL (nms : List (List Nat)) (ts : List hmTok) : Nat ⊕ (hmCq × List hmTok) := match ts with
  | [] => .inl 0
  | t :: r => if hmNm t = true then (if t.2.1 ∈ nms then .inl (hmFl 3 t) else hmC2 t.2.1 r) else .inl (hmFl 1 t)
/-- what is read of an office: callers, takes, the law's codes -/
abbrev hmDr : Type := List hmCq × Option Nat × Option (List Int32)
def hmNms (D : hmDr) : List (List Nat) := D.1.map (fun c => c.1)
def hmT2 (D : hmDr) (n : Nat) (ts : List hmTok) : Nat ⊕ (hmDr × List hmTok) := hmBd (hmXs 59 ts) (fun r => .inr ((D.1, some n, D.2.2), r))
def hmOL (D : hmDr) (ts : List hmTok) : Nat ⊕ (hmDr × List hmTok) := match ts with
  | [] => .inl 0
  | t :: r => if hmIsW t wCaller = true then (if D.1.length = 6 then .inl (hmFl 5 t) else hmBd (hmCL (hmNms D) r) (fun p => .inr ((D.1 ++ [p.1], D.2.1, D.2.2), p.2)))
    else if hmIsW t wTakes = true then (if D.2.1.isSome = true then .inl (hmFl 3 t) else hmBd (hmXn 1 20 r) (fun p => hmT2 D p.1 p.2))
    else if hmIsW t wBelieves = true then (if D.2.2.isSome = true then .inl (hmFl 3 t) else hmBd (hmLm r true [(0, false)] []) (fun p => .inr ((D.1, D.2.1, some p.1), p.2)))
    else .inl (hmFl 1 t)
def hmRO : Nat → hmDr → List hmTok → Nat ⊕ hmDr
  | 0, D, _ => .inr D
  | n + 1, D, ts => match ts with
    | [] => .inr D
    | t :: r => if t.1 = 0 then .inr D else hmBd (hmOL D (t :: r)) (fun p => hmRO n p.1 p.2)
theorem hmXw_no {l : List Nat} {t : hmTok} {r : List hmTok} (h : hmIsW t l = false) : hmXw l (t :: r) = .inl (hmFl 1 t) := if_neg (by rw [h]; decide)
theorem hmXw_yes {l : List Nat} {t : hmTok} {r : List hmTok} (h : hmIsW t l = true) : hmXw l (t :: r) = .inr r := if_pos h
theorem hmXs_no {c : Nat} {t : hmTok} {r : List hmTok} (h : hmIsS t c = false) : hmXs c (t :: r) = .inl (hmFl 1 t) := if_neg (by rw [h]; decide)
theorem hmXs_yes {c : Nat} {t : hmTok} {r : List hmTok} (h : hmIsS t c = true) : hmXs c (t :: r) = .inr r := if_pos h
theorem hmXn_no {lo hi : Nat} {t : hmTok} {r : List hmTok} (h : ¬ t.1 = 3) : hmXn lo hi (t :: r) = .inl (hmFl 1 t) := if_neg h
theorem hmXn_out {lo hi : Nat} {t : hmTok} {r : List hmTok} (h : t.1 = 3) (h2 : hmDec t.2.1 < lo ∨ hi < hmDec t.2.1) : hmXn lo hi (t :: r) = .inl (hmFl 4 t) := (if_pos h).trans (if_pos h2)
theorem hmXn_yes {lo hi : Nat} {t : hmTok} {r : List hmTok} (h : t.1 = 3) (h2 : lo ≤ hmDec t.2.1) (h3 : hmDec t.2.1 ≤ hi) : hmXn lo hi (t :: r) = .inr (hmDec t.2.1, r) := (if_pos h).trans (if_neg (by omega))
/-- a caller as read holds -/
def hmCqOk (c : hmCq) : Prop := hmWd c.1 ∧ 1 ≤ c.1.length ∧ c.2.1 < 4 ∧ c.2.2.1 < 10 ∧ hmS10 c.2.2.2.1 ∧ 1 ≤ c.2.2.2.2 ∧ c.2.2.2.2 ≤ 30
def hmDrOk (D : hmDr) : Prop := D.1.length ≤ 6 ∧ (∀ c, c ∈ D.1 → hmCqOk c) ∧ (∀ n, D.2.1 = some n → 1 ≤ n ∧ n ≤ 20)
def hmTsOk (ts : List hmTok) : Prop := ∀ t, t ∈ ts → hmTkOk t
theorem hmBd_inr {A B : Type} {x : Nat ⊕ A} {f : A → Nat ⊕ B} {b : B} (h : hmBd x f = .inr b) : ∃ a, x = .inr a ∧ f a = .inr b := by
  cases x with
  | inl F => exact absurd h (by simp [hmBd])
  | inr a => exact ⟨a, rfl, h⟩
theorem hmXw_inr {l : List Nat} {ts r : List hmTok} (h : hmXw l ts = .inr r) (ho : hmTsOk ts) : hmTsOk r := by
  cases ts with
  | nil => exact absurd h (by simp [hmXw])
  | cons t q =>
    unfold hmXw at h
    by_cases c : hmIsW t l = true
    · simp only [if_pos c] at h
      cases h
      exact fun x hx => ho x (List.mem_cons_of_mem _ hx)
    · simp only [if_neg c] at h
      exact absurd h (by simp)
theorem hmXs_inr {c : Nat} {ts r : List hmTok} (h : hmXs c ts = .inr r) (ho : hmTsOk ts) : hmTsOk r := by
  cases ts with
  | nil => exact absurd h (by simp [hmXs])
  | cons t q =>
    unfold hmXs at h
    by_cases c1 : hmIsS t c = true
    · simp only [if_pos c1] at h
      cases h
      exact fun x hx => ho x (List.mem_cons_of_mem _ hx)
    · simp only [if_neg c1] at h
      exact absurd h (by simp)
theorem hmXn_inr {lo hi : Nat} {ts : List hmTok} {p : Nat × List hmTok} (h : hmXn lo hi ts = .inr p) (ho : hmTsOk ts) : lo ≤ p.1 ∧ p.1 ≤ hi ∧ hmTsOk p.2 := by
  cases ts with
  | nil => exact absurd h (by simp [hmXn])
  | cons t q =>
    unfold hmXn at h
    by_cases c1 : t.1 = 3
    · simp only [if_pos c1] at h
      by_cases c2 : hmDec t.2.1 < lo ∨ hi < hmDec t.2.1
      · simp only [if_pos c2] at h
        exact absurd h (by simp)
      · simp only [if_neg c2] at h
        cases h
        exact ⟨by show lo ≤ hmDec t.2.1; omega, by show hmDec t.2.1 ≤ hi; omega, fun x hx => ho x (List.mem_cons_of_mem _ hx)⟩
    · simp only [if_neg c1] at h
      exact absurd h (by simp)
theorem hmAn_inr : ∀ (ts : List hmTok) (many : Nat) (kn : Int32) (p : Int32 × List hmTok), hmAn ts many kn = .inr p → hmTsOk ts → hmS10 kn → hmS10 p.1 ∧ hmTsOk p.2 := by
  intro ts
  induction ts with
  | nil =>
    intro many kn p h
    exact absurd h (by simp [hmAn])
  | cons t r ih =>
    intro many kn p h ho hk
    unfold hmAn at h
    by_cases c1 : t.1 = 3
    · rw [if_pos c1] at h
      by_cases c2 : 9 < hmDec t.2.1
      · rw [if_pos c2] at h
        exact absurd h (by simp)
      rw [if_neg c2] at h
      by_cases c3 : hmBit kn (hmDec t.2.1) = true
      · rw [if_pos c3] at h
        exact absurd h (by simp)
      rw [if_neg c3] at h
      by_cases c4 : many = 6
      · rw [if_pos c4] at h
        exact absurd h (by simp)
      rw [if_neg c4] at h
      exact ih _ _ p h (fun x hx => ho x (List.mem_cons_of_mem _ hx)) (hm_s10_or hk (hm_s10_one _ (by omega)))
    · rw [if_neg c1] at h
      by_cases c5 : many = 0
      · rw [if_pos c5] at h
        exact absurd h (by simp)
      rw [if_neg c5] at h
      cases h
      exact ⟨hk, ho⟩
theorem hmLm_inr : ∀ (ts : List hmTok) (w : Bool) (lv : hmLv) (cs cd : List Int32) (r : List hmTok), hmLm ts w lv cs = .inr (cd, r) → cs.length + (if w = true then 1 else 0) ≤ cd.length ∧ cd.length + r.length + 1 ≤ cs.length + ts.length ∧ ∀ x, x ∈ r → x ∈ ts := by
  intro ts
  induction ts with
  | nil =>
    intro w lv cs cd r h
    cases w <;> exact absurd h (by simp [hmLm])
  | cons t q ih =>
    intro w lv cs cd r h
    have go : ∀ (w2 : Bool) (lv2 : hmLv) (c : Int32), hmLm q w2 lv2 (cs ++ [c]) = .inr (cd, r) → cs.length + (if w = true then 1 else 0) ≤ cd.length ∧ cd.length + r.length + 1 ≤ cs.length + (t :: q).length ∧ ∀ x, x ∈ r → x ∈ t :: q := fun w2 lv2 c e => by
      obtain ⟨h1, h2, h3⟩ := ih w2 lv2 (cs ++ [c]) cd r e
      rw [List.length_append, List.length_singleton] at h1 h2
      refine ⟨?_, by rw [List.length_cons]; omega, fun x hx => List.mem_cons_of_mem _ (h3 x hx)⟩
      cases w <;> simp <;> omega
    cases w with
    | true =>
      rw [hmLm_t] at h
      repeat' split at h
      all_goals first | exact absurd h (by simp) | exact go _ _ _ h
    | false =>
      rw [hmLm_f] at h
      by_cases c1 : hmKd t = 5 ∨ hmKd t = 6 ∨ hmKd t = 7
      · rw [if_pos c1] at h
        exact go _ _ _ h
      rw [if_neg c1] at h
      by_cases c2 : (hmKd t = 8 ∨ hmKd t = 9) ∧ hmCm1 lv = false
      · rw [if_pos c2] at h
        exact go _ _ _ h
      rw [if_neg c2] at h
      by_cases c3 : hmKd t = 10 ∨ hmKd t = 11
      · rw [if_pos c3] at h
        exact go _ _ _ h
      rw [if_neg c3] at h
      by_cases c4 : hmKd t = 3 ∧ 1 < lv.length
      · rw [if_pos c4] at h
        exact go _ _ _ h
      rw [if_neg c4] at h
      by_cases c5 : lv.length = 1 ∧ hmKd t = 4
      · rw [if_pos c5] at h
        cases h
        refine ⟨by simp, by rw [List.length_cons]; omega, fun x hx => List.mem_cons_of_mem _ hx⟩
      · rw [if_neg c5] at h
        exact absurd h (by simp)
theorem hmCL_inr {nms : List (List Nat)} {ts : List hmTok} {p : hmCq × List hmTok} (h : hmCL nms ts = .inr p) (ho : hmTsOk ts) : hmCqOk p.1 ∧ hmTsOk p.2 := by
  cases ts with
  | nil => exact absurd h (by simp [hmCL])
  | cons t r =>
    have e : hmCL nms (t :: r) = if hmNm t = true then (if t.2.1 ∈ nms then .inl (hmFl 3 t) else hmC2 t.2.1 r) else .inl (hmFl 1 t) := rfl
    rw [e] at h
    by_cases c1 : hmNm t = true
    · rw [if_pos c1] at h
      by_cases c2 : t.2.1 ∈ nms
      · rw [if_pos c2] at h
        exact absurd h (by simp)
      rw [if_neg c2] at h
      have t2 : t.1 = 2 := (of_decide_eq_true c1).1
      have hw := (ho t List.mem_cons_self).1 t2
      have hor : hmTsOk r := fun x hx => ho x (List.mem_cons_of_mem _ hx)
      cases r with
      | nil => exact absurd h (by simp [hmC2])
      | cons u q =>
        have e2 : hmC2 t.2.1 (u :: q) = (match hmKk u with | none => .inl (hmFl 1 u) | some k => hmC3 t.2.1 k q) := rfl
        rw [e2] at h
        cases hk : hmKk u with
        | none =>
          rw [hk] at h
          exact absurd h (by simp)
        | some k =>
          rw [hk] at h
          have hk4 : k < 4 := by
            unfold hmKk hmKl at hk
            repeat' split at hk
            all_goals first | (cases hk; omega) | exact absurd hk (by simp)
          have hoq : hmTsOk q := fun x hx => hor x (List.mem_cons_of_mem _ hx)
          obtain ⟨r3, h3, h⟩ := hmBd_inr (show hmBd (hmXw wTrouble q) (hmC4 t.2.1 k) = .inr p from h)
          have o3 := hmXw_inr h3 hoq
          obtain ⟨p4, h4, h⟩ := hmBd_inr (show hmBd (hmXn 0 9 r3) (fun p => hmC5 t.2.1 k p.1 p.2) = .inr p from h)
          have o4 := hmXn_inr h4 o3
          obtain ⟨r5, h5, h⟩ := hmBd_inr (show hmBd (hmXw wKnows p4.2) (hmC6 t.2.1 k p4.1) = .inr p from h)
          have o5 := hmXw_inr h5 o4.2.2
          obtain ⟨p6, h6, h⟩ := hmBd_inr (show hmBd (hmAn r5 0 0) (fun p => hmC7 t.2.1 k p4.1 p.1 p.2) = .inr p from h)
          have o6 := hmAn_inr _ _ _ _ h6 o5 ⟨0, by omega, rfl⟩
          obtain ⟨r7, h7, h⟩ := hmBd_inr (show hmBd (hmXw wHolds p6.2) (hmC8 t.2.1 k p4.1 p6.1) = .inr p from h)
          have o7 := hmXw_inr h7 o6.2
          obtain ⟨p8, h8, h⟩ := hmBd_inr (show hmBd (hmXn 1 30 r7) (fun q => hmC9 (t.2.1, k, p4.1, p6.1, q.1) q.2) = .inr p from h)
          have o8 := hmXn_inr h8 o7
          obtain ⟨r9, h9, h⟩ := hmBd_inr (show hmBd (hmXs 59 p8.2) (fun r => .inr ((t.2.1, k, p4.1, p6.1, p8.1), r)) = .inr p from h)
          have o9 := hmXs_inr h9 o8.2.2
          cases h
          exact ⟨⟨⟨hw.1, hw.2.1⟩, hw.2.2, hk4, by show p4.1 < 10; omega, o6.1, o8.1, o8.2.1⟩, o9⟩
    · rw [if_neg c1] at h
      exact absurd h (by simp)
theorem hmOL_inr {D : hmDr} {ts : List hmTok} {p : hmDr × List hmTok} (h : hmOL D ts = .inr p) (ho : hmTsOk ts) (hD : hmDrOk D) : hmDrOk p.1 ∧ hmTsOk p.2 := by
  cases ts with
  | nil => exact absurd h (by simp [hmOL])
  | cons t r =>
    have hor : hmTsOk r := fun x hx => ho x (List.mem_cons_of_mem _ hx)
    obtain ⟨d1, d2, d3⟩ := hD
    have e : hmOL D (t :: r) = if hmIsW t wCaller = true then (if D.1.length = 6 then .inl (hmFl 5 t) else hmBd (hmCL (hmNms D) r) (fun p => .inr ((D.1 ++ [p.1], D.2.1, D.2.2), p.2))) else if hmIsW t wTakes = true then (if D.2.1.isSome = true then .inl (hmFl 3 t) else hmBd (hmXn 1 20 r) (fun p => hmT2 D p.1 p.2)) else if hmIsW t wBelieves = true then (if D.2.2.isSome = true then .inl (hmFl 3 t) else hmBd (hmLm r true [(0, false)] []) (fun p => .inr ((D.1, D.2.1, some p.1), p.2))) else .inl (hmFl 1 t) := rfl
    rw [e] at h
    by_cases c1 : hmIsW t wCaller = true
    · rw [if_pos c1] at h
      by_cases c2 : D.1.length = 6
      · rw [if_pos c2] at h
        exact absurd h (by simp)
      rw [if_neg c2] at h
      obtain ⟨q, h1, h⟩ := hmBd_inr h
      have o1 := hmCL_inr h1 hor
      cases h
      refine ⟨⟨by show (D.1 ++ [q.1]).length ≤ 6; rw [List.length_append, List.length_singleton]; omega, fun c hc => ?_, d3⟩, o1.2⟩
      rcases List.mem_append.mp hc with z | z
      · exact d2 c z
      · rw [List.mem_singleton.mp z]
        exact o1.1
    rw [if_neg c1] at h
    by_cases c3 : hmIsW t wTakes = true
    · rw [if_pos c3] at h
      by_cases c2 : D.2.1.isSome = true
      · rw [if_pos c2] at h
        exact absurd h (by simp)
      rw [if_neg c2] at h
      obtain ⟨q, h1, h⟩ := hmBd_inr h
      have o1 := hmXn_inr h1 hor
      obtain ⟨r2, h2, h⟩ := hmBd_inr (show hmBd (hmXs 59 q.2) (fun r => .inr ((D.1, some q.1, D.2.2), r)) = .inr p from h)
      have o2 := hmXs_inr h2 o1.2.2
      cases h
      exact ⟨⟨d1, d2, fun n hn => by cases hn; exact ⟨o1.1, o1.2.1⟩⟩, o2⟩
    rw [if_neg c3] at h
    by_cases c4 : hmIsW t wBelieves = true
    · rw [if_pos c4] at h
      by_cases c2 : D.2.2.isSome = true
      · rw [if_pos c2] at h
        exact absurd h (by simp)
      rw [if_neg c2] at h
      obtain ⟨q, h1, h⟩ := hmBd_inr h
      have o1 := hmLm_inr _ _ _ _ q.1 q.2 h1
      cases h
      exact ⟨⟨d1, d2, d3⟩, fun x hx => hor x (o1.2.2 x hx)⟩
    · rw [if_neg c4] at h
      exact absurd h (by simp)
theorem hmRO_inr : ∀ (n : Nat) (D D' : hmDr) (ts : List hmTok), hmRO n D ts = .inr D' → hmTsOk ts → hmDrOk D → hmDrOk D' := by
  intro n
  induction n with
  | zero =>
    intro D D' ts h _ hD
    have h2 : (.inr D : Nat ⊕ hmDr) = .inr D' := h
    cases h2
    exact hD
  | succ n ih =>
    intro D D' ts h ho hD
    cases ts with
    | nil =>
      have h2 : (.inr D : Nat ⊕ hmDr) = .inr D' := h
      cases h2
      exact hD
    | cons t r =>
      have e : hmRO (n + 1) D (t :: r) = if t.1 = 0 then .inr D else hmBd (hmOL D (t :: r)) (fun p => hmRO n p.1 p.2) := rfl
      rw [e] at h
      by_cases c : t.1 = 0
      · rw [if_pos c] at h
        cases h
        exact hD
      · rw [if_neg c] at h
        obtain ⟨p, h1, h⟩ := hmBd_inr h
        have o1 := hmOL_inr h1 ho hD
        exact ih p.1 D' p.2 h o1.2 o1.1
/-- the office that is read, its law's steps lw -/
def hmOo (D : hmDr) (lw : List Int32) : hmO := (D.1.length, fun w => (D.1.getD w ([], 0, 0, 0, 0)).2.1, fun w => (D.1.getD w ([], 0, 0, 0, 0)).2.2.1, fun w => (D.1.getD w ([], 0, 0, 0, 0)).2.2.2.1, fun w => (D.1.getD w ([], 0, 0, 0, 0)).2.2.2.2, D.2.1.getD 5, lw)
theorem hmOo_ok {D : hmDr} {lw : List Int32} (h : hmDrOk D) (hl : lw.length ≤ 1000) (hw : lw = [] ∨ hmHi lw 0 = some 1) : hmOok (hmOo D lw) := by
  obtain ⟨d1, d2, d3⟩ := h
  refine ⟨d1, ?_, ?_, fun w hw => ?_, hl, hw⟩
  · show 1 ≤ D.2.1.getD 5
    cases e : D.2.1 with
    | none => decide
    | some n => exact (d3 n e).1
  · show D.2.1.getD 5 ≤ 20
    cases e : D.2.1 with
    | none => decide
    | some n => exact (d3 n e).2
  · have hm : D.1.getD w ([], 0, 0, 0, 0) ∈ D.1 := by
      rw [List.getD_eq_getElem?_getD, List.getElem?_eq_getElem hw]
      exact List.getElem_mem hw
    obtain ⟨-, -, h3, h4, h5, h6, h7⟩ := d2 _ hm
    exact ⟨h3, h4, h5, h6, h7⟩
