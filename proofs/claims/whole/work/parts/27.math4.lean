/-! settling and holding, caller by caller -/
def hmSetI (O : hmO) (H : hmH) (i : Nat) : hmH :=
  ((hmLine H).filter (fun w => !(decide (w < i) && hmHelped O (hmHas H) w)), hmHas H, fun w => if w ∈ hmLine H ∧ w < i ∧ hmHelped O (hmHas H) w = true then 0 else hmHeld H w, hmTalk H, ((List.range i).filter (fun w => decide (w ∈ hmLine H) && hmHelped O (hmHas H) w)).foldl (fun s w => s ||| hmOne w) (hmSet H), hmTak H, hmMin H)
def hmHoldI (O : hmO) (H : hmH) (i : Nat) : hmH :=
  ((hmLine H).filter (fun w => !(decide (w < i)) || hmStays O (hmHeld H) w), hmHas H, fun w => if w ∈ hmLine H ∧ w < i then (if hmStays O (hmHeld H) w = true then hmHeld H w + 1 else 0) else hmHeld H w, hmTalk H, hmSet H, hmTak H, hmMin H)
theorem hmSetI_0 (O : hmO) (H : hmH) : hmSetI O H 0 = H := by
  unfold hmSetI
  have e1 : (hmLine H).filter (fun w => !(decide (w < 0) && hmHelped O (hmHas H) w)) = hmLine H := by
    rw [List.filter_eq_self]; simp
  have e2 : (fun w => if w ∈ hmLine H ∧ w < 0 ∧ hmHelped O (hmHas H) w = true then 0 else hmHeld H w) = hmHeld H := by
    funext w
    exact if_neg (fun q => by omega)
  rw [e1, e2]
  rfl
theorem hmHoldI_0 (O : hmO) (H : hmH) : hmHoldI O H 0 = H := by
  unfold hmHoldI
  have e1 : (hmLine H).filter (fun w => !(decide (w < 0)) || hmStays O (hmHeld H) w) = hmLine H := by
    rw [List.filter_eq_self]; simp
  have e2 : (fun w => if w ∈ hmLine H ∧ w < 0 then (if hmStays O (hmHeld H) w = true then hmHeld H w + 1 else 0) else hmHeld H w) = hmHeld H := by
    funext w
    exact if_neg (fun q => by omega)
  rw [e1, e2]
  rfl
theorem hmSetI_line (O : hmO) (H : hmH) (i : Nat) {w : Nat} : (w ∈ hmLine (hmSetI O H i) ↔ w ∈ hmLine H ∧ ¬ (w < i ∧ hmHelped O (hmHas H) w = true)) := by
  show w ∈ (hmLine H).filter _ ↔ _
  rw [List.mem_filter]
  constructor
  · rintro ⟨h1, h2⟩
    refine ⟨h1, fun q => ?_⟩
    simp [q.1, q.2] at h2
  · rintro ⟨h1, h2⟩
    refine ⟨h1, ?_⟩
    cases hb : (decide (w < i) && hmHelped O (hmHas H) w) with
    | false => rfl
    | true => exact absurd (by simpa using hb) h2
theorem hmHoldI_line (O : hmO) (H : hmH) (i : Nat) {w : Nat} : (w ∈ hmLine (hmHoldI O H i) ↔ w ∈ hmLine H ∧ (¬ w < i ∨ hmStays O (hmHeld H) w = true)) := by
  show w ∈ (hmLine H).filter _ ↔ _
  rw [List.mem_filter]
  simp
theorem hmSetI_yes {O : hmO} {H : hmH} {i : Nat} (hn : (hmLine H).Nodup) (hi : i ∈ hmLine H) (hh : hmHelped O (hmHas H) i = true) : hmSetI O H (i + 1) = ((hmLine (hmSetI O H i)).erase i, hmHas H, va_up (hmHeld (hmSetI O H i)) i 0, hmTalk H, hmSet (hmSetI O H i) ||| hmOne i, hmTak H, hmMin H) := by
  have e1 : (hmLine H).filter (fun w => !(decide (w < i + 1) && hmHelped O (hmHas H) w)) = ((hmLine H).filter (fun w => !(decide (w < i) && hmHelped O (hmHas H) w))).erase i := by
    rw [List.Nodup.erase_eq_filter (hn.filter _), List.filter_filter]
    apply List.filter_congr
    intro w _
    by_cases e : w = i
    · subst e; simp [hh]
    · have e2 : (w < i + 1) = (w < i) := by apply propext; omega
      simp [e, e2]
  have e2 : (fun w => if w ∈ hmLine H ∧ w < i + 1 ∧ hmHelped O (hmHas H) w = true then 0 else hmHeld H w) = va_up (fun w => if w ∈ hmLine H ∧ w < i ∧ hmHelped O (hmHas H) w = true then 0 else hmHeld H w) i 0 := by
    funext w
    by_cases e : w = i
    · subst e
      rw [va_up_self, if_pos ⟨hi, by omega, hh⟩]
    · rw [va_up_ne _ _ e]
      by_cases c : w ∈ hmLine H ∧ w < i ∧ hmHelped O (hmHas H) w = true
      · rw [if_pos c, if_pos ⟨c.1, by omega, c.2.2⟩]
      · rw [if_neg c, if_neg (fun q => c ⟨q.1, by omega, q.2.2⟩)]
  have e3 : [i].filter (fun w => decide (w ∈ hmLine H) && hmHelped O (hmHas H) w) = [i] := by simp [hi, hh]
  unfold hmSetI
  rw [e1, e2, List.range_succ, List.filter_append, List.foldl_append, e3]
  rfl
theorem hmSetI_no {O : hmO} {H : hmH} {i : Nat} (hh : ¬ (i ∈ hmLine H ∧ hmHelped O (hmHas H) i = true)) : hmSetI O H (i + 1) = hmSetI O H i := by
  have e1 : (hmLine H).filter (fun w => !(decide (w < i + 1) && hmHelped O (hmHas H) w)) = (hmLine H).filter (fun w => !(decide (w < i) && hmHelped O (hmHas H) w)) := by
    apply List.filter_congr
    intro w hw
    by_cases e : w = i
    · subst e
      have : hmHelped O (hmHas H) w = false := by
        cases hb : hmHelped O (hmHas H) w with
        | false => rfl
        | true => exact absurd ⟨hw, hb⟩ hh
      simp [this]
    · have e2 : (w < i + 1) = (w < i) := by apply propext; omega
      simp [e2]
  have e2 : (fun w => if w ∈ hmLine H ∧ w < i + 1 ∧ hmHelped O (hmHas H) w = true then 0 else hmHeld H w) = (fun w => if w ∈ hmLine H ∧ w < i ∧ hmHelped O (hmHas H) w = true then 0 else hmHeld H w) := by
    funext w
    by_cases e : w = i
    · subst e
      rw [if_neg (fun q => hh ⟨q.1, q.2.2⟩), if_neg (fun q => hh ⟨q.1, q.2.2⟩)]
    · by_cases c : w ∈ hmLine H ∧ w < i ∧ hmHelped O (hmHas H) w = true
      · rw [if_pos c, if_pos ⟨c.1, by omega, c.2.2⟩]
      · rw [if_neg c, if_neg (fun q => c ⟨q.1, by omega, q.2.2⟩)]
  have e3 : (decide (i ∈ hmLine H) && hmHelped O (hmHas H) i) = false := by
    cases hb : (decide (i ∈ hmLine H) && hmHelped O (hmHas H) i) with
    | false => rfl
    | true => exact absurd (by simpa using hb) hh
  unfold hmSetI
  rw [e1, e2, List.range_succ, List.filter_append, List.foldl_append]
  simp [e3]
theorem hmHoldI_yes {O : hmO} {H : hmH} {i : Nat} (hi : i ∈ hmLine H) (hs : hmStays O (hmHeld H) i = true) : hmHoldI O H (i + 1) = (hmLine (hmHoldI O H i), hmHas H, va_up (hmHeld (hmHoldI O H i)) i (hmHeld H i + 1), hmTalk H, hmSet H, hmTak H, hmMin H) := by
  have e1 : (hmLine H).filter (fun w => !(decide (w < i + 1)) || hmStays O (hmHeld H) w) = (hmLine H).filter (fun w => !(decide (w < i)) || hmStays O (hmHeld H) w) := by
    apply List.filter_congr
    intro w _
    by_cases e : w = i
    · subst e; simp [hs]
    · have e2 : (w < i + 1) = (w < i) := by apply propext; omega
      simp [e2]
  have e2 : (fun w => if w ∈ hmLine H ∧ w < i + 1 then (if hmStays O (hmHeld H) w = true then hmHeld H w + 1 else 0) else hmHeld H w) = va_up (fun w => if w ∈ hmLine H ∧ w < i then (if hmStays O (hmHeld H) w = true then hmHeld H w + 1 else 0) else hmHeld H w) i (hmHeld H i + 1) := by
    funext w
    by_cases e : w = i
    · subst e
      rw [va_up_self, if_pos ⟨hi, by omega⟩, if_pos hs]
    · rw [va_up_ne _ _ e]
      by_cases c : w ∈ hmLine H ∧ w < i
      · rw [if_pos c, if_pos (show w ∈ hmLine H ∧ w < i + 1 from ⟨c.1, by omega⟩)]
      · rw [if_neg c, if_neg (show ¬ (w ∈ hmLine H ∧ w < i + 1) from fun q => c ⟨q.1, by omega⟩)]
  unfold hmHoldI
  rw [e1, e2]
  rfl
theorem hmHoldI_off {O : hmO} {H : hmH} {i : Nat} (hn : (hmLine H).Nodup) (hi : i ∈ hmLine H) (hs : hmStays O (hmHeld H) i = false) : hmHoldI O H (i + 1) = ((hmLine (hmHoldI O H i)).erase i, hmHas H, va_up (hmHeld (hmHoldI O H i)) i 0, hmTalk H, hmSet H, hmTak H, hmMin H) := by
  have e1 : (hmLine H).filter (fun w => !(decide (w < i + 1)) || hmStays O (hmHeld H) w) = ((hmLine H).filter (fun w => !(decide (w < i)) || hmStays O (hmHeld H) w)).erase i := by
    rw [List.Nodup.erase_eq_filter (hn.filter _), List.filter_filter]
    apply List.filter_congr
    intro w _
    by_cases e : w = i
    · subst e; simp [hs]
    · have e2 : (w < i + 1) = (w < i) := by apply propext; omega
      simp [e, e2]
  have e2 : (fun w => if w ∈ hmLine H ∧ w < i + 1 then (if hmStays O (hmHeld H) w = true then hmHeld H w + 1 else 0) else hmHeld H w) = va_up (fun w => if w ∈ hmLine H ∧ w < i then (if hmStays O (hmHeld H) w = true then hmHeld H w + 1 else 0) else hmHeld H w) i 0 := by
    funext w
    by_cases e : w = i
    · subst e
      rw [va_up_self, if_pos ⟨hi, by omega⟩, if_neg (by rw [hs]; decide)]
    · rw [va_up_ne _ _ e]
      by_cases c : w ∈ hmLine H ∧ w < i
      · rw [if_pos c, if_pos (show w ∈ hmLine H ∧ w < i + 1 from ⟨c.1, by omega⟩)]
      · rw [if_neg c, if_neg (show ¬ (w ∈ hmLine H ∧ w < i + 1) from fun q => c ⟨q.1, by omega⟩)]
  unfold hmHoldI
  rw [e1, e2]
  rfl
theorem hmHoldI_no {O : hmO} {H : hmH} {i : Nat} (hi : i ∉ hmLine H) : hmHoldI O H (i + 1) = hmHoldI O H i := by
  have e1 : (hmLine H).filter (fun w => !(decide (w < i + 1)) || hmStays O (hmHeld H) w) = (hmLine H).filter (fun w => !(decide (w < i)) || hmStays O (hmHeld H) w) := by
    apply List.filter_congr
    intro w hw
    have e : w ≠ i := fun q => hi (q ▸ hw)
    have e2 : (w < i + 1) = (w < i) := by apply propext; omega
    simp [e2]
  have e2 : (fun w => if w ∈ hmLine H ∧ w < i + 1 then (if hmStays O (hmHeld H) w = true then hmHeld H w + 1 else 0) else hmHeld H w) = (fun w => if w ∈ hmLine H ∧ w < i then (if hmStays O (hmHeld H) w = true then hmHeld H w + 1 else 0) else hmHeld H w) := by
    funext w
    by_cases c : w ∈ hmLine H ∧ w < i
    · rw [if_pos c, if_pos (show w ∈ hmLine H ∧ w < i + 1 from ⟨c.1, by omega⟩)]
    · rw [if_neg c, if_neg (show ¬ (w ∈ hmLine H ∧ w < i + 1) from fun q => by
        have e : w ≠ i := fun z => hi (z ▸ q.1)
        exact c ⟨q.1, by omega⟩)]
  unfold hmHoldI
  rw [e1, e2]
theorem hmSetI_N {O : hmO} {H : hmH} (h : hmOk O H) (hN : hmN O ≤ 6) : hmSetI O H (hmN O) = hmSettle O H := by
  obtain ⟨h1, h2, h3, h4, h5, h6, h7, h8, h9⟩ := h
  have e1 : (hmLine H).filter (fun w => !(decide (w < hmN O) && hmHelped O (hmHas H) w)) = (hmLine H).filter (fun w => !hmHelped O (hmHas H) w) := by
    apply List.filter_congr
    intro w hw
    simp [h2 w hw]
  have e2 : (fun w => if w ∈ hmLine H ∧ w < hmN O ∧ hmHelped O (hmHas H) w = true then 0 else hmHeld H w) = fun w => if w ∈ hmLine H ∧ hmHelped O (hmHas H) w = true then 0 else hmHeld H w := by
    funext w
    by_cases c : w ∈ hmLine H ∧ hmHelped O (hmHas H) w = true
    · rw [if_pos c, if_pos ⟨c.1, h2 w c.1, c.2⟩]
    · rw [if_neg c, if_neg (fun q => c ⟨q.1, q.2.2⟩)]
  have f1 := hm_fold_bits ((List.range (hmN O)).filter (fun w => decide (w ∈ hmLine H) && hmHelped O (hmHas H) w)) (hmSet H) h4 (fun u hu => by have := List.mem_range.mp (List.mem_filter.mp hu).1; omega)
  have f2 := hm_fold_bits ((hmLine H).filter (hmHelped O (hmHas H))) (hmSet H) h4 (fun u hu => by have := h2 u (List.mem_filter.mp hu).1; omega)
  have e3 := hm_s6_eq f1.1 f2.1 (fun w hw => by
    rw [f1.2 w hw, f2.2 w hw]
    congr 1
    apply decide_eq_decide.mpr
    rw [List.mem_filter, List.mem_filter, List.mem_range]
    constructor
    · intro q
      simpa using q.2
    · intro q
      exact ⟨h2 w q.1, by simpa using q⟩)
  unfold hmSetI hmSettle
  rw [e1, e2, e3]
theorem hmHoldI_N {O : hmO} {H : hmH} (h : hmOk O H) : hmHoldI O H (hmN O) = hmHold O H := by
  have h2 := h.2.1
  have e1 : (hmLine H).filter (fun w => !(decide (w < hmN O)) || hmStays O (hmHeld H) w) = (hmLine H).filter (hmStays O (hmHeld H)) := by
    apply List.filter_congr
    intro w hw
    simp [h2 w hw]
  have e2 : (fun w => if w ∈ hmLine H ∧ w < hmN O then (if hmStays O (hmHeld H) w = true then hmHeld H w + 1 else 0) else hmHeld H w) = fun w => if w ∈ hmLine H then (if hmStays O (hmHeld H) w = true then hmHeld H w + 1 else 0) else hmHeld H w := by
    funext w
    by_cases c : w ∈ hmLine H
    · rw [if_pos c, if_pos (show w ∈ hmLine H ∧ w < hmN O from ⟨c, h2 w c⟩)]
    · rw [if_neg c, if_neg (fun q => c q.1)]
  unfold hmHoldI hmHold
  rw [e1, e2]
