/-! what a minute keeps -/
theorem hm_bit_or0 : ∀ k, k < 64 → ∀ u, u < 6 → ∀ w, w < 6 → hmBit (nI k ||| hmOne u) w = (hmBit (nI k) w || u == w) := by decide +kernel
theorem hm_one6 : ∀ u, u < 6 → hmOne u = nI (2 ^ u) ∧ 2 ^ u < 64 := by decide +kernel
theorem hm_s6_or {x y : Int32} (hx : hmS6 x) (hy : hmS6 y) : hmS6 (x ||| y) := by
  obtain ⟨k, hk, rfl⟩ := hx
  obtain ⟨j, hj, rfl⟩ := hy
  refine ⟨k ||| j, Nat.or_lt_two_pow (n := 6) hk hj, ?_⟩
  apply Int32.toBitVec_inj.mp
  simp only [Int32.toBitVec_or, nI, Int32.toBitVec_ofNat']
  apply BitVec.eq_of_toNat_eq
  simp only [BitVec.toNat_or, BitVec.toNat_ofNat]
  have h1 : k ||| j < 2 ^ 6 := Nat.or_lt_two_pow hk hj
  rw [Nat.mod_eq_of_lt (by omega), Nat.mod_eq_of_lt (by omega), Nat.mod_eq_of_lt (by omega)]
theorem hm_s6_one {u : Nat} (hu : u < 6) : hmS6 (hmOne u) := ⟨2 ^ u, (hm_one6 u hu).2, (hm_one6 u hu).1⟩
theorem hm_bit_or {s : Int32} (hs : hmS6 s) {u w : Nat} (hu : u < 6) (hw : w < 6) : hmBit (s ||| hmOne u) w = (hmBit s w || u == w) := by
  obtain ⟨k, hk, rfl⟩ := hs
  exact hm_bit_or0 k hk u hu w hw
theorem hm_fold_bits (l : List Nat) : ∀ (s : Int32), hmS6 s → (∀ u, u ∈ l → u < 6) → hmS6 (l.foldl (fun s w => s ||| hmOne w) s) ∧ ∀ w, w < 6 → hmBit (l.foldl (fun s w => s ||| hmOne w) s) w = (hmBit s w || decide (w ∈ l)) := by
  induction l with
  | nil => intro s hs _; exact ⟨hs, fun w _ => by simp⟩
  | cons u l ih =>
    intro s hs hl
    have hu := hl u List.mem_cons_self
    obtain ⟨h1, h2⟩ := ih (s ||| hmOne u) (hm_s6_or hs (hm_s6_one hu)) (fun x hx => hl x (List.mem_cons_of_mem _ hx))
    refine ⟨h1, fun w hw => ?_⟩
    rw [List.foldl_cons, h2 w hw, hm_bit_or hs hu hw, Bool.or_assoc]
    congr 1
    by_cases e : w = u
    · subst e; simp
    · have e2 : ¬ u = w := fun q => e q.symm
      simp [e, e2]
theorem hm_s6_eq {x y : Int32} (hx : hmS6 x) (hy : hmS6 y) (h : ∀ w, w < 6 → hmBit x w = hmBit y w) : x = y := by
  obtain ⟨k, hk, rfl⟩ := hx
  obtain ⟨j, hj, rfl⟩ := hy
  have key : ∀ k, k < 64 → ∀ j, j < 64 → (∀ w, w < 6 → hmBit (nI k) w = hmBit (nI j) w) → k = j := by decide +kernel
  rw [key k hk j hj h]
theorem hm_s10_one : ∀ t, t < 10 → hmS10 (hmOne t) := by
  intro t ht
  have key : ∀ t, t < 10 → hmOne t = nI (2 ^ t) ∧ 2 ^ t < 1024 := by decide +kernel
  exact ⟨2 ^ t, (key t ht).2, (key t ht).1⟩
theorem hmOk_pair {O : hmO} {H : hmH} (h : hmOk O H) (hN : hmN O ≤ 6) {a b : Nat} {bh : Option Nat} (ha : a < hmN O) (hb : b < hmN O) (hbh : ∀ x, bh = some x → x < 6) : hmOk O (hmPair O H a b bh) := by
  obtain ⟨h1, h2, h3, h4, h5, h6, h7, h8, h9⟩ := h
  refine ⟨h1, h2, ?_, h4, h5, h6, h7, h8, ?_⟩
  · exact hm_tell_s10 (hm_tell_s10 h3 (by omega) hbh) (by omega) hbh
  · intro x y
    show hmTalk2 (hmTalk H) a b x y = hmTalk2 (hmTalk H) a b y x
    unfold hmTalk2
    by_cases c : (x = a ∧ y = b) ∨ (x = b ∧ y = a)
    · rw [if_pos c, if_pos (c.elim (fun q => Or.inr ⟨q.2, q.1⟩) (fun q => Or.inl ⟨q.2, q.1⟩))]
    · rw [if_neg c, if_neg (fun q => c (q.elim (fun q => Or.inr ⟨q.2, q.1⟩) (fun q => Or.inl ⟨q.2, q.1⟩)))]
      exact h9 x y
theorem hmOk_pairs {O : hmO} {H : hmH} (h : hmOk O H) (hN : hmN O ≤ 6) : ∀ k, 2 * k ≤ (hmLine H).length → hmOk O (hmPairs O H k) := by
  intro k
  induction k with
  | zero => intro _; exact h
  | succ k ih =>
    intro hk
    have h2 := h.2.1
    refine hmOk_pair (ih (by omega)) hN (h2 _ (hm_getD_mem (by omega))) (h2 _ (hm_getD_mem (by omega))) (fun x hx => ?_)
    have := h2 x (List.mem_of_getElem? hx)
    omega
theorem hmOk_settle {O : hmO} {H : hmH} (h : hmOk O H) (hN : hmN O ≤ 6) : hmOk O (hmSettle O H) := by
  obtain ⟨h1, h2, h3, h4, h5, h6, h7, h8, h9⟩ := h
  have hsub : ∀ w, w ∈ (hmLine H).filter (fun w => !hmHelped O (hmHas H) w) → w ∈ hmLine H ∧ hmHelped O (hmHas H) w = false := by
    intro w hw
    simpa using List.mem_filter.mp hw
  have hf := hm_fold_bits ((hmLine H).filter (hmHelped O (hmHas H))) (hmSet H) h4 (fun u hu => by have := h2 u (List.mem_filter.mp hu).1; omega)
  refine ⟨h1.filter _, fun w hw => h2 w (hsub w hw).1, h3, hf.1, h5, fun w hw => ?_, fun w hw => ?_, fun w hw => ?_, h9⟩
  · obtain ⟨q1, q2⟩ := hsub w hw
    show (if w ∈ hmLine H ∧ hmHelped O (hmHas H) w = true then 0 else hmHeld H w) < _
    rw [if_neg (fun q => by rw [q2] at q; exact absurd q.2 (by decide))]
    exact h6 w q1
  · show (if w ∈ hmLine H ∧ hmHelped O (hmHas H) w = true then 0 else hmHeld H w) = 0
    by_cases c : w ∈ hmLine H ∧ hmHelped O (hmHas H) w = true
    · rw [if_pos c]
    · rw [if_neg c]
      refine h7 w (fun q => hw ?_)
      show w ∈ (hmLine H).filter (fun w => !hmHelped O (hmHas H) w)
      rw [List.mem_filter]
      refine ⟨q, ?_⟩
      cases hb : hmHelped O (hmHas H) w with
      | false => rfl
      | true => exact absurd ⟨q, hb⟩ c
  · obtain ⟨q1, q2⟩ := hsub w hw
    show hmBit _ w = false
    have hw6 : w < 6 := by have := h2 w q1; omega
    refine (hf.2 w hw6).trans ?_
    rw [h8 w q1]
    simp [q2]
theorem hmOk_hold {O : hmO} {H : hmH} (h : hmOk O H) : hmOk O (hmHold O H) := by
  obtain ⟨h1, h2, h3, h4, h5, h6, h7, h8, h9⟩ := h
  have hsub : ∀ w, w ∈ (hmLine H).filter (hmStays O (hmHeld H)) → w ∈ hmLine H ∧ hmStays O (hmHeld H) w = true := fun w hw => List.mem_filter.mp hw
  refine ⟨h1.filter _, fun w hw => h2 w (hsub w hw).1, h3, h4, h5, fun w hw => ?_, fun w hw => ?_, fun w hw => h8 w (hsub w hw).1, h9⟩
  · obtain ⟨q1, q2⟩ := hsub w hw
    show (if w ∈ hmLine H then (if hmStays O (hmHeld H) w = true then hmHeld H w + 1 else 0) else hmHeld H w) < _
    rw [if_pos q1, if_pos q2]
    simpa [hmStays] using q2
  · show (if w ∈ hmLine H then (if hmStays O (hmHeld H) w = true then hmHeld H w + 1 else 0) else hmHeld H w) = 0
    by_cases c : w ∈ hmLine H
    · rw [if_pos c]
      by_cases c2 : hmStays O (hmHeld H) w = true
      · exact absurd (List.mem_filter.mpr ⟨c, c2⟩) hw
      · rw [if_neg c2]
    · rw [if_neg c]
      exact h7 w c
theorem hmOk_tick {O : hmO} {H : hmH} (h : hmOk O H) : hmOk O (hmTick H) := h
theorem hmOk_take {O : hmO} {H : hmH} (h : hmOk O H) (ho : hmOok O) {w : Nat} (hw : w ∈ hmLine H) : hmOk O (hmTake O H w) := by
  obtain ⟨h1, h2, h3, h4, h5, h6, h7, h8, h9⟩ := h
  obtain ⟨o6, ot1, ot2, oo, oll, owf⟩ := ho
  have hwN := h2 w hw
  refine ⟨h1.erase w, fun x hx => h2 x (List.mem_of_mem_erase hx), fun x hx => ?_, hm_s6_or h4 (hm_s6_one (by omega)), hm_s6_or h5 (hm_s6_one (by omega)), fun x hx => ?_, fun x hx => ?_, fun x hx => ?_, h9⟩
  · show hmS10 (va_up (hmHas H) w (hmHas H w ||| hmOne (hmTr O w)) x)
    by_cases e : x = w
    · subst e
      rw [va_up_self]
      exact hm_s10_or (h3 x hx) (hm_s10_one _ (oo x hwN).2.1)
    · rw [va_up_ne _ _ e]
      exact h3 x hx
  · have e : x ≠ w := fun q => by rw [q] at hx; exact h1.not_mem_erase hx
    show va_up (hmHeld H) w 0 x < _
    rw [va_up_ne _ _ e]
    exact h6 x (List.mem_of_mem_erase hx)
  · show va_up (hmHeld H) w 0 x = 0
    by_cases e : x = w
    · subst e; rw [va_up_self]
    · rw [va_up_ne _ _ e]
      exact h7 x (fun q => hx ((List.mem_erase_of_ne e).mpr q))
  · have e : x ≠ w := fun q => by rw [q] at hx; exact h1.not_mem_erase hx
    have hxl := List.mem_of_mem_erase hx
    have := h2 x hxl
    show hmBit (hmSet H ||| hmOne w) x = false
    rw [hm_bit_or h4 (by omega) (by omega), h8 x hxl]
    have e2 : ¬ w = x := fun q => e q.symm
    simp [e2]
theorem hmOk_last {O : hmO} {H : hmH} {tk : Nat} (h : hmOk O H) (ho : hmOok O) : hmOk O (hmLast O tk H) := by
  unfold hmLast
  split
  · exact h
  next w r hl =>
    split
    · exact hmOk_take h ho (by rw [hl]; exact List.mem_cons_self)
    · exact h
theorem hmOk_minute {O : hmO} {H : hmH} {tk : Nat} (h : hmOk O H) (ho : hmOok O) : hmOk O (hmMinute O tk H) :=
  hmOk_last (hmOk_tick (hmOk_hold (hmOk_settle (hmOk_pairs h ho.1 _ (by omega)) ho.1))) ho
