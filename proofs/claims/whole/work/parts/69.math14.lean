theorem hmW_22 {h m o t : Int32} {s : Nat × hmW9} : hmWstep h m o t s 22 = (s.1, (hmKept s.2, hmKeptBy s.2, hmAhead s.2, hmAgst s.2, hmSum s.2, hmSumBy s.2, hmTerm s.2, va_up (hmTermBy s.2) s.1 22, hmByNot s.2)) := by
  unfold hmWstep
  rw [if_neg (by decide), if_neg (by decide), if_pos rfl]
theorem hmW_20 {h m o t c : Int32} {s : Nat × hmW9} (hc : c = 20 ∨ c = 21) : hmWstep h m o t s c = (s.1, (hmKept (hmSums s.2 s.1), hmKeptBy (hmSums s.2 s.1), hmAhead (hmSums s.2 s.1), hmAgst (hmSums s.2 s.1), hmSum (hmSums s.2 s.1), va_up (hmSumBy (hmSums s.2 s.1)) s.1 c, hmTerm (hmSums s.2 s.1), hmTermBy (hmSums s.2 s.1), hmByNot (hmSums s.2 s.1))) := by
  unfold hmWstep
  rw [if_neg (by rcases hc with rfl | rfl <;> decide), if_pos hc]
theorem hmW_24 {h m o t c : Int32} {s : Nat × hmW9} (hc : c = 24 ∨ c = 25) : hmWstep h m o t s c = (s.1, (hmKept (hmSums s.2 s.1), hmKeptBy (hmSums s.2 s.1), va_up (hmAhead (hmSums s.2 s.1)) s.1 (hmSum (hmSums s.2 s.1) s.1), va_up (hmAgst (hmSums s.2 s.1)) s.1 c, va_up (hmSum (hmSums s.2 s.1)) s.1 0, va_up (hmSumBy (hmSums s.2 s.1)) s.1 20, hmTerm (hmSums s.2 s.1), hmTermBy (hmSums s.2 s.1), hmByNot (hmSums s.2 s.1))) := by
  unfold hmWstep
  rw [if_neg (by rcases hc with rfl | rfl <;> decide), if_neg (by rcases hc with rfl | rfl <;> decide), if_neg (by rcases hc with rfl | rfl <;> decide), if_pos hc]
theorem hmW_26 {h m o t c : Int32} {s : Nat × hmW9} (hc : c = 26 ∨ c = 27) : hmWstep h m o t s c = (s.1, (hmKept (hmTests s.2 s.1), va_up (hmKeptBy (hmTests s.2 s.1)) s.1 c, hmAhead (hmTests s.2 s.1), hmAgst (hmTests s.2 s.1), hmSum (hmTests s.2 s.1), hmSumBy (hmTests s.2 s.1), hmTerm (hmTests s.2 s.1), hmTermBy (hmTests s.2 s.1), hmByNot (hmTests s.2 s.1))) := by
  unfold hmWstep
  rw [if_neg (by rcases hc with rfl | rfl <;> decide), if_neg (by rcases hc with rfl | rfl <;> decide), if_neg (by rcases hc with rfl | rfl <;> decide), if_neg (by rcases hc with rfl | rfl <;> decide), if_pos hc]
theorem hmW_29 {h m o t : Int32} {s : Nat × hmW9} : hmWstep h m o t s 29 = hmVal (hmTests s.2 s.1) (s.1 - 1) (hmKept (hmTests s.2 s.1) s.1) := by
  unfold hmWstep
  rw [if_neg (by decide), if_neg (by decide), if_neg (by decide), if_neg (by decide), if_neg (by decide), if_pos rfl]
def hmOpn (k : hmW9) (e : Nat) (x : Int32) : hmW9 := hmOpens (hmKept k, hmKeptBy k, hmAhead k, hmAgst k, hmSum k, hmSumBy k, hmTerm k, hmTermBy k, va_up (hmByNot k) e x) e
theorem hmW_28 {h m o t c : Int32} {s : Nat × hmW9} (hc : c = 28 ∨ c = 30) : hmWstep h m o t s c = (s.1 + 1, hmOpn s.2 (s.1 + 1) (if c = 30 then 1 else 0)) := by
  unfold hmWstep
  rw [if_pos hc]
  rfl
theorem hmOpn_ag {k : hmW9} {d : Nat} {x : Int32} : hmAg (d + 1) (hmOpn k (d + 1) x) k := fun j hj => ⟨rfl, va_up_ne _ _ (by omega), rfl, va_up_ne _ _ (by omega), va_up_ne _ _ (by omega), va_up_ne _ _ (by omega), rfl, va_up_ne _ _ (by omega), va_up_ne _ _ (by omega)⟩
theorem hmTests_ag {k : hmW9} {d : Nat} : hmAg d (hmTests k d) k := fun j hj => ⟨va_up_ne _ _ (by omega), rfl, rfl, va_up_ne _ _ (by omega), (va_up_ne _ _ (by omega)).trans (va_up_ne _ _ (by omega)), va_up_ne _ _ (by omega), rfl, va_up_ne _ _ (by omega), rfl⟩
theorem hm_post2 {h m o t : Int32} {c1 c2 : List Int32} {v1 v2 s : Int32} (h1 : ∀ st, c1.foldl (hmStep h m o t) st = v1 :: st) (h2 : ∀ st, c2.foldl (hmStep h m o t) st = v2 :: st) (st : List Int32) : (c1 ++ c2 ++ [s]).foldl (hmStep h m o t) st = hmStep h m o t (v2 :: v1 :: st) s := by
  rw [List.foldl_append, List.foldl_append, h1, h2]
  rfl
theorem hm_cod2 {c1 c2 : List Int32} {c : Int32} (h1 : ∀ x, x ∈ c1 → hmCod x) (h2 : ∀ x, x ∈ c2 → hmCod x) (hc : hmCod c) : ∀ x, x ∈ c1 ++ c :: c2 → hmCod x := fun x hx => by
  rcases List.mem_append.mp hx with q | q
  · exact h1 x q
  · rcases List.mem_cons.mp q with q | q
    · rw [q]; exact hc
    · exact h2 x q
theorem hmRl_of {k k' : hmW9} {d : Nat} (h : hmRl k d) (e : hmByNot k' d = hmByNot k d) : hmRl k' d := h.elim Or.inl (fun q => Or.inr (by rw [e]; exact q))
theorem hmSX_times {d : Nat} {ci cp c2 p2 : List Int32} (h : hmSX d ci cp) (g : hmSP d c2 p2) : hmSX d (ci ++ 22 :: c2) (cp ++ p2 ++ [-12]) := by
  obtain ⟨h1, h2, h3, h4⟩ := h
  obtain ⟨g1, g2, g3, g4⟩ := g
  refine ⟨h1, hm_cod2 h2 g2 (by simp [hmCod]), fun k r hk => (hmHq_two h3 g3 (by decide) (by decide) (by omega)) k r (by omega), fun hh m o t => ?_⟩
  obtain ⟨v1, e1, e2⟩ := h4 hh m o t
  obtain ⟨v2, f1, f2⟩ := g4 hh m o t
  refine ⟨v1 * v2, fun st => hm_post2 e1 f1 st, fun k hl htb => ?_⟩
  obtain ⟨k1, r1, a1, a2, a3, a4, a5, a6, a7, a8, a9⟩ := e2 k hl htb
  obtain ⟨k3, r3, b1⟩ := f2 (hmKept k1, hmKeptBy k1, hmAhead k1, hmAgst k1, hmSum k1, hmSumBy k1, hmTerm k1, va_up (hmTermBy k1) d 22, hmByNot k1)
  obtain ⟨c1, c2', c3, c4, c5, c6, c7, c8, c9⟩ := b1 d (by omega)
  have hl3 : hmRl k3 d := hmRl_of hl (c9.trans a9)
  rw [hmVal_rl hl3] at r3
  refine ⟨hmPutT k3 d v2, ?_, ?_, ?_, c5.trans a3, c6.trans a4, c3.trans a5, c4.trans a6, c1.trans a7, c2'.trans a8, c9.trans a9⟩
  · refine r1.app ((?_ : hmRn hh m o t (d, k1) [22] _).app r3)
    have q := hmRn.one (h := hh) (m := m) (o := o) (t := t) (s := (d, k1)) (c := 22) (show d ≤ 5 by omega) (fun q => absurd q (by decide))
    rw [hmW_22] at q
    exact q
  · refine hmPutT_ag.tr ((b1.lt (by omega)).tr (fun j hj => ?_))
    obtain ⟨z1, z2, z3, z4, z5, z6, z7, z8, z9⟩ := a1 j hj
    exact ⟨z1, z2, z3, z4, z5, z6, z7, (va_up_ne _ _ (by omega)).trans z8, z9⟩
  · show va_up (hmTerm k3) d (hmTermV k3 d v2) d = v1 * v2
    rw [va_up_self]
    unfold hmTermV
    have c8' : hmTermBy k3 d = 22 := c8.trans (va_up_self _ _ _)
    have c7' : hmTerm k3 d = v1 := c7.trans a2
    rw [c8', if_neg (by decide), c7']
theorem hmSX_SS {d : Nat} {ci cp : List Int32} (h : hmSX d ci cp) : hmSS d ci cp := by
  obtain ⟨h1, h2, h3, h4⟩ := h
  refine ⟨h1, h2, hmHq_lt h3 (by omega), fun hh m o t => ?_⟩
  obtain ⟨v, e1, e2⟩ := h4 hh m o t
  refine ⟨v, e1, fun k hl htb hs0 hs20 => ?_⟩
  obtain ⟨k1, r1, a1, a2, a3, a4, a5, a6, a7, a8, a9⟩ := e2 k hl htb
  refine ⟨k1, r1, a1, ?_, a5, a6, a7, a8, a9⟩
  unfold hmSumV
  rw [a4, hs20, if_neg (by decide), a3, hs0, a2, Int32.zero_add]
theorem hmSS_plus {d : Nat} {ci cp c2 p2 : List Int32} {c s : Int32} (hc : (c = 20 ∧ s = -10) ∨ (c = 21 ∧ s = -11)) (h : hmSS d ci cp) (g : hmSX d c2 p2) : hmSS d (ci ++ c :: c2) (cp ++ p2 ++ [s]) := by
  obtain ⟨h1, h2, h3, h4⟩ := h
  obtain ⟨g1, g2, g3, g4⟩ := g
  have hc2 : c = 20 ∨ c = 21 := hc.elim (fun q => Or.inl q.1) (fun q => Or.inr q.1)
  refine ⟨h1, hm_cod2 h2 g2 (by rcases hc2 with rfl | rfl <;> simp [hmCod]), fun k r hk => (hmHq_two h3 g3 (by rcases hc with ⟨-, rfl⟩ | ⟨-, rfl⟩ <;> decide) (by rcases hc with ⟨-, rfl⟩ | ⟨-, rfl⟩ <;> decide) (by omega)) k r (by omega), fun hh m o t => ?_⟩
  obtain ⟨v1, e1, e2⟩ := h4 hh m o t
  obtain ⟨v2, f1, f2⟩ := g4 hh m o t
  refine ⟨if c = 21 then v1 - v2 else v1 + v2, fun st => ?_, fun k hl htb hs0 hs20 => ?_⟩
  · rw [hm_post2 e1 f1 st]
    rcases hc with ⟨rfl, rfl⟩ | ⟨rfl, rfl⟩ <;> rfl
  obtain ⟨k1, r1, a1, a2, a5, a6, a7, a8, a9⟩ := e2 k hl htb hs0 hs20
  obtain ⟨k3, r3, b1, b2, b3, b4, b5, b6, b7, b8, b9⟩ := f2 (hmKept (hmSums k1 d), hmKeptBy (hmSums k1 d), hmAhead (hmSums k1 d), hmAgst (hmSums k1 d), hmSum (hmSums k1 d), va_up (hmSumBy (hmSums k1 d)) d c, hmTerm (hmSums k1 d), hmTermBy (hmSums k1 d), hmByNot (hmSums k1 d)) (hmRl_of hl a9) (va_up_self _ _ _)
  refine ⟨k3, ?_, ?_, ?_, b5.trans a5, b6.trans a6, b7.trans a7, b8.trans a8, b9.trans a9⟩
  · refine r1.app ((?_ : hmRn hh m o t (d, k1) [c] _).app r3)
    have q := hmRn.one (h := hh) (m := m) (o := o) (t := t) (s := (d, k1)) (c := c) (show d ≤ 5 by omega) (fun q => absurd q (by rcases hc2 with rfl | rfl <;> decide))
    rw [hmW_20 hc2] at q
    exact q
  · refine b1.tr (fun j hj => ?_)
    obtain ⟨z1, z2, z3, z4, z5, z6, z7, z8, z9⟩ := a1 j hj
    exact ⟨z1, z2, z3, z4, (va_up_ne _ _ (by omega)).trans z5, (va_up_ne _ _ (by omega)).trans z6, z7, (va_up_ne _ _ (by omega)).trans z8, z9⟩
  · unfold hmSumV
    have y1 : hmSumBy k3 d = c := b4.trans (va_up_self _ _ _)
    have y2 : hmSum k3 d = v1 := b3.trans ((va_up_self _ _ _).trans a2)
    rw [y1, y2, b2]
theorem hmSS_ST {d : Nat} {ci cp : List Int32} (h : hmSS d ci cp) : hmST d ci cp := by
  obtain ⟨h1, h2, h3, h4⟩ := h
  refine ⟨h1, h2, hmHq_lt h3 (by omega), fun hh m o t => ?_⟩
  obtain ⟨v, e1, e2⟩ := h4 hh m o t
  refine ⟨v, e1, fun k hl htb hs0 hs20 hg0 => ?_⟩
  obtain ⟨k1, r1, a1, a2, a5, a6, a7, a8, a9⟩ := e2 k hl htb hs0 hs20
  refine ⟨k1, r1, a1, ?_, a7, a8, a9⟩
  have y : hmAgst (hmSums k1 d) d = 0 := a6.trans hg0
  unfold hmCmpV
  rw [y, if_neg (by decide), if_neg (by decide)]
  exact (va_up_self _ _ _).trans a2
theorem hmSS_cmp {d : Nat} {ci cp c2 p2 : List Int32} {c s : Int32} (hc : (c = 24 ∧ s = -8) ∨ (c = 25 ∧ s = -9)) (h : hmSS d ci cp) (g : hmSS d c2 p2) : hmST d (ci ++ c :: c2) (cp ++ p2 ++ [s]) := by
  obtain ⟨h1, h2, h3, h4⟩ := h
  obtain ⟨g1, g2, g3, g4⟩ := g
  have hc2 : c = 24 ∨ c = 25 := hc.elim (fun q => Or.inl q.1) (fun q => Or.inr q.1)
  refine ⟨h1, hm_cod2 h2 g2 (by rcases hc2 with rfl | rfl <;> simp [hmCod]), fun k r hk => (hmHq_two h3 g3 (by rcases hc with ⟨-, rfl⟩ | ⟨-, rfl⟩ <;> decide) (by rcases hc with ⟨-, rfl⟩ | ⟨-, rfl⟩ <;> decide) (by omega)) k r (by omega), fun hh m o t => ?_⟩
  obtain ⟨v1, e1, e2⟩ := h4 hh m o t
  obtain ⟨v2, f1, f2⟩ := g4 hh m o t
  refine ⟨if c = 24 then (if v1 < v2 then 1 else 0) else (if v1 = v2 then 1 else 0), fun st => ?_, fun k hl htb hs0 hs20 hg0 => ?_⟩
  · rw [hm_post2 e1 f1 st]
    rcases hc with ⟨rfl, rfl⟩ | ⟨rfl, rfl⟩ <;> rfl
  obtain ⟨k1, r1, a1, a2, a5, a6, a7, a8, a9⟩ := e2 k hl htb hs0 hs20
  obtain ⟨k3, r3, b1, b2, b5, b6, b7, b8, b9⟩ := f2 (hmKept (hmSums k1 d), hmKeptBy (hmSums k1 d), va_up (hmAhead (hmSums k1 d)) d (hmSum (hmSums k1 d) d), va_up (hmAgst (hmSums k1 d)) d c, va_up (hmSum (hmSums k1 d)) d 0, va_up (hmSumBy (hmSums k1 d)) d 20, hmTerm (hmSums k1 d), hmTermBy (hmSums k1 d), hmByNot (hmSums k1 d)) (hmRl_of hl a9) (va_up_self _ _ _) (va_up_self _ _ _) (va_up_self _ _ _)
  refine ⟨k3, ?_, ?_, ?_, b7.trans a7, b8.trans a8, b9.trans a9⟩
  · refine r1.app ((?_ : hmRn hh m o t (d, k1) [c] _).app r3)
    have q := hmRn.one (h := hh) (m := m) (o := o) (t := t) (s := (d, k1)) (c := c) (show d ≤ 5 by omega) (fun q => absurd q (by rcases hc2 with rfl | rfl <;> decide))
    rw [hmW_24 hc2] at q
    exact q
  · refine b1.tr (fun j hj => ?_)
    obtain ⟨z1, z2, z3, z4, z5, z6, z7, z8, z9⟩ := a1 j hj
    exact ⟨z1, z2, (va_up_ne _ _ (by omega)).trans z3, (va_up_ne _ _ (by omega)).trans z4, ((va_up_ne _ _ (by omega)).trans (va_up_ne _ _ (by omega))).trans z5, (va_up_ne _ _ (by omega)).trans z6, z7, (va_up_ne _ _ (by omega)).trans z8, z9⟩
  · have y1 : hmAgst (hmSums k3 d) d = c := b6.trans (va_up_self _ _ _)
    have y2 : hmAhead (hmSums k3 d) d = v1 := b5.trans ((va_up_self _ _ _).trans ((va_up_self _ _ _).trans a2))
    have y3 : hmSum (hmSums k3 d) d = v2 := (va_up_self _ _ _).trans b2
    unfold hmCmpV
    rw [y1, y2, y3]
    rcases hc2 with rfl | rfl <;> rfl
theorem hmST_SW {d : Nat} {ci cp : List Int32} (h : hmST d ci cp) : hmSW d ci cp := by
  obtain ⟨h1, h2, h3, h4⟩ := h
  refine ⟨h1, h2, hmHq_lt h3 (by omega), fun hh m o t => ?_⟩
  obtain ⟨v, e1, e2⟩ := h4 hh m o t
  refine ⟨v, e1, fun k hl htb hs0 hs20 hg0 hk0 => ?_⟩
  obtain ⟨k1, r1, a1, a2, a7, a8, a9⟩ := e2 k hl htb hs0 hs20 hg0
  refine ⟨k1, r1, a1, ?_, a9⟩
  have y : hmKeptBy (hmSums k1 d) d = 0 := a8.trans hk0
  refine (va_up_self _ _ _).trans ?_
  unfold hmJoinV
  rw [y, if_neg (by decide), if_neg (by decide)]
  exact a2
theorem hmSW_join {d : Nat} {ci cp c2 p2 : List Int32} {c s : Int32} (hc : (c = 26 ∧ s = -6) ∨ (c = 27 ∧ s = -7)) (h : hmSW d ci cp) (g : hmST d c2 p2) : hmSW d (ci ++ c :: c2) (cp ++ p2 ++ [s]) := by
  obtain ⟨h1, h2, h3, h4⟩ := h
  obtain ⟨g1, g2, g3, g4⟩ := g
  have hc2 : c = 26 ∨ c = 27 := hc.elim (fun q => Or.inl q.1) (fun q => Or.inr q.1)
  refine ⟨h1, hm_cod2 h2 g2 (by rcases hc2 with rfl | rfl <;> simp [hmCod]), fun k r hk => (hmHq_two h3 g3 (by rcases hc with ⟨-, rfl⟩ | ⟨-, rfl⟩ <;> decide) (by rcases hc with ⟨-, rfl⟩ | ⟨-, rfl⟩ <;> decide) (by omega)) k r (by omega), fun hh m o t => ?_⟩
  obtain ⟨v1, e1, e2⟩ := h4 hh m o t
  obtain ⟨v2, f1, f2⟩ := g4 hh m o t
  refine ⟨if c = 26 then (if ¬ v1 = 0 ∧ ¬ v2 = 0 then 1 else 0) else (if ¬ v1 = 0 ∨ ¬ v2 = 0 then 1 else 0), fun st => ?_, fun k hl htb hs0 hs20 hg0 hk0 => ?_⟩
  · rw [hm_post2 e1 f1 st]
    rcases hc with ⟨rfl, rfl⟩ | ⟨rfl, rfl⟩ <;> rfl
  obtain ⟨k1, r1, a1, a2, a9⟩ := e2 k hl htb hs0 hs20 hg0 hk0
  obtain ⟨k3, r3, b1, b2, b7, b8, b9⟩ := f2 (hmKept (hmTests k1 d), va_up (hmKeptBy (hmTests k1 d)) d c, hmAhead (hmTests k1 d), hmAgst (hmTests k1 d), hmSum (hmTests k1 d), hmSumBy (hmTests k1 d), hmTerm (hmTests k1 d), hmTermBy (hmTests k1 d), hmByNot (hmTests k1 d)) (hmRl_of hl a9) (va_up_self _ _ _) (va_up_self _ _ _) (va_up_self _ _ _) (va_up_self _ _ _)
  refine ⟨k3, ?_, ?_, ?_, b9.trans a9⟩
  · refine r1.app ((?_ : hmRn hh m o t (d, k1) [c] _).app r3)
    have q := hmRn.one (h := hh) (m := m) (o := o) (t := t) (s := (d, k1)) (c := c) (show d ≤ 5 by omega) (fun q => absurd q (by rcases hc2 with rfl | rfl <;> decide))
    rw [hmW_26 hc2] at q
    exact q
  · refine b1.tr (fun j hj => ?_)
    obtain ⟨z1, z2, z3, z4, z5, z6, z7, z8, z9⟩ := (hmTests_ag (k := k1) (d := d)).tr a1 j hj
    exact ⟨z1, (va_up_ne _ _ (by omega)).trans z2, z3, z4, z5, z6, z7, z8, z9⟩
  · have y1 : hmKeptBy (hmSums k3 d) d = c := b8.trans (va_up_self _ _ _)
    have y2 : hmKept (hmSums k3 d) d = v1 := b7.trans a2
    refine (va_up_self _ _ _).trans ?_
    unfold hmJoinV
    rw [y1, y2, b2]
    rcases hc2 with rfl | rfl <;> rfl
theorem hmSW_paren {d : Nat} {ci cp : List Int32} (h : hmSW (d + 1) ci cp) : hmSP d (28 :: (ci ++ [29])) cp := by
  obtain ⟨h1, h2, h3, h4⟩ := h
  refine ⟨by omega, fun x hx => ?_, fun k r hk => h3 k r (by omega), fun hh m o t => ?_⟩
  · rcases List.mem_cons.mp hx with q | q
    · rw [q]; simp [hmCod]
    · rcases List.mem_append.mp q with q | q
      · exact h2 x q
      · rw [List.mem_singleton.mp q]; simp [hmCod]
  obtain ⟨v, e1, e2⟩ := h4 hh m o t
  refine ⟨v, e1, fun k => ?_⟩
  obtain ⟨k2, r2, a1, a2, a9⟩ := e2 (hmOpn k (d + 1) 0) (Or.inr (by rw [show hmByNot (hmOpn k (d + 1) 0) (d + 1) = 0 from va_up_self _ _ _]; decide)) (va_up_self _ _ _) (va_up_self _ _ _) (va_up_self _ _ _) (va_up_self _ _ _) (va_up_self _ _ _)
  refine ⟨hmTests k2 (d + 1), ?_, hmTests_ag.tr (a1.tr hmOpn_ag)⟩
  have q1 := hmRn.one (h := hh) (m := m) (o := o) (t := t) (s := (d, k)) (c := 28) (show d ≤ 5 by omega) (fun q => absurd q (by decide))
  rw [hmW_28 (Or.inl rfl), if_neg (by decide)] at q1
  have q2 := hmRn.one (h := hh) (m := m) (o := o) (t := t) (s := (d + 1, k2)) (c := 29) (show d + 1 ≤ 5 by omega) (fun _ => show 1 ≤ d + 1 by omega)
  rw [hmW_29, show hmKept (hmTests (d + 1, k2).2 (d + 1, k2).1) (d + 1, k2).1 = v from a2] at q2
  exact q1.app (r2.app q2)
theorem hmSP_not {d : Nat} {ci cp : List Int32} (h : hmSP (d + 1) ci cp) : hmSP d (30 :: ci) (cp ++ [-5]) := by
  obtain ⟨h1, h2, h3, h4⟩ := h
  refine ⟨by omega, fun x hx => ?_, fun k r hk => ?_, fun hh m o t => ?_⟩
  · rcases List.mem_cons.mp hx with q | q
    · rw [q]; simp [hmCod]
    · exact h2 x q
  · rw [List.append_assoc, h3 k _ (by omega)]
    have e : hmHi ((-5) :: r) (k + 1) = if (-5 : Int32) < -12 then none else if (-5 : Int32) < -5 then (if 2 ≤ k + 1 then hmHi r (k + 1 - 1) else none) else if (-5 : Int32) = -5 then (if 1 ≤ k + 1 then hmHi r (k + 1) else none) else (if k + 1 + 1 ≤ 32 then hmHi r (k + 1 + 1) else none) := rfl
    show hmHi ((-5) :: r) (k + 1) = _
    rw [e, if_neg (by decide), if_neg (by decide), if_pos rfl, if_pos (by omega)]
  obtain ⟨v, e1, e2⟩ := h4 hh m o t
  refine ⟨if v = 0 then 1 else 0, fun st => ?_, fun k => ?_⟩
  · rw [List.foldl_append, e1]
    rfl
  obtain ⟨k2, r2, a1⟩ := e2 (hmOpn k (d + 1) 1)
  have hb : hmByNot k2 (d + 1) = 1 := (a1 (d + 1) (by omega)).2.2.2.2.2.2.2.2.trans (va_up_self _ _ _)
  have hv : hmVal k2 (d + 1) v = hmVal k2 d (if v = 0 then 1 else 0) := by
    have e : hmVal k2 (d + 1) v = if hmByNot k2 (d + 1) = 1 then hmVal k2 d (if v = 0 then 1 else 0) else (d + 1, hmPutT k2 (d + 1) v) := rfl
    rw [e, if_pos hb]
  rw [hv] at r2
  refine ⟨k2, ?_, (a1.lt (by omega)).tr hmOpn_ag⟩
  have q1 := hmRn.one (h := hh) (m := m) (o := o) (t := t) (s := (d, k)) (c := 30) (show d ≤ 5 by omega) (fun q => absurd q (by decide))
  rw [hmW_28 (Or.inr rfl), if_pos rfl] at q1
  exact q1.app r2
theorem hmHq_val {s : Int32} (h : -5 < s) : hmHq 1 [s] := fun k r hk => by
  have e : hmHi (s :: r) k = if s < -12 then none else if s < -5 then (if 2 ≤ k then hmHi r (k - 1) else none) else if s = -5 then (if 1 ≤ k then hmHi r k else none) else (if k + 1 ≤ 32 then hmHi r (k + 1) else none) := rfl
  show hmHi (s :: r) k = _
  have h1 : ¬ s < -5 := fun q => Int32.lt_irrefl (Int32.lt_trans h q)
  have h2 : ¬ s < -12 := fun q => h1 (Int32.lt_trans q (by decide))
  have h3 : ¬ s = -5 := fun q => by rw [q] at h; exact absurd h (by decide)
  rw [e, if_neg h2, if_neg h1, if_neg h3, if_pos hk]
theorem hm_wval {h m o t c : Int32} {s : Nat × hmW9} (h1 : ¬ (c = 28 ∨ c = 30)) (h2 : ¬ (c = 20 ∨ c = 21)) (h3 : ¬ c = 22) (h4 : ¬ (c = 24 ∨ c = 25)) (h5 : ¬ (c = 26 ∨ c = 27)) (h6 : ¬ c = 29) : hmWstep h m o t s c = hmVal s.2 s.1 (if c < 100 then hmFct h m o t c else c - 100) := by
  unfold hmWstep
  rw [if_neg h1, if_neg h2, if_neg h3, if_neg h4, if_neg h5, if_neg h6]
theorem hmSP_fact {d : Nat} (hd : d ≤ 4) {k : Nat} (hk : k = 12 ∨ k = 13 ∨ k = 14 ∨ k = 15) : hmSP d [hmVc k] [hmVp k] := by
  refine ⟨hd, fun x hx => ?_, hmHq_lt (hmHq_val ?_) (by omega), fun hh m o t => ?_⟩
  · rw [List.mem_singleton.mp hx]
    rcases hk with rfl | rfl | rfl | rfl <;> simp [hmCod, hmVc] <;> decide
  · rcases hk with rfl | rfl | rfl | rfl <;> decide
  · refine ⟨if k = 12 then hh else if k = 13 then m else if k = 14 then o else t, fun st => ?_, fun k9 => ⟨k9, ?_, hmAg.rf⟩⟩
    · rcases hk with rfl | rfl | rfl | rfl <;> rfl
    · have q := hmRn.one (h := hh) (m := m) (o := o) (t := t) (s := (d, k9)) (c := hmVc k) (show d ≤ 5 by omega) (fun q => absurd q (by rcases hk with rfl | rfl | rfl | rfl <;> decide))
      rw [hm_wval (by rcases hk with rfl | rfl | rfl | rfl <;> decide) (by rcases hk with rfl | rfl | rfl | rfl <;> decide) (by rcases hk with rfl | rfl | rfl | rfl <;> decide) (by rcases hk with rfl | rfl | rfl | rfl <;> decide) (by rcases hk with rfl | rfl | rfl | rfl <;> decide) (by rcases hk with rfl | rfl | rfl | rfl <;> decide)] at q
      rcases hk with rfl | rfl | rfl | rfl <;> exact q
theorem hmSP_num {d : Nat} (hd : d ≤ 4) {n : Nat} (hn : n < 10000) : hmSP d [hmVc (16 + n)] [hmVp (16 + n)] := by
  have ec : hmVc (16 + n) = nI (100 + n) := by
    unfold hmVc
    rw [if_neg (by omega), show 16 + n - 16 = n by omega]
  have ep : hmVp (16 + n) = nI n := by
    unfold hmVp
    rw [if_neg (by omega), if_neg (by omega), if_neg (by omega), if_neg (by omega), show 16 + n - 16 = n by omega]
  have hne : ∀ j, j < 100 → ¬ nI (100 + n) = nI j := fun j hj q => absurd ((nI_eq (by omega) (by omega)).mp q) (by omega)
  have h0 : 0 ≤ nI n := hm_nI0 (by omega)
  rw [ec, ep]
  refine ⟨hd, fun x hx => ?_, hmHq_lt (hmHq_val (Int32.lt_of_lt_of_le (by decide) h0)) (by omega), fun hh m o t => ?_⟩
  · rw [List.mem_singleton.mp hx]
    unfold hmCod
    exact Or.inr (Or.inr (Or.inr (Or.inr (Or.inr (Or.inr (Or.inr (Or.inr (Or.inr (Or.inr (Or.inr (Or.inr (Or.inr (Or.inr ⟨n, hn, rfl⟩)))))))))))))
  · refine ⟨nI n, fun st => ?_, fun k9 => ⟨k9, ?_, hmAg.rf⟩⟩
    · show hmStep hh m o t st (nI n) = _
      have nn : ∀ z : Int32, z < 0 → ¬ nI n = z := fun z hz q => by rw [q] at h0; exact absurd (Int32.lt_of_le_of_lt h0 hz) (fun w => Int32.lt_irrefl w)
      unfold hmStep
      rw [if_neg (fun q => Int32.lt_irrefl (Int32.lt_of_le_of_lt h0 (Int32.lt_trans q (by decide)))), if_neg (nn _ (by decide)), if_neg (nn _ (by decide)), if_neg (nn _ (by decide)), if_neg (nn _ (by decide))]
    · have q := hmRn.one (h := hh) (m := m) (o := o) (t := t) (s := (d, k9)) (c := nI (100 + n)) (show d ≤ 5 by omega) (fun q => absurd q (hne 29 (by omega)))
      rw [hm_wval (fun z => z.elim (hne 28 (by omega)) (hne 30 (by omega))) (fun z => z.elim (hne 20 (by omega)) (hne 21 (by omega))) (hne 22 (by omega)) (fun z => z.elim (hne 24 (by omega)) (hne 25 (by omega))) (fun z => z.elim (hne 26 (by omega)) (hne 27 (by omega))) (hne 29 (by omega)), if_neg (show ¬ nI (100 + n) < 100 from fun z => absurd ((nI_ltI (a := 100 + n) (b := 100) (by omega) (by omega)).mp z) (by omega)), show nI (100 + n) - 100 = nI n from (pk_sub (a := 100 + n) (b := 100) (by omega)).trans (by rw [show 100 + n - 100 = n by omega])] at q
      exact q
theorem hmSP_val {d : Nat} (hd : d ≤ 4) {k : Nat} (h1 : 12 ≤ k) (h2 : k < 10016) : hmSP d [hmVc k] [hmVp k] := by
  by_cases h : k < 16
  · exact hmSP_fact hd (by omega)
  · have e : k = 16 + (k - 16) := by omega
    rw [e]
    exact hmSP_num hd (by omega)
/-- a law's codes and its steps say the same -/
def hmSem (cd lw : List Int32) : Prop := cd ≠ [] ∧ (∀ k0 h m o t, hmWok cd k0 h m o t ∧ hmWk cd k0 h m o t = hmLawV lw h m o t) ∧ hmHi lw 0 = some 1
theorem hmSW_sem {cd lw : List Int32} (hn : cd ≠ []) (h : hmSW 0 cd lw) : hmSem cd lw := by
  obtain ⟨h1, h2, h3, h4⟩ := h
  refine ⟨hn, fun k0 hh m o t => ?_, ?_⟩
  · obtain ⟨v, e1, e2⟩ := h4 hh m o t
    obtain ⟨k', r1, a1, a2, a9⟩ := e2 (hmOpens k0 0) (Or.inl rfl) (va_up_self (hmTermBy k0) 0 0) (va_up_self (hmSum k0) 0 0) (va_up_self (hmSumBy k0) 0 20) (va_up_self (hmAgst k0) 0 0) (va_up_self (hmKeptBy k0) 0 0)
    refine ⟨⟨h2, r1.2⟩, ?_⟩
    unfold hmWk hmLawV
    rw [r1.1, e1 []]
    exact a2
  · have h5 := h3 0 [] (by omega)
    rw [List.append_nil] at h5
    rw [h5]
    rfl
