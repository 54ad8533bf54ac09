/-! the orders of some callers, by numbers -/
def hmWo (s : Int32) (c : Nat) : Int32 := s &&& (hmOne c ^^^ -1)
def hmPm : Nat → Int32 → List (List Nat)
  | 0, _ => [[]]
  | n + 1, s => (hmMem s 6).flatMap (fun c => (hmPm n (hmWo s c)).map (fun r => c :: r))
def hmRise (r : List Nat) : Nat → Option Nat
  | 0 => none
  | i + 1 => if r.getD (i + 1) 0 < r.getD i 0 then hmRise r i else some i
def hmOver (r : List Nat) (p : Nat) : Nat → Nat
  | 0 => 0
  | j + 1 => if p < j + 1 ∧ r.getD (j + 1) 0 < r.getD p 0 then hmOver r p j else j + 1
def hmXc (r : List Nat) (i j : Nat) : List Nat := (r.set i (r.getD j 0)).set j (r.getD i 0)
def hmRv : Nat → List Nat → Nat → Nat → List Nat
  | 0, r, _, _ => r
  | f + 1, r, i, j => if i < j then hmRv f (hmXc r i j) (i + 1) (j - 1) else r
def hmAdv (r : List Nat) : Option (List Nat) := match hmRise r (r.length - 1) with
  | none => none
  | some p => some (hmRv 6 (hmXc r p (hmOver r p (r.length - 1))) (p + 1) (r.length - 1))
def hmIt : Nat → List Nat → List (List Nat)
  | 0, _ => []
  | n + 1, r => r :: (match hmAdv r with
    | none => []
    | some r' => hmIt n r')
def hmOkR (s : Int32) (r : List Nat) : Bool := r.length == (hmMem s 6).length && decide r.Nodup && (List.range 6).all (fun x => hmBit s x == r.contains x) && r.all (fun x => decide (x < 6))
def hmOkP (k : Nat) : Bool := hmPm (hmMem (nI k) 6).length (nI k) == hmIt 720 (hmMem (nI k) 6) && (hmPm (hmMem (nI k) 6).length (nI k)).all (hmOkR (nI k))
theorem hm_okP : ∀ k, k < 64 → hmOkP k = true := by decide +kernel
theorem hm_pm_it {s : Int32} (hs : hmS6 s) : hmPm (hmMem s 6).length s = hmIt 720 (hmMem s 6) := by
  obtain ⟨k, hk, rfl⟩ := hs
  have h := hm_okP k hk
  unfold hmOkP at h
  rw [Bool.and_eq_true] at h
  exact eq_of_beq h.1
theorem hm_pm_ok {s : Int32} (hs : hmS6 s) {r : List Nat} (hr : r ∈ hmPm (hmMem s 6).length s) : r.length = (hmMem s 6).length ∧ r.Nodup ∧ (∀ x, x < 6 → (hmBit s x = true ↔ x ∈ r)) ∧ ∀ x, x ∈ r → x < 6 := by
  obtain ⟨k, hk, rfl⟩ := hs
  have h := hm_okP k hk
  unfold hmOkP at h
  rw [Bool.and_eq_true, List.all_eq_true] at h
  have h2 := h.2 r hr
  unfold hmOkR at h2
  rw [Bool.and_eq_true, Bool.and_eq_true, Bool.and_eq_true, List.all_eq_true, List.all_eq_true] at h2
  obtain ⟨⟨⟨a, b⟩, c⟩, e⟩ := h2
  refine ⟨eq_of_beq a, of_decide_eq_true b, fun x hx => ?_, fun x hx => of_decide_eq_true (e x hx)⟩
  have h3 := eq_of_beq (c x (List.mem_range.mpr hx))
  rw [h3, List.contains_iff_mem]
theorem hm_cnt_mem0 : ∀ k, k < 64 → hmCnt (nI k) = nI (hmMem (nI k) 6).length := by decide +kernel
theorem hm_cnt_mem {s : Int32} (hs : hmS6 s) : hmCnt s = nI (hmMem s 6).length := by
  obtain ⟨k, hk, rfl⟩ := hs
  exact hm_cnt_mem0 k hk
theorem hmMem_mono {a b : Int32} (h : ∀ w, w < 6 → hmBit a w = true → hmBit b w = true) : (hmMem a 6).length ≤ (hmMem b 6).length := by
  unfold hmMem
  rw [← List.countP_eq_length_filter, ← List.countP_eq_length_filter]
  exact List.countP_mono_left (fun x hx => h x (List.mem_range.mp hx))
theorem hmMem_n {a : Int32} {n : Nat} (hn : n ≤ 6) (h : ∀ w, w < 6 → hmBit a w = true → w < n) : ∀ i, n + i ≤ 6 → hmMem a (n + i) = hmMem a n := by
  intro i
  induction i with
  | zero => intro _; rfl
  | succ i ih =>
    intro hi
    rw [show n + (i + 1) = n + i + 1 by omega, hmMem_s]
    by_cases hb : hmBit a (n + i) = true
    · exact absurd (h (n + i) (by omega) hb) (by omega)
    · rw [if_neg hb]
      exact ih (by omega)
theorem hmMem_n6 {a : Int32} {n : Nat} (hn : n ≤ 6) (h : ∀ w, w < 6 → hmBit a w = true → w < n) : hmMem a 6 = hmMem a n := by
  have h1 := hmMem_n hn h (6 - n) (by omega)
  rw [← h1, show n + (6 - n) = 6 by omega]
theorem hmMem_mem {a : Int32} {i w : Nat} : w ∈ hmMem a i ↔ w < i ∧ hmBit a w = true := by
  unfold hmMem
  rw [List.mem_filter, List.mem_range]
/-- settled are only callers -/
def hmSb (n : Nat) (H : hmH) : Prop := ∀ w, w < 6 → hmBit (hmSet H) w = true → w < n
theorem hmMinute_sub {O : hmO} {H : hmH} {tk : Nat} (hok : hmOk O H) (ho : hmOok O) {w : Nat} (hw : w < 6) (h : hmBit (hmSet (hmMinute O tk H)) w = true) : hmBit (hmSet H) w = true ∨ w ∈ hmLine H := by
  have o6 := ho.1
  have hl6 : ∀ u, u ∈ hmLine H → u < 6 := fun u hu => by have := hok.2.1 u hu; omega
  have hline : ∀ u, u ∈ hmLine (hmTick (hmHold O (hmSettle O (hmPairs O H ((hmLine H).length / 2))))) → u ∈ hmLine H := fun u hu => by
    have h1 := (List.mem_filter.mp hu).1
    have h2 := (List.mem_filter.mp h1).1
    rw [hmPairs_line] at h2
    exact h2
  have hfl : ∀ u, u ∈ (hmLine (hmPairs O H ((hmLine H).length / 2))).filter (hmHelped O (hmHas (hmPairs O H ((hmLine H).length / 2)))) → u ∈ hmLine H := fun u hu => by
    have h1 := (List.mem_filter.mp hu).1
    rw [hmPairs_line] at h1
    exact h1
  have hfb := hm_fold_bits ((hmLine (hmPairs O H ((hmLine H).length / 2))).filter (hmHelped O (hmHas (hmPairs O H ((hmLine H).length / 2))))) (hmSet (hmPairs O H ((hmLine H).length / 2))) (by rw [hmPairs_set]; exact hok.2.2.2.1) (fun u hu => hl6 u (hfl u hu))
  have hset : ∀ u, u < 6 → hmBit (hmSet (hmTick (hmHold O (hmSettle O (hmPairs O H ((hmLine H).length / 2)))))) u = true → hmBit (hmSet H) u = true ∨ u ∈ hmLine H := fun u hu hb => by
    have h1 := hfb.2 u hu
    have h2 : hmBit (((hmLine (hmPairs O H ((hmLine H).length / 2))).filter (hmHelped O (hmHas (hmPairs O H ((hmLine H).length / 2))))).foldl (fun s w => s ||| hmOne w) (hmSet (hmPairs O H ((hmLine H).length / 2)))) u = true := hb
    rw [h1, Bool.or_eq_true, hmPairs_set] at h2
    rcases h2 with h2 | h2
    · exact Or.inl h2
    · exact Or.inr (hfl u (of_decide_eq_true h2))
  have hs6 : hmS6 (hmSet (hmTick (hmHold O (hmSettle O (hmPairs O H ((hmLine H).length / 2)))))) := hfb.1
  unfold hmMinute hmLast at h
  cases e : hmLine (hmTick (hmHold O (hmSettle O (hmPairs O H ((hmLine H).length / 2))))) with
  | nil =>
    rw [e] at h
    exact hset w hw h
  | cons v t =>
    rw [e] at h
    have hv : v ∈ hmLine H := hline v (by rw [e]; exact List.mem_cons_self)
    by_cases hc : hmMin (hmTick (hmHold O (hmSettle O (hmPairs O H ((hmLine H).length / 2))))) % tk = 0
    · simp only [if_pos hc] at h
      have h3 : hmBit (hmSet (hmTick (hmHold O (hmSettle O (hmPairs O H ((hmLine H).length / 2))))) ||| hmOne v) w = true := h
      rw [hm_bit_or hs6 (hl6 v hv) hw, Bool.or_eq_true] at h3
      rcases h3 with h3 | h3
      · exact hset w hw h3
      · exact Or.inr (by rw [← eq_of_beq h3]; exact hv)
    · simp only [if_neg hc] at h
      exact hset w hw h
theorem hmSb_minute {O : hmO} {H : hmH} {tk : Nat} (hok : hmOk O H) (ho : hmOok O) (h : hmSb (hmN O) H) : hmSb (hmN O) (hmMinute O tk H) := fun w hw hb => (hmMinute_sub hok ho hw hb).elim (h w hw) (hok.2.1 w)
theorem hmSb_come {n : Nat} {H : hmH} {w : Nat} (h : hmSb n H) : hmSb n (hmCome H w) := h
theorem hmSb_leave {n : Nat} {H : hmH} {w : Nat} (h : hmSb n H) : hmSb n (hmLeave H w) := by
  unfold hmLeave
  split
  · exact h
  · exact h
theorem hmSb_swap {n : Nat} {H : hmH} {w v : Nat} (h : hmSb n H) : hmSb n (hmSwap H w v) := by
  unfold hmSwap
  split
  · exact h
  · exact h
theorem hmSb_begin (O : hmO) (n : Nat) : hmSb n (hmBegin O) := fun w hw hb => by
  have h1 : hmBit 0 w = true := hb
  rw [hm_bit0 hw] at h1
  exact absurd h1 (by decide)
theorem hmSb_out {O : hmO} (ho : hmOok O) : ∀ (n : Nat) (H : hmH), hmOk O H → hmSb (hmN O) H → hmSb (hmN O) (hmOut O n H).2 := by
  intro n
  induction n with
  | zero => intro H _ h; exact h
  | succ n ih =>
    intro H hok h
    unfold hmOut
    split
    · exact h
    · exact ih _ (hmOk_minute hok ho) (hmSb_minute hok ho h)
/-- the best of some orders -/
def hmWg (f : List Nat → Int32) (b : Int32 × List Nat) (r : List Nat) : Int32 × List Nat := if f r ≤ b.1 then b else (f r, r)
theorem hmWg_stop {f : List Nat → Int32} {b : Int32 × List Nat} : ∀ (l : List (List Nat)), (∀ r, r ∈ l → f r ≤ b.1) → l.foldl (hmWg f) b = b := by
  intro l
  induction l with
  | nil => intro _; rfl
  | cons r l ih =>
    intro h
    rw [List.foldl_cons]
    have h1 : hmWg f b r = b := if_pos (h r List.mem_cons_self)
    rw [h1]
    exact ih (fun x hx => h x (List.mem_cons_of_mem _ hx))
def hmFind (f : List Nat → Int32) (s : Int32) : Nat × Int32 × List Nat := ((hmMem s 6).length, (hmPm (hmMem s 6).length s).foldl (hmWg f) (-1, []))
/-- those of a row ring one after the other -/
def hmCm (H : hmH) (r : List Nat) : hmH := r.foldl hmCome H
theorem hmCm_s (H : hmH) (r : List Nat) {i : Nat} (hi : i < r.length) : hmCm H (r.take (i + 1)) = hmCome (hmCm H (r.take i)) (r.getD i 0) := by
  unfold hmCm
  rw [List.take_succ, List.foldl_append, List.getD_eq_getElem?_getD, List.getElem?_eq_getElem hi]
  rfl
theorem hmCm_can {O : hmO} (ho : hmOok O) : ∀ (r : List Nat) (H : hmH), hmOk O H → r.Nodup → (∀ x, x ∈ r → x < hmN O ∧ hmCanRing H x = true) → hmOk O (hmCm H r) ∧ hmSet (hmCm H r) = hmSet H ∧ hmMin (hmCm H r) = hmMin H ∧ hmLine (hmCm H r) = hmLine H ++ r := by
  intro r
  induction r with
  | nil =>
    intro H hok _ _
    exact ⟨hok, rfl, rfl, (List.append_nil _).symm⟩
  | cons c r ih =>
    intro H hok hnd hc
    rw [List.nodup_cons] at hnd
    obtain ⟨h1, h2⟩ := hc c List.mem_cons_self
    have h3 := ih (hmCome H c) (hmOk_come hok ho h1 h2) hnd.2 (fun x hx => by
      obtain ⟨a, b⟩ := hc x (List.mem_cons_of_mem _ hx)
      refine ⟨a, ?_⟩
      have hne : x ≠ c := fun q => hnd.1 (q ▸ hx)
      have b2 : hmBit (hmSet H) x = false ∧ x ∉ hmLine H := by simpa [hmCanRing] using b
      have b3 : x ∉ hmLine H ++ [c] := by simp [b2.2, hne]
      have e1 : hmSet (hmCome H c) = hmSet H := rfl
      have e2 : hmLine (hmCome H c) = hmLine H ++ [c] := rfl
      simp [hmCanRing, e1, e2, b2.1, b2.2, hne])
    obtain ⟨a, b, c1, e⟩ := h3
    refine ⟨a, b, c1, e.trans ?_⟩
    have e2 : hmLine (hmCome H c) = hmLine H ++ [c] := rfl
    rw [e2, List.append_assoc]
    rfl
/-- how many are settled in the end if they ring so; in the minute to come, if they stand so -/
def hmFo (O : hmO) (H : hmH) (r : List Nat) : Int32 := hmCnt (hmSet (hmOut O 30 (hmCm H r)).2)
def hmNx (O : hmO) (H : hmH) (r : List Nat) : Int32 := hmSet (hmMinute O (hmTk O) (hmStand H r)) &&& (hmSet H ^^^ -1)
def hmFe2 (O : hmO) (H : hmH) (r : List Nat) : Int32 := hmCnt (hmNx O H r)
def spOrder (O : hmO) (H : hmH) (v : Int32) : Int32 := spBest (hmFind (hmFo O H) (hmFree (hmN O) H)) v
def spDeal (O : hmO) (H : hmH) (v : Int32) : Int32 := spBest (hmFind (hmFe2 O H) (hmBits (hmLine H))) v
def hmGd (O : hmO) (H : hmH) (w : Nat) (g : Nat) (l : List (List Nat)) : Nat := l.foldl (fun g r => if hmBit (hmNx O H r) w = true then g + 1 else g) g
def hmRows (H : hmH) : List (List Nat) := hmPm (hmMem (hmBits (hmLine H)) 6).length (hmBits (hmLine H))
def spChance (O : hmO) (H : hmH) (v : Int32) : Int32 := if hmOn (hmN O) H v = true then nI (hmGd O H (hmIx v) 0 (hmRows H) * 1000000 / (hmRows H).length) else -1
theorem hmOk_stand {O : hmO} {H : hmH} (hok : hmOk O H) {r : List Nat} (hn : r.Nodup) (hr : ∀ x, x ∈ r ↔ x ∈ hmLine H) : hmOk O (hmStand H r) := by
  obtain ⟨a1, a2, a3, a4, a5, a6, a7, a8, a9⟩ := hok
  exact ⟨hn, fun w hw => a2 w ((hr w).mp hw), a3, a4, a5, fun w hw => a6 w ((hr w).mp hw), fun w hw => a7 w (fun q => hw ((hr w).mpr q)), fun w hw => a8 w ((hr w).mp hw), a9⟩
theorem hm_line_s6 {O : hmO} {H : hmH} (hok : hmOk O H) (ho : hmOok O) : hmS6 (hmBits (hmLine H)) := hm_bits_s6 (fun u hu => by have := hok.2.1 u hu; have := ho.1; omega)
/-- an order of those on the line -/
theorem hm_row_line {O : hmO} {H : hmH} (hok : hmOk O H) (ho : hmOok O) {r : List Nat} (hr : r ∈ hmRows H) : r.length = (hmLine H).length ∧ hmOk O (hmStand H r) ∧ r.Nodup ∧ (∀ x, x ∈ r ↔ x ∈ hmLine H) ∧ ∀ x, x ∈ r → x < 6 := by
  have o6 := ho.1
  have hl6 : ∀ u, u ∈ hmLine H → u < 6 := fun u hu => by have := hok.2.1 u hu; omega
  obtain ⟨a, b, c, e⟩ := hm_pm_ok (hm_line_s6 hok ho) hr
  have hm : ∀ x, x ∈ r ↔ x ∈ hmLine H := fun x => by
    constructor
    · intro hx
      have h1 := (c x (e x hx)).mpr hx
      rw [hm_bits_mem hl6 (e x hx)] at h1
      exact of_decide_eq_true h1
    · intro hx
      refine (c x (hl6 x hx)).mp ?_
      rw [hm_bits_mem hl6 (hl6 x hx)]
      exact decide_eq_true hx
  refine ⟨?_, hmOk_stand hok b hm, b, hm, e⟩
  exact (List.perm_ext_iff_of_nodup b hok.1).mpr hm |>.length_eq
theorem hmNx_s6 {O : hmO} {H : hmH} (hok : hmOk O H) (ho : hmOok O) {r : List Nat} (hr : r ∈ hmRows H) : hmS6 (hmNx O H r) := hm_s6_and (hmOk_minute (hm_row_line hok ho hr).2.1 ho).2.2.2.1
theorem hmNx_le {O : hmO} {H : hmH} (hok : hmOk O H) (ho : hmOok O) {r : List Nat} (hr : r ∈ hmRows H) : (hmMem (hmNx O H r) 6).length ≤ (hmMem (hmBits (hmLine H)) 6).length := by
  obtain ⟨a, b, c, e, g⟩ := hm_row_line hok ho hr
  have o6 := ho.1
  have hl6 : ∀ u, u ∈ hmLine H → u < 6 := fun u hu => by have := hok.2.1 u hu; omega
  refine hmMem_mono (fun w hw hb => ?_)
  unfold hmNx at hb
  rw [hm_bit_diff (hmOk_minute b ho).2.2.2.1 hok.2.2.2.1 hw, Bool.and_eq_true] at hb
  have h1 := hmMinute_sub b ho hw hb.1
  rw [hm_bits_mem hl6 hw]
  refine decide_eq_true ?_
  rcases h1 with h1 | h1
  · have h2 : hmBit (hmSet H) w = true := h1
    rw [h2] at hb
    exact absurd hb.2 (by decide)
  · exact (e w).mp h1
theorem hmSub_same0 : ∀ k, k < 64 → hmSub (nI k) (nI k) = true := by decide +kernel
theorem hmSub_same {s : Int32} (hs : hmS6 s) : hmSub s s = true := by
  obtain ⟨k, hk, rfl⟩ := hs
  exact hmSub_same0 k hk
theorem hmFree_ok {O : hmO} {H : hmH} (hok : hmOk O H) (ho : hmOok O) {r : List Nat} (hr : r ∈ hmPm (hmMem (hmFree (hmN O) H) 6).length (hmFree (hmN O) H)) : r.length = (hmMem (hmFree (hmN O) H) 6).length ∧ r.Nodup ∧ (∀ x, x ∈ r → x < hmN O ∧ hmCanRing H x = true) := by
  have hs := hmFree_s6 ho.1 H
  obtain ⟨a, b, c, e⟩ := hm_pm_ok hs hr
  have hsub := hmSub_free ho.1 hs (H := H) (hmSub_same hs)
  exact ⟨a, b, fun x hx => hsub x (e x hx) ((c x (e x hx)).mpr hx)⟩
theorem hmFo_le {O : hmO} {H : hmH} (hok : hmOk O H) (ho : hmOok O) (hsb : hmSb (hmN O) H) {r : List Nat} (hr : r ∈ hmPm (hmMem (hmFree (hmN O) H) 6).length (hmFree (hmN O) H)) : hmFo O H r ≤ nI (hmN O) := by
  obtain ⟨a, b, c⟩ := hmFree_ok hok ho hr
  obtain ⟨e1, e2, e3, e4⟩ := hmCm_can ho r H hok b c
  have h1 := hmOut_ok ho 30 _ e1
  have h2 := hmSb_out ho 30 _ e1 (fun w hw hb => hsb w hw (by rw [← e2]; exact hb))
  have o6 := ho.1
  unfold hmFo
  rw [hm_cnt_mem h1.1.2.2.2.1, hmMem_n6 ho.1 h2]
  have h3 := hmMem_le (hmSet (hmOut O 30 (hmCm H r)).2) (hmN O)
  exact nI_le (by omega) (by omega)
