/-! sets of callers who ring up -/
/-- those of a set ring up, by numbers -/
def hmRs (s : Int32) (H : hmH) : Nat → hmH
  | 0 => H
  | i + 1 => if hmBit s i = true then hmCome (hmRs s H i) i else hmRs s H i
/-- who is settled at last -/
def spWith (O : hmO) (H : hmH) (s : Int32) : Int32 := hmSet (hmOut O 30 (hmRs s H (hmN O))).2
def hmSub (s F : Int32) : Bool := decide (s &&& (F ^^^ -1) = 0)
theorem hm_bit0 {w : Nat} (hw : w < 6) : hmBit 0 w = false := by
  have h2 : ∀ w, w < 6 → hmBit 0 w = false := by decide +kernel
  exact h2 w hw
theorem hmFree_s6 {n : Nat} (hn : n ≤ 6) (H : hmH) : hmS6 (hmFree n H) := hm_bits_s6 (fun u hu => by
  have h1 := List.mem_range.mp (List.mem_filter.mp hu).1
  omega)
theorem hmFree_bit {n : Nat} (hn : n ≤ 6) (H : hmH) {w : Nat} (hw : w < 6) : hmBit (hmFree n H) w = (decide (w < n) && hmCanRing H w) := by
  unfold hmFree
  rw [hm_bits_mem (fun u hu => by
    have h1 := List.mem_range.mp (List.mem_filter.mp hu).1
    omega) hw]
  rw [Bool.eq_iff_iff, decide_eq_true_eq, List.mem_filter, List.mem_range, Bool.and_eq_true, decide_eq_true_eq]
theorem hmSub_bit {s F : Int32} (hs : hmS6 s) (hF : hmS6 F) (h : hmSub s F = true) {w : Nat} (hw : w < 6) (hb : hmBit s w = true) : hmBit F w = true := by
  have h0 : s &&& (F ^^^ -1) = 0 := by simpa [hmSub] using h
  have h1 := hm_bit_diff hs hF hw
  rw [h0, hm_bit0 hw, hb, Bool.true_and] at h1
  cases hb2 : hmBit F w with
  | true => rfl
  | false => rw [hb2] at h1; exact absurd h1 (by decide)
def hmSubR (n : Nat) (s : Int32) (H : hmH) : Prop := ∀ w, w < 6 → hmBit s w = true → w < n ∧ hmCanRing H w = true
theorem hmSub_free {n : Nat} (hn : n ≤ 6) {s : Int32} {H : hmH} (hs : hmS6 s) (h : hmSub s (hmFree n H) = true) : hmSubR n s H := by
  intro w hw hb
  have h1 := hmSub_bit hs (hmFree_s6 hn H) h hw hb
  rw [hmFree_bit hn H hw] at h1
  simpa using h1
theorem hmRs_set (s : Int32) (H : hmH) (i : Nat) : hmSet (hmRs s H i) = hmSet H ∧ hmMin (hmRs s H i) = hmMin H ∧ hmTalk (hmRs s H i) = hmTalk H := by
  induction i with
  | zero => exact ⟨rfl, rfl, rfl⟩
  | succ i ih =>
    unfold hmRs
    split
    · exact ih
    · exact ih
theorem hmRs_line (s : Int32) (H : hmH) (i : Nat) {w : Nat} (h : w ∈ hmLine (hmRs s H i)) : w ∈ hmLine H ∨ w < i := by
  induction i with
  | zero => exact Or.inl h
  | succ i ih =>
    unfold hmRs at h
    split at h
    · rcases List.mem_append.mp h with q | q
      · rcases ih q with z | z
        · exact Or.inl z
        · exact Or.inr (by omega)
      · rw [List.mem_singleton.mp q]
        exact Or.inr (by omega)
    · rcases ih h with z | z
      · exact Or.inl z
      · exact Or.inr (by omega)
theorem hmRs_can {n : Nat} {s : Int32} {H : hmH} (hn : n ≤ 6) (h : hmSubR n s H) {i : Nat} (hi : i < n) (hb : hmBit s i = true) : hmCanRing (hmRs s H i) i = true := by
  have h1 := (h i (by omega) hb).2
  have h2 : hmBit (hmSet H) i = false ∧ i ∉ hmLine H := by simpa [hmCanRing] using h1
  have h3 : i ∉ hmLine (hmRs s H i) := fun q => by
    rcases hmRs_line s H i q with z | z
    · exact h2.2 z
    · omega
  simp [hmCanRing, (hmRs_set s H i).1, h2.1, h3]
theorem hmOk_rs {O : hmO} {s : Int32} {H : hmH} (hok : hmOk O H) (ho : hmOok O) (h : hmSubR (hmN O) s H) : ∀ i, i ≤ hmN O → hmOk O (hmRs s H i) := by
  intro i
  induction i with
  | zero => intro _; exact hok
  | succ i ih =>
    intro hi
    have h1 := ih (by omega)
    unfold hmRs
    split
    next hb => exact hmOk_come h1 ho (by omega) (hmRs_can ho.1 h (by omega) hb)
    · exact h1
theorem spWith_s6 {O : hmO} {s : Int32} {H : hmH} (hok : hmOk O H) (ho : hmOok O) (h : hmSubR (hmN O) s H) : hmS6 (spWith O H s) := (hmOut_ok ho 30 _ (hmOk_rs hok ho h (hmN O) (Nat.le_refl _))).1.2.2.2.1
theorem hm_s6_nI {s : Nat} (h : s < 64) : hmS6 (nI s) := ⟨s, h, rfl⟩
/-- a set within another is no greater -/
theorem hmSub_le {s f : Nat} (hs : s < 64) (hf : f < 64) (h : hmSub (nI s) (nI f) = true) : s ≤ f := by
  have h1 : ∀ w, w < 6 → s.testBit w = true → f.testBit w = true := by
    intro w hw hb
    have e : ∀ k, k < 64 → hmBit (nI k) w = k.testBit w := by
      intro k hk
      rw [hm_bit_lsb0 k hk w hw]
      simp only [nI, Int32.toBitVec_ofNat', BitVec.getLsbD_ofNat]
      have : decide (w < 32) = true := by
        rw [decide_eq_true_eq]
        omega
      rw [this, Bool.true_and]
    have h2 := hmSub_bit (hm_s6_nI hs) (hm_s6_nI hf) h hw (by rw [e s hs]; exact hb)
    rw [e f hf] at h2
    exact h2
  have h2 : s &&& f = s := by
    apply Nat.eq_of_testBit_eq
    intro i
    rw [Nat.testBit_and]
    by_cases hi : i < 6
    · cases hb : s.testBit i with
      | false => rfl
      | true => rw [h1 i hi hb]; rfl
    · have h3 : s.testBit i = false := Nat.testBit_lt_two_pow (Nat.lt_of_lt_of_le hs (by
        have := Nat.pow_le_pow_right (n := 2) (by omega) (show 6 ≤ i by omega)
        omega))
      rw [h3]
      rfl
  rw [← h2]
  exact Nat.and_le_right
/-- the best set of helpers -/
def hmHl (p : Nat → Bool) : Nat → Option Nat
  | 0 => none
  | n + 1 => match hmHl p n with
    | none => if p n = true then some n else none
    | some b => if hmCnt (nI n) < hmCnt (nI b) ∧ p n = true then some n else some b
theorem hmHl_ext {p : Nat → Bool} {a : Nat} : ∀ b, a ≤ b → (∀ s, a ≤ s → s < b → p s = false) → hmHl p b = hmHl p a := by
  intro b
  induction b with
  | zero => intro h _; rw [show a = 0 by omega]
  | succ b ih =>
    intro h hp
    by_cases e : a = b + 1
    · rw [e]
    · have h1 := ih (by omega) (fun s h1 h2 => hp s h1 (by omega))
      have h2 := hp b (by omega) (by omega)
      rw [← h1]
      show (match hmHl p b with | none => _ | some c => _) = _
      cases hmHl p b with
      | none => simp [h2]
      | some c => simp [h2]
theorem hmHl_lt {p : Nat → Bool} : ∀ n b, hmHl p n = some b → b < n := by
  intro n
  induction n with
  | zero => intro b h; cases h
  | succ n ih =>
    intro b h
    unfold hmHl at h
    split at h
    · split at h
      · cases h; omega
      · cases h
    next c hc =>
      have h1 := ih c hc
      split at h
      · cases h; omega
      · cases h; omega
/-- the sets that agree: how many, in all, in some -/
def hmSt (p : Nat → Bool) (F : Int32) : Nat → Nat × Int32 × Int32
  | 0 => (0, F, 0)
  | n + 1 => if p n = true then ((hmSt p F n).1 + 1, (hmSt p F n).2.1 &&& nI n, (hmSt p F n).2.2 ||| nI n) else hmSt p F n
theorem hmSt_ext {p : Nat → Bool} {F : Int32} {a : Nat} : ∀ b, a ≤ b → (∀ s, a ≤ s → s < b → p s = false) → hmSt p F b = hmSt p F a := by
  intro b
  induction b with
  | zero => intro h _; rw [show a = 0 by omega]
  | succ b ih =>
    intro h hp
    by_cases e : a = b + 1
    · rw [e]
    · rw [← ih (by omega) (fun s h1 h2 => hp s h1 (by omega))]
      show (if p b = true then _ else _) = _
      rw [hp b (by omega) (by omega), if_neg (by decide)]
theorem hmSt_le {p : Nat → Bool} {F : Int32} (n : Nat) : (hmSt p F n).1 ≤ n := by
  induction n with
  | zero => exact Nat.le_refl _
  | succ n ih =>
    unfold hmSt
    split
    · simp only; omega
    · omega
/-- in how many of the sets that agree somebody is settled -/
def hmTl (p : Nat → Bool) (f : Nat → Int32) (c : Nat) : Nat → Nat
  | 0 => 0
  | n + 1 => if p n = true ∧ hmBit (f n) c = true then hmTl p f c n + 1 else hmTl p f c n
theorem hmTl_ext {p : Nat → Bool} {f : Nat → Int32} {c a : Nat} : ∀ b, a ≤ b → (∀ s, a ≤ s → s < b → p s = false) → hmTl p f c b = hmTl p f c a := by
  intro b
  induction b with
  | zero => intro h _; rw [show a = 0 by omega]
  | succ b ih =>
    intro h hp
    by_cases e : a = b + 1
    · rw [e]
    · rw [← ih (by omega) (fun s h1 h2 => hp s h1 (by omega))]
      show (if p b = true ∧ _ then _ else _) = _
      rw [hp b (by omega) (by omega), if_neg (fun q => absurd q.1 (by decide))]
theorem hmTl_le {p : Nat → Bool} {f : Nat → Int32} {c : Nat} (F : Int32) (n : Nat) : hmTl p f c n ≤ (hmSt p F n).1 := by
  induction n with
  | zero => exact Nat.le_refl _
  | succ n ih =>
    unfold hmTl hmSt
    by_cases h : p n = true
    · rw [if_pos h]
      split
      · simp only; omega
      · simp only; omega
    · rw [if_neg h, if_neg (fun q => h q.1)]
      exact ih
/-- of whom to ask: the least so far, who -/
def hmEv (t : hmTo) (many : Nat) (g : Nat → Nat) : Nat → Nat × Int32
  | 0 => (many, -1)
  | n + 1 => if t n = none ∧ max (g n) (many - g n) < (hmEv t many g n).1 then (max (g n) (many - g n), nI n) else hmEv t many g n
theorem hmEv_le (t : hmTo) (many : Nat) (g : Nat → Nat) (n : Nat) : (hmEv t many g n).1 ≤ many := by
  induction n with
  | zero => exact Nat.le_refl _
  | succ n ih =>
    unfold hmEv
    split
    · simp only; omega
    · exact ih
/-- as it is told -/
def hmAs (t : hmTo) (s : Int32) : Bool := (List.range 6).all (fun w => t w == none || t w == some (hmBit s w))
theorem hmAs_iff {t : hmTo} {s : Int32} : hmAs t s = true ↔ ∀ w, w < 6 → (t w = none ∨ t w = some (hmBit s w)) := by
  simp [hmAs]
def hmPs (O : hmO) (H : hmH) (t : hmTo) (s : Nat) : Bool := hmSub (nI s) (hmFree (hmN O) H) && hmAs t (spWith O H (nI s))
def hmPh (O : hmO) (H : hmH) (c : Nat) (s : Nat) : Bool := hmSub (nI s) (hmFree (hmN O) H) && hmBit (spWith O H (nI s)) c
def spHelpers (O : hmO) (H : hmH) (v : Int32) : Int32 := if hmOn (hmN O) H v = true then hmOb (hmHl (hmPh O H (hmIx v)) 64) else -1
def spSets (O : hmO) (H : hmH) (t : hmTo) (v : Int32) : Int32 :=
  if hmCal 3 v = true then (if v = 0 then nI (hmSt (hmPs O H t) (hmFree (hmN O) H) 64).1 else if (hmSt (hmPs O H t) (hmFree (hmN O) H) 64).1 = 0 then -1 else if v = 1 then (hmSt (hmPs O H t) (hmFree (hmN O) H) 64).2.1 else (hmSt (hmPs O H t) (hmFree (hmN O) H) 64).2.2) else -1
def spAsk (O : hmO) (H : hmH) (t : hmTo) : Int32 := (hmEv t (hmSt (hmPs O H t) (hmFree (hmN O) H) 64).1 (fun c => hmTl (hmPs O H t) (fun s => spWith O H (nI s)) c 64) (hmN O)).2
theorem hmTb_bit (t : hmTo) {w : Nat} (hw : w < 6) : hmBit (hmTb t) w = (t w).isSome := by
  unfold hmTb
  rw [hm_bits_mem (fun u hu => List.mem_range.mp (List.mem_filter.mp hu).1) hw]
  rw [Bool.eq_iff_iff, decide_eq_true_eq, List.mem_filter, List.mem_range]
  exact ⟨fun h => h.2, fun h => ⟨hw, h⟩⟩
theorem hmTs_bit (t : hmTo) {w : Nat} (hw : w < 6) : hmBit (hmTs t) w = (t w == some true) := by
  unfold hmTs
  rw [hm_bits_mem (fun u hu => List.mem_range.mp (List.mem_filter.mp hu).1) hw]
  rw [Bool.eq_iff_iff, decide_eq_true_eq, List.mem_filter, List.mem_range]
  exact ⟨fun h => h.2, fun h => ⟨hw, h⟩⟩
theorem hmTb_s6 (t : hmTo) : hmS6 (hmTb t) := hm_bits_s6 (fun u hu => List.mem_range.mp (List.mem_filter.mp hu).1)
theorem hmTs_s6 (t : hmTo) : hmS6 (hmTs t) := hm_bits_s6 (fun u hu => List.mem_range.mp (List.mem_filter.mp hu).1)
theorem hm_s6_xor {x y : Int32} (hx : hmS6 x) (hy : hmS6 y) : hmS6 (x ^^^ y) := by
  obtain ⟨k, hk, rfl⟩ := hx
  obtain ⟨j, hj, rfl⟩ := hy
  refine ⟨k ^^^ j, Nat.xor_lt_two_pow (n := 6) hk hj, ?_⟩
  apply Int32.toBitVec_inj.mp
  simp only [Int32.toBitVec_xor, nI, Int32.toBitVec_ofNat']
  apply BitVec.eq_of_toNat_eq
  simp only [BitVec.toNat_xor, BitVec.toNat_ofNat]
  have h1 : k ^^^ j < 2 ^ 6 := Nat.xor_lt_two_pow hk hj
  rw [Nat.mod_eq_of_lt (by omega), Nat.mod_eq_of_lt (by omega), Nat.mod_eq_of_lt (by omega)]
theorem hm_bit_xor {x y : Int32} (hx : hmS6 x) (hy : hmS6 y) {w : Nat} (hw : w < 6) : hmBit (x ^^^ y) w = (hmBit x w ^^ hmBit y w) := by
  rw [hm_bit_lsb (hm_s6_xor hx hy) hw, hm_bit_lsb hx hw, hm_bit_lsb hy hw, Int32.toBitVec_xor, BitVec.getLsbD_xor]
theorem hmAs_bits {t : hmTo} {s : Int32} (hs : hmS6 s) : ((s ^^^ hmTs t) &&& hmTb t = 0 ↔ hmAs t s = true) := by
  have hx := hm_s6_xor hs (hmTs_s6 t)
  rw [hmAs_iff]
  have key : ∀ w, w < 6 → (hmBit ((s ^^^ hmTs t) &&& hmTb t) w = false ↔ (t w = none ∨ t w = some (hmBit s w))) := by
    intro w hw
    rw [hm_bit_and hx (hmTb_s6 t) hw, hm_bit_xor hs (hmTs_s6 t) hw, hmTb_bit t hw, hmTs_bit t hw]
    cases t w with
    | none => simp
    | some b => cases b <;> cases hmBit s w <;> simp
  constructor
  · intro h w hw
    rw [← key w hw, h]
    exact hm_bit0 hw
  · intro h
    apply hm_s6_eq (hm_s6_and hx) ⟨0, by omega, rfl⟩
    intro w hw
    rw [(key w hw).mpr (h w hw)]
    exact (hm_bit0 hw).symm
theorem hm_free_bits {n : Nat} (hn : n ≤ 6) {H : hmH} (hl : ∀ u, u ∈ hmLine H → u < 6) (hs : hmS6 (hmSet H)) : (((1 <<< (nI n &&& 31)) - 1) &&& (hmBits (hmLine H) ^^^ -1)) &&& (hmSet H ^^^ -1) = hmFree n H := by
  have h0 : ∀ n, n ≤ 6 → hmS6 ((1 <<< (nI n &&& 31)) - 1) ∧ ∀ w, w < 6 → hmBit ((1 <<< (nI n &&& 31)) - 1) w = decide (w < n) := by
    intro n hn
    have key : ∀ n, n < 7 → ((1 : Int32) <<< (nI n &&& 31)) - 1 = nI (2 ^ n - 1) ∧ 2 ^ n - 1 < 64 := by decide +kernel
    have key2 : ∀ n, n < 7 → ∀ w, w < 6 → hmBit (((1 : Int32) <<< (nI n &&& 31)) - 1) w = decide (w < n) := by decide +kernel
    exact ⟨⟨_, (key n (by omega)).2, (key n (by omega)).1⟩, key2 n (by omega)⟩
  obtain ⟨h1, h2⟩ := h0 n hn
  apply hm_s6_eq (hm_s6_and (hm_s6_and h1)) (hmFree_s6 hn H)
  intro w hw
  rw [hm_bit_diff (hm_s6_and h1) hs hw, hm_bit_diff h1 (hm_bits_s6 hl) hw, h2 w hw, hm_bits_mem hl hw, hmFree_bit hn H hw]
  unfold hmCanRing
  cases decide (w < n) <;> cases hmBit (hmSet H) w <;> cases hd : decide (w ∈ hmLine H) <;> simp_all
