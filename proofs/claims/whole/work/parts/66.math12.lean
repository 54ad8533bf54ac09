/-! tokens -/
abbrev hmTok : Type := Nat × List Nat × Nat
def hmLet (c : Nat) : Bool := decide (97 ≤ c ∧ c ≤ 122)
def hmDig (c : Nat) : Bool := decide (48 ≤ c ∧ c ≤ 57)
def hmSpc (c : Nat) : Bool := decide (c = 10 ∨ c = 32)
def hmCut (f : Nat → Bool) (T : List Nat) (p : Nat) : List Nat := (T.drop p).takeWhile f
def hmEnd (f : Nat → Bool) (T : List Nat) (p : Nat) : Nat := p + (hmCut f T p).length
theorem hmCut_yes {f : Nat → Bool} {T : List Nat} {p : Nat} (h : p < T.length) (hf : f (T.getD p 0) = true) : hmCut f T p = T.getD p 0 :: hmCut f T (p + 1) := by
  have e : T.getD p 0 = T[p] := by rw [List.getD_eq_getElem?_getD, List.getElem?_eq_getElem h]; rfl
  rw [e] at hf ⊢
  unfold hmCut
  rw [List.drop_eq_getElem_cons h, List.takeWhile_cons, if_pos hf]
theorem hmCut_no {f : Nat → Bool} {T : List Nat} {p : Nat} (h : p < T.length → f (T.getD p 0) = false) : hmCut f T p = [] := by
  unfold hmCut
  by_cases hp : p < T.length
  · have e : T.getD p 0 = T[p] := by rw [List.getD_eq_getElem?_getD, List.getElem?_eq_getElem hp]; rfl
    have h1 := h hp
    rw [e] at h1
    rw [List.drop_eq_getElem_cons hp, List.takeWhile_cons, if_neg (by rw [h1]; decide)]
  · rw [List.drop_of_length_le (by omega)]
    rfl
theorem hmEnd_yes {f : Nat → Bool} {T : List Nat} {p : Nat} (h : p < T.length) (hf : f (T.getD p 0) = true) : hmEnd f T p = hmEnd f T (p + 1) := by
  unfold hmEnd
  rw [hmCut_yes h hf, List.length_cons]
  omega
theorem hmEnd_no {f : Nat → Bool} {T : List Nat} {p : Nat} (h : p < T.length → f (T.getD p 0) = false) : hmEnd f T p = p := by
  unfold hmEnd
  rw [hmCut_no h]
  rfl
theorem hmEnd_le {f : Nat → Bool} {T : List Nat} {p : Nat} (h : p ≤ T.length) : p ≤ hmEnd f T p ∧ hmEnd f T p ≤ T.length := by
  unfold hmEnd hmCut
  have h1 := List.Sublist.length_le (List.takeWhile_sublist f (l := T.drop p))
  rw [List.length_drop] at h1
  omega
theorem hmCut_all {f : Nat → Bool} {T : List Nat} {p : Nat} : ∀ c, c ∈ hmCut f T p → f c = true := by
  intro c hc
  have h := List.all_takeWhile (l := T.drop p) (p := f)
  exact List.all_eq_true.mp h c hc
def hmLx (T : List Nat) (p : Nat) : hmTok × Nat :=
  if hmEnd hmSpc T p < T.length then
    if hmLet (T.getD (hmEnd hmSpc T p) 0) = true then ((if (hmCut hmLet T (hmEnd hmSpc T p)).length ≤ 8 then 2 else 1, hmCut hmLet T (hmEnd hmSpc T p), hmEnd hmSpc T p), hmEnd hmLet T (hmEnd hmSpc T p))
    else if hmDig (T.getD (hmEnd hmSpc T p) 0) = true then ((if (hmCut hmDig T (hmEnd hmSpc T p)).length ≤ 4 then 3 else 1, hmCut hmDig T (hmEnd hmSpc T p), hmEnd hmSpc T p), hmEnd hmDig T (hmEnd hmSpc T p))
    else ((if hmSg8 (T.getD (hmEnd hmSpc T p) 0) = true then 4 else 1, [T.getD (hmEnd hmSpc T p) 0], hmEnd hmSpc T p), hmEnd hmSpc T p + 1)
  else ((0, [], hmEnd hmSpc T p), hmEnd hmSpc T p)
/-- the tokens from a place on -/
def hmTsR (T : List Nat) : List hmTok → Nat → Prop
  | [], _ => False
  | t :: r, p => p ≤ T.length ∧ (hmLx T p).1 = t ∧ (if t.1 = 0 then r = [] else hmTsR T r (hmLx T p).2)
theorem hmLx_next {T : List Nat} {p : Nat} (hp : p ≤ T.length) (h : ¬ (hmLx T p).1.1 = 0) : p < (hmLx T p).2 ∧ (hmLx T p).2 ≤ T.length := by
  have h1 := hmEnd_le (f := hmSpc) hp
  unfold hmLx at h ⊢
  by_cases c1 : hmEnd hmSpc T p < T.length
  · rw [if_pos c1]
    by_cases c2 : hmLet (T.getD (hmEnd hmSpc T p) 0) = true
    · rw [if_pos c2]
      have h2 := hmEnd_le (f := hmLet) (T := T) (p := hmEnd hmSpc T p + 1) (by omega)
      rw [← hmEnd_yes c1 c2] at h2
      show p < hmEnd hmLet T (hmEnd hmSpc T p) ∧ hmEnd hmLet T (hmEnd hmSpc T p) ≤ T.length
      omega
    · rw [if_neg c2]
      by_cases c3 : hmDig (T.getD (hmEnd hmSpc T p) 0) = true
      · rw [if_pos c3]
        have h2 := hmEnd_le (f := hmDig) (T := T) (p := hmEnd hmSpc T p + 1) (by omega)
        rw [← hmEnd_yes c1 c3] at h2
        show p < hmEnd hmDig T (hmEnd hmSpc T p) ∧ hmEnd hmDig T (hmEnd hmSpc T p) ≤ T.length
        omega
      · rw [if_neg c3]
        show p < hmEnd hmSpc T p + 1 ∧ hmEnd hmSpc T p + 1 ≤ T.length
        omega
  · rw [if_neg c1] at h
    exact absurd rfl h
def hmTkl (T : List Nat) : Nat → Nat → List hmTok
  | 0, _ => []
  | n + 1, p => if (hmLx T p).1.1 = 0 then [(hmLx T p).1] else (hmLx T p).1 :: hmTkl T n (hmLx T p).2
theorem hmTkl_ok (T : List Nat) : ∀ n p, p ≤ T.length → T.length + 1 ≤ n + p → hmTsR T (hmTkl T n p) p ∧ (hmTkl T n p).length + p ≤ T.length + 1 := by
  intro n
  induction n with
  | zero =>
    intro p h1 h2
    omega
  | succ n ih =>
    intro p h1 h2
    unfold hmTkl
    by_cases c : (hmLx T p).1.1 = 0
    · rw [if_pos c]
      refine ⟨⟨h1, rfl, ?_⟩, ?_⟩
      · rw [if_pos c]
      · show 1 + p ≤ T.length + 1
        omega
    · rw [if_neg c]
      have h3 := hmLx_next h1 c
      have h4 := ih (hmLx T p).2 h3.2 (by omega)
      refine ⟨⟨h1, rfl, ?_⟩, ?_⟩
      · rw [if_neg c]
        exact h4.1
      · rw [List.length_cons]
        omega
/-- what holds of a token -/
def hmDec (l : List Nat) : Nat := l.foldl (fun v c => v * 10 + (c - 48)) 0
def hmTkOk (t : hmTok) : Prop := (t.1 = 2 → (∀ c, c ∈ t.2.1 → 97 ≤ c ∧ c ≤ 122) ∧ t.2.1.length ≤ 8 ∧ 1 ≤ t.2.1.length) ∧ (t.1 = 3 → hmDec t.2.1 < 10000) ∧ (t.1 = 4 → ∃ c, t.2.1 = [c] ∧ hmSg8 c = true) ∧ t.1 ≤ 4
theorem hmDec_lt : ∀ (l : List Nat) (v : Nat), (∀ c, c ∈ l → 48 ≤ c ∧ c ≤ 57) → l.foldl (fun v c => v * 10 + (c - 48)) v < (v + 1) * 10 ^ l.length := by
  intro l
  induction l with
  | nil => intro v _; simp
  | cons c l ih =>
    intro v h
    rw [List.foldl_cons, List.length_cons]
    have h1 := ih (v * 10 + (c - 48)) (fun x hx => h x (List.mem_cons_of_mem _ hx))
    have h2 := h c List.mem_cons_self
    have h3 : (v * 10 + (c - 48) + 1) * 10 ^ l.length ≤ ((v + 1) * 10) * 10 ^ l.length := Nat.mul_le_mul_right _ (by omega)
    have h4 : ((v + 1) * 10) * 10 ^ l.length = (v + 1) * 10 ^ (l.length + 1) := by rw [Nat.pow_succ, Nat.mul_assoc, Nat.mul_comm 10]
    omega
theorem hmLx_ok {T : List Nat} {p : Nat} : hmTkOk (hmLx T p).1 := by
  unfold hmLx
  split
  · rename_i c1
    split
    · rename_i c2
      by_cases c : (hmCut hmLet T (hmEnd hmSpc T p)).length ≤ 8
      · refine ⟨fun _ => ⟨fun x hx => of_decide_eq_true (hmCut_all x hx), c, ?_⟩, fun q => ?_, fun q => ?_, ?_⟩
        · show 1 ≤ (hmCut hmLet T (hmEnd hmSpc T p)).length
          rw [hmCut_yes c1 c2, List.length_cons]
          omega
        · simp only [if_pos c] at q
          exact absurd q (by decide)
        · simp only [if_pos c] at q
          exact absurd q (by decide)
        · simp only [if_pos c]
          decide
      · refine ⟨fun q => ?_, fun q => ?_, fun q => ?_, ?_⟩
        · simp only [if_neg c] at q
          exact absurd q (by decide)
        · simp only [if_neg c] at q
          exact absurd q (by decide)
        · simp only [if_neg c] at q
          exact absurd q (by decide)
        · simp only [if_neg c]
          decide
    · split
      · by_cases c : (hmCut hmDig T (hmEnd hmSpc T p)).length ≤ 4
        · refine ⟨fun q => ?_, fun q => ?_, fun q => ?_, ?_⟩
          · simp only [if_pos c] at q
            exact absurd q (by decide)
          · show hmDec (hmCut hmDig T (hmEnd hmSpc T p)) < 10000
            have h1 := hmDec_lt (hmCut hmDig T (hmEnd hmSpc T p)) 0 (fun x hx => of_decide_eq_true (hmCut_all x hx))
            have h2 : 10 ^ (hmCut hmDig T (hmEnd hmSpc T p)).length ≤ 10 ^ 4 := Nat.pow_le_pow_right (by decide) c
            unfold hmDec
            omega
          · simp only [if_pos c] at q
            exact absurd q (by decide)
          · simp only [if_pos c]
            decide
        · refine ⟨fun q => ?_, fun q => ?_, fun q => ?_, ?_⟩
          · simp only [if_neg c] at q
            exact absurd q (by decide)
          · simp only [if_neg c] at q
            exact absurd q (by decide)
          · simp only [if_neg c] at q
            exact absurd q (by decide)
          · simp only [if_neg c]
            decide
      · by_cases c : hmSg8 (T.getD (hmEnd hmSpc T p) 0) = true
        · refine ⟨fun q => ?_, fun q => ?_, fun q => ⟨_, rfl, c⟩, ?_⟩
          · simp only [if_pos c] at q
            exact absurd q (by decide)
          · simp only [if_pos c] at q
            exact absurd q (by decide)
          · simp only [if_pos c]
            decide
        · refine ⟨fun q => ?_, fun q => ?_, fun q => ?_, ?_⟩
          · simp only [if_neg c] at q
            exact absurd q (by decide)
          · simp only [if_neg c] at q
            exact absurd q (by decide)
          · simp only [if_neg c] at q
            exact absurd q (by decide)
          · simp only [if_neg c]
            decide
  · exact ⟨fun q => absurd (show (0 : Nat) = 2 from q) (by decide), fun q => absurd (show (0 : Nat) = 3 from q) (by decide), fun q => absurd (show (0 : Nat) = 4 from q) (by decide), show (0 : Nat) ≤ 4 by decide⟩
theorem hmTsR_hd {T : List Nat} {t : hmTok} {r : List hmTok} {p : Nat} (h : hmTsR T (t :: r) p) : hmTkOk t := by
  rw [← h.2.1]
  exact hmLx_ok
/-- digits -/
def hmDg (b : Nat) (l : List Nat) : Nat := l.foldl (fun v c => v * b + c) 0
theorem hmDg_snoc (b : Nat) (l : List Nat) (c : Nat) : hmDg b (l ++ [c]) = hmDg b l * b + c := by
  unfold hmDg
  rw [List.foldl_append]
  rfl
theorem hmDg_inj (b : Nat) : ∀ (n : Nat) (l k : List Nat), l.length = n → (∀ c, c ∈ l → 1 ≤ c ∧ c < b) → (∀ c, c ∈ k → 1 ≤ c ∧ c < b) → hmDg b l = hmDg b k → l = k := by
  intro n
  induction n with
  | zero =>
    intro l k hl h1 h2 h
    have e : l = [] := List.length_eq_zero_iff.mp hl
    subst e
    rcases List.eq_nil_or_concat k with rfl | ⟨k2, c, rfl⟩
    · rfl
    · rw [List.concat_eq_append] at h h2
      rw [hmDg_snoc] at h
      have h3 := h2 c (by simp)
      have h4 : hmDg b [] = 0 := rfl
      omega
  | succ n ih =>
    intro l k hl h1 h2 h
    rcases List.eq_nil_or_concat l with rfl | ⟨l2, a, rfl⟩
    · exact absurd hl (by simp)
    · rw [List.concat_eq_append] at h h1 hl ⊢
      rw [List.length_append, List.length_singleton] at hl
      rw [hmDg_snoc] at h
      have h3 := h1 a (by simp)
      rcases List.eq_nil_or_concat k with rfl | ⟨k2, c, rfl⟩
      · have h4 : hmDg b [] = 0 := rfl
        omega
      · rw [List.concat_eq_append] at h h2 ⊢
        rw [hmDg_snoc] at h
        have h4 := h2 c (by simp)
        have e1 : (hmDg b l2 * b + a) % b = a := by rw [Nat.mul_comm, Nat.mul_add_mod, Nat.mod_eq_of_lt h3.2]
        have e2 : (hmDg b k2 * b + c) % b = c := by rw [Nat.mul_comm, Nat.mul_add_mod, Nat.mod_eq_of_lt h4.2]
        have e3 : a = c := by rw [← e1, ← e2, h]
        have e4 : (hmDg b l2 * b + a) / b = hmDg b l2 := by rw [Nat.mul_comm, Nat.mul_add_div (by omega), Nat.div_eq_of_lt h3.2, Nat.add_zero]
        have e5 : (hmDg b k2 * b + c) / b = hmDg b k2 := by rw [Nat.mul_comm, Nat.mul_add_div (by omega), Nat.div_eq_of_lt h4.2, Nat.add_zero]
        have e6 : hmDg b l2 = hmDg b k2 := by rw [← e4, ← e5, h]
        rw [e3, ih l2 k2 (by omega) (fun x hx => h1 x (by simp [hx])) (fun x hx => h2 x (by simp [hx])) e6]
theorem hmDg_lt (b : Nat) : ∀ (l : List Nat) (v : Nat), (∀ c, c ∈ l → c < b) → l.foldl (fun v c => v * b + c) v < (v + 1) * b ^ l.length := by
  intro l
  induction l with
  | nil => intro v _; simp
  | cons c l ih =>
    intro v h
    rw [List.foldl_cons, List.length_cons]
    have h1 := ih (v * b + c) (fun x hx => h x (List.mem_cons_of_mem _ hx))
    have h2 := h c List.mem_cons_self
    have h5 : v * b + c + 1 ≤ (v + 1) * b := by rw [Nat.add_mul, Nat.one_mul]; omega
    have h3 : (v * b + c + 1) * b ^ l.length ≤ ((v + 1) * b) * b ^ l.length := Nat.mul_le_mul_right _ h5
    have h4 : ((v + 1) * b) * b ^ l.length = (v + 1) * b ^ (l.length + 1) := by rw [Nat.pow_succ, Nat.mul_assoc, Nat.mul_comm b]
    omega
theorem hm_shl8 {v c : Nat} (hv : v < 2 ^ 56) (hc : c < 256) : (nL v <<< 8) ||| Int64.ofNat c = nL (v * 256 + c) := by
  apply Int64.toBitVec_inj.mp
  apply BitVec.eq_of_toNat_eq
  have e1 : (nL v <<< 8 ||| Int64.ofNat c).toBitVec = (BitVec.ofNat 64 v <<< 8) ||| BitVec.ofNat 64 c := rfl
  have e2 : (nL (v * 256 + c)).toBitVec = BitVec.ofNat 64 (v * 256 + c) := rfl
  rw [e1, e2, BitVec.toNat_or, BitVec.toNat_shiftLeft, BitVec.toNat_ofNat, BitVec.toNat_ofNat, BitVec.toNat_ofNat, Nat.mod_eq_of_lt (show v < 2 ^ 64 by omega), Nat.mod_eq_of_lt (show c < 2 ^ 64 by omega), Nat.mod_eq_of_lt (show v * 256 + c < 2 ^ 64 by omega)]
  have e3 : v <<< 8 = v * 256 := by rw [Nat.shiftLeft_eq]
  rw [e3, Nat.mod_eq_of_lt (show v * 256 < 2 ^ 64 by omega), ← e3, ← Nat.shiftLeft_add_eq_or_of_lt (show c < 2 ^ 8 by omega)]
theorem hm_e256 : ∀ (l : List Nat) (v n : Nat), l.length + n ≤ 8 → v < 256 ^ n → (∀ c, c ∈ l → c < 256) → l.foldl (fun (v : Int64) (c : Nat) => (v <<< 8) ||| Int64.ofNat c) (nL v) = nL (l.foldl (fun v c => v * 256 + c) v) := by
  intro l
  induction l with
  | nil => intro v n _ _ _; rfl
  | cons c l ih =>
    intro v n hn hv h
    rw [List.length_cons] at hn
    have hc := h c List.mem_cons_self
    have hle : (256 : Nat) ^ n ≤ 256 ^ 7 := Nat.pow_le_pow_right (by decide) (by omega)
    have h7 : (256 : Nat) ^ 7 = 2 ^ 56 := by decide
    rw [List.foldl_cons, List.foldl_cons, hm_shl8 (by omega) hc]
    refine ih (v * 256 + c) (n + 1) (by omega) ?_ (fun x hx => h x (List.mem_cons_of_mem _ hx))
    rw [Nat.pow_succ]
    omega
def hmWd (l : List Nat) : Prop := (∀ c, c ∈ l → 97 ≤ c ∧ c ≤ 122) ∧ l.length ≤ 8
theorem hmE256_eq {l : List Nat} (h : hmWd l) : hmE256 l = nL (hmDg 256 l) := hm_e256 l 0 0 (by have := h.2; omega) (by decide) (fun c hc => by have := h.1 c hc; omega)
theorem nL_inj2 {a b : Nat} (ha : a < 2 ^ 63) (hb : b < 2 ^ 63) (h : nL a = nL b) : a = b := by
  have h1 := congrArg Int64.toInt h
  rw [nL_toInt ha, nL_toInt hb] at h1
  omega
theorem hmDg256_lt {l : List Nat} (h : hmWd l) : hmDg 256 l < 2 ^ 63 := by
  obtain ⟨h1, h2⟩ := h
  rcases Nat.lt_or_ge l.length 8 with h3 | h3
  · have h4 := hmDg_lt 256 l 0 (fun c hc => by have := h1 c hc; omega)
    have h5 : (256 : Nat) ^ l.length ≤ 256 ^ 7 := Nat.pow_le_pow_right (by decide) (by omega)
    unfold hmDg
    omega
  · cases l with
    | nil => simp at h3
    | cons c l =>
      rw [List.length_cons] at h2 h3
      have h4 := hmDg_lt 256 l c (fun x hx => by have := h1 x (List.mem_cons_of_mem _ hx); omega)
      have h5 := h1 c List.mem_cons_self
      have h6 : (256 : Nat) ^ l.length = 256 ^ 7 := by rw [show l.length = 7 by omega]
      have h7 : hmDg 256 (c :: l) = l.foldl (fun v c => v * 256 + c) c := by
        unfold hmDg
        rw [List.foldl_cons, Nat.zero_mul, Nat.zero_add]
      rw [h7]
      rw [h6] at h4
      have h8 : (c + 1) * 256 ^ 7 ≤ 123 * 256 ^ 7 := Nat.mul_le_mul_right _ (by omega)
      have h9 : 123 * 256 ^ 7 < (2 : Nat) ^ 63 := by decide
      omega
theorem hmE256_inj {l k : List Nat} (hl : hmWd l) (hk : hmWd k) (h : hmE256 l = hmE256 k) : l = k := by
  rw [hmE256_eq hl, hmE256_eq hk] at h
  exact hmDg_inj 256 l.length l k rfl (fun c hc => by have := hl.1 c hc; omega) (fun c hc => by have := hk.1 c hc; omega) (nL_inj2 (hmDg256_lt hl) (hmDg256_lt hk) h)
theorem hm_e27 : ∀ (l : List Nat) (v : Nat), (∀ c, c ∈ l → 97 ≤ c ∧ c ≤ 122) → l.foldl (fun (v : Int64) (c : Nat) => v * 27 + Int64.ofNat c - 96) (nL v) = nL ((l.map (fun c => c - 96)).foldl (fun v c => v * 27 + c) v) := by
  intro l
  induction l with
  | nil => intro v _; rfl
  | cons c l ih =>
    intro v h
    rw [List.foldl_cons, List.map_cons, List.foldl_cons, ← ih _ (fun x hx => h x (List.mem_cons_of_mem _ hx))]
    congr 1
    have hc := h c List.mem_cons_self
    have e1 : nL (v * 27 + (c - 96)) = nL v * 27 + nL (c - 96) := by
      show Int64.ofNat _ = _
      rw [Int64.ofNat_add, Int64.ofNat_mul]
      rfl
    have e2 : Int64.ofNat c = nL (c - 96) + 96 := by
      have e3 : c = (c - 96) + 96 := by omega
      have e4 : Int64.ofNat ((c - 96) + 96) = nL (c - 96) + 96 := by
        rw [Int64.ofNat_add]
        rfl
      rw [← e3] at e4
      exact e4
    rw [e1, e2, ← Int64.add_assoc, Int64.add_sub_cancel]
theorem hmE27_eq {l : List Nat} (h : ∀ c, c ∈ l → 97 ≤ c ∧ c ≤ 122) : hmE27 l = nL (hmDg 27 (l.map (fun c => c - 96))) := hm_e27 l 0 h
theorem hmE27_inj {l k : List Nat} (hl : hmWd l) (hk : hmWd k) (h : hmE27 l = hmE27 k) : l = k := by
  rw [hmE27_eq hl.1, hmE27_eq hk.1] at h
  have hb : ∀ z : List Nat, hmWd z → hmDg 27 (z.map (fun c => c - 96)) < 2 ^ 63 ∧ ∀ c, c ∈ z.map (fun c => c - 96) → 1 ≤ c ∧ c < 27 := fun z hz => by
    have h0 : ∀ c, c ∈ z.map (fun c => c - 96) → 1 ≤ c ∧ c < 27 := fun c hc => by
      obtain ⟨x, hx, rfl⟩ := List.mem_map.mp hc
      have := hz.1 x hx
      omega
    refine ⟨?_, h0⟩
    have h1 := hmDg_lt 27 (z.map (fun c => c - 96)) 0 (fun c hc => (h0 c hc).2)
    have h2 : (27 : Nat) ^ (z.map (fun c => c - 96)).length ≤ 27 ^ 8 := Nat.pow_le_pow_right (by decide) (by rw [List.length_map]; exact hz.2)
    have h3 : (27 : Nat) ^ 8 < 2 ^ 63 := by decide
    unfold hmDg
    omega
  have h4 := hmDg_inj 27 _ _ _ rfl (hb l hl).2 (hb k hk).2 (nL_inj2 (hb l hl).1 (hb k hk).1 h)
  have h5 : ∀ z : List Nat, hmWd z → (z.map (fun c => c - 96)).map (fun c => c + 96) = z := fun z hz => by
    rw [List.map_map]
    have h6 : ∀ x, x ∈ z → ((fun c => c + 96) ∘ (fun c => c - 96)) x = x := fun x hx => by
      have := hz.1 x hx
      show x - 96 + 96 = x
      omega
    rw [List.map_congr_left h6]
    simp
  rw [← h5 l hl, ← h5 k hk, h4]
/-- a word stands there -/
def hmIsW (t : hmTok) (l : List Nat) : Bool := decide (t.1 = 2 ∧ t.2.1 = l)
def hmIsS (t : hmTok) (c : Nat) : Bool := decide (t.1 = 4 ∧ t.2.1 = [c])
theorem hmDec64 : ∀ (l : List Nat) (v : Nat), l.foldl (fun (v : Int64) (c : Nat) => v * 10 + nL (c - 48)) (nL v) = nL (l.foldl (fun v c => v * 10 + (c - 48)) v) := by
  intro l
  induction l with
  | nil => intro v; rfl
  | cons c l ih =>
    intro v
    rw [List.foldl_cons, List.foldl_cons, ← ih]
    congr 1
    show _ = Int64.ofNat _
    rw [Int64.ofNat_add, Int64.ofNat_mul]
    rfl
