/-! rows with named values: the same rules, the value or the memory behind them named by an equation -/
theorem x_agree {α : Type} {f g : Nat → α} {a : Nat} {v : α} (h : ∀ y, y ≠ a → f y = g y) : va_up f a v = va_up g a v := by
  funext y
  by_cases hy : y = a
  · simp [va_up, hy]
  · simp [va_up, hy, h y hy]
theorem va_up_up {α : Type} (f : Nat → α) (a : Nat) (x y : α) : va_up (va_up f a x) a y = va_up f a y := by
  funext j
  by_cases hj : j = a <;> simp [va_up, hj]
theorem xinc (i : Nat) : nI i + Int32.ofInt 1 = nI (i + 1) := nI_1 i
section EXR
variable {d kc ks n pc : Nat} {M : xM} {sh : xSh} {R : xR} {L : xL} {I : xI} {ls : List (Option Value)} {st : List Value} {Q : xQ}
theorem Ex_gI (pc' : Nat) {i ci k a : Nat} {ty : FieldType} (v : Int32) (hd : decode M.2.1 pc = .ok (.getfield i, 3)) (hf : xFd M.1.cls i ci k ty) (hs : sh a = some (.inl ci)) (hx : xfv R L I a k ty = .int (I a k)) (hv : I a k = v) (hp : pc + 3 = pc') (kk : Ex d kc ks M n sh R L I pc' ls (.int v :: st) Q) : Ex d kc ks M n sh R L I pc ls (.ref a :: st) Q := Ex_get pc' hd hf hs (hx.trans (congrArg Value.int hv)) hp kk
theorem Ex_gL (pc' : Nat) {i ci k a : Nat} (v : Int64) (hd : decode M.2.1 pc = .ok (.getfield i, 3)) (hf : xFd M.1.cls i ci k .long) (hs : sh a = some (.inl ci)) (hv : L a k = v) (hp : pc + 3 = pc') (kk : Ex d kc ks M n sh R L I pc' ls (.long v :: st) Q) : Ex d kc ks M n sh R L I pc ls (.ref a :: st) Q := Ex_get pc' hd hf hs (congrArg Value.long hv) hp kk
theorem Ex_pI (pc' : Nat) {i ci k a : Nat} {ty : FieldType} {x : Int32} (row : Nat → Int32) (I' : xI) (hd : decode M.2.1 pc = .ok (.putfield i, 3)) (hf : xFd M.1.cls i ci k ty) (hfin : ((xC ci).2.1 k).2.2.2 = false) (hs : sh a = some (.inl ci)) (hn : narrow ty (.int x) = .int x) (hv : ∀ J : xI, xfv R L J a k ty = .int (J a k)) (hrow : I a = row) (hfit : fits ty (.int x) = true) (hI : va_up I a (va_up row k x) = I') (hp : pc + 3 = pc') (kk : Ex d kc ks M n sh R L I' pc' ls st Q) : Ex d kc ks M n sh R L I pc ls (.int x :: .ref a :: st) Q := by
  subst hrow
  subst hI
  exact Ex_putI pc' hd hf hfin hs hv hn hfit hp kk
theorem Ex_pL (pc' : Nat) {i ci k a : Nat} {x : Int64} (row : Nat → Int64) (L' : xL) (hd : decode M.2.1 pc = .ok (.putfield i, 3)) (hf : xFd M.1.cls i ci k .long) (hfin : ((xC ci).2.1 k).2.2.2 = false) (hs : sh a = some (.inl ci)) (hrow : L a = row) (hI : va_up L a (va_up row k x) = L') (hp : pc + 3 = pc') (kk : Ex d kc ks M n sh R L' I pc' ls st Q) : Ex d kc ks M n sh R L I pc ls (.long x :: .ref a :: st) Q := by
  subst hrow
  subst hI
  exact Ex_putL pc' hd hf hfin hs hp kk
theorem Ex_pR (pc' : Nat) {i ci k a x : Nat} {ty : FieldType} (row : Nat → Option Nat) (R' : xR) (hd : decode M.2.1 pc = .ok (.putfield i, 3)) (hf : xFd M.1.cls i ci k ty) (hfin : ((xC ci).2.1 k).2.2.2 = false) (hs : sh a = some (.inl ci)) (hv : ∀ J : xR, xfv J L I a k ty = va_rf (J a k)) (hn : narrow ty (.ref x) = .ref x) (hfit : fits ty (.ref x) = true) (hrow : R a = row) (hI : va_up R a (va_up row k (some x)) = R') (hp : pc + 3 = pc') (kk : Ex d kc ks M n sh R' L I pc' ls st Q) : Ex d kc ks M n sh R L I pc ls (.ref x :: .ref a :: st) Q := by
  subst hrow
  subst hI
  exact Ex_putR pc' hd hf hfin hs hv hn hfit hp kk
theorem Ex_pRF (pc' : Nat) {i ci k a x : Nat} {ty : FieldType} (row : Nat → Option Nat) (R' : xR) (hd : decode M.2.1 pc = .ok (.putfield i, 3)) (hf : xFd M.1.cls i ci k ty) (hfin : ((xC ci).2.1 k).2.2.2 = true) (hini : M.1.name = "<init>") (hcl : ((xC ci).2.1 k).1 = M.1.cls) (hs : sh a = some (.inl ci)) (hv : ∀ J : xR, xfv J L I a k ty = va_rf (J a k)) (hn : narrow ty (.ref x) = .ref x) (hfit : fits ty (.ref x) = true) (hrow : R a = row) (hI : va_up R a (va_up row k (some x)) = R') (hp : pc + 3 = pc') (kk : Ex d kc ks M n sh R' L I pc' ls st Q) : Ex d kc ks M n sh R L I pc ls (.ref x :: .ref a :: st) Q := by
  subst hrow
  subst hI
  exact Ex_putRF pc' hd hf hfin hini hcl hs hv hn hfit hp kk

theorem Ex_aI (pc' : Nat) {i : Int32} {a N : Nat} (j : Nat) (v : Int32) (hd : decode M.2.1 pc = .ok (.iaload, 1)) (hs : sh a = some (.inr (.int, N))) (hi : i = nI j) (hj : j < N) (hN : N < 2 ^ 31) (hv : I a j = v) (hp : pc + 1 = pc') (kk : Ex d kc ks M n sh R L I pc' ls (.int v :: st) Q) : Ex d kc ks M n sh R L I pc ls (.int i :: .ref a :: st) Q := by
  subst hv
  exact Ex_iald pc' j hd hs hi hj hN hp kk
theorem Ex_aB (pc' : Nat) {i : Int32} {a N : Nat} (j : Nat) (v : Int32) (hd : decode M.2.1 pc = .ok (.baload, 1)) (hs : sh a = some (.inr (.byte, N))) (hi : i = nI j) (hj : j < N) (hN : N < 2 ^ 31) (hv : I a j = v) (hp : pc + 1 = pc') (kk : Ex d kc ks M n sh R L I pc' ls (.int v :: st) Q) : Ex d kc ks M n sh R L I pc ls (.int i :: .ref a :: st) Q := by
  subst hv
  exact Ex_bald pc' j hd hs hi hj hN hp kk
theorem Ex_aZ (pc' : Nat) {i : Int32} {a N : Nat} (j : Nat) (v : Int32) (hd : decode M.2.1 pc = .ok (.baload, 1)) (hs : sh a = some (.inr (.boolean, N))) (hi : i = nI j) (hj : j < N) (hN : N < 2 ^ 31) (hv : I a j = v) (hp : pc + 1 = pc') (kk : Ex d kc ks M n sh R L I pc' ls (.int v :: st) Q) : Ex d kc ks M n sh R L I pc ls (.int i :: .ref a :: st) Q := by
  subst hv
  exact Ex_zald pc' j hd hs hi hj hN hp kk
theorem Ex_aL (pc' : Nat) {i : Int32} {a N : Nat} (j : Nat) (v : Int64) (hd : decode M.2.1 pc = .ok (.laload, 1)) (hs : sh a = some (.inr (.long, N))) (hi : i = nI j) (hj : j < N) (hN : N < 2 ^ 31) (hv : L a j = v) (hp : pc + 1 = pc') (kk : Ex d kc ks M n sh R L I pc' ls (.long v :: st) Q) : Ex d kc ks M n sh R L I pc ls (.int i :: .ref a :: st) Q := by
  subst hv
  exact Ex_lald pc' j hd hs hi hj hN hp kk
theorem Ex_sI (pc' : Nat) {i x : Int32} {a N : Nat} (j : Nat) (row : Nat → Int32) (I' : xI) (hd : decode M.2.1 pc = .ok (.iastore, 1)) (hs : sh a = some (.inr (.int, N))) (hi : i = nI j) (hj : j < N) (hN : N < 2 ^ 31) (hrow : I a = row) (hI : va_up I a (va_up row j x) = I') (hp : pc + 1 = pc') (kk : Ex d kc ks M n sh R L I' pc' ls st Q) : Ex d kc ks M n sh R L I pc ls (.int x :: .int i :: .ref a :: st) Q := by
  subst hrow
  subst hI
  exact Ex_iast pc' j hd hs hi hj hN hp kk
theorem Ex_sB (pc' : Nat) {i x : Int32} {a N : Nat} (j : Nat) (row : Nat → Int32) (I' : xI) (hd : decode M.2.1 pc = .ok (.bastore, 1)) (hs : sh a = some (.inr (.byte, N))) (hi : i = nI j) (hj : j < N) (hN : N < 2 ^ 31) (hrow : I a = row) (hI : va_up I a (va_up row j (vp_nar .byte x)) = I') (hp : pc + 1 = pc') (kk : Ex d kc ks M n sh R L I' pc' ls st Q) : Ex d kc ks M n sh R L I pc ls (.int x :: .int i :: .ref a :: st) Q := by
  subst hrow
  subst hI
  exact Ex_bast pc' j hd hs hi hj hN hp kk
theorem Ex_sZ (pc' : Nat) {i x : Int32} {a N : Nat} (j : Nat) (row : Nat → Int32) (I' : xI) (hd : decode M.2.1 pc = .ok (.bastore, 1)) (hs : sh a = some (.inr (.boolean, N))) (hi : i = nI j) (hj : j < N) (hN : N < 2 ^ 31) (hrow : I a = row) (hI : va_up I a (va_up row j (vp_nar .boolean x)) = I') (hp : pc + 1 = pc') (kk : Ex d kc ks M n sh R L I' pc' ls st Q) : Ex d kc ks M n sh R L I pc ls (.int x :: .int i :: .ref a :: st) Q := by
  subst hrow
  subst hI
  exact Ex_zast pc' j hd hs hi hj hN hp kk
theorem Ex_sL (pc' : Nat) {i : Int32} {x : Int64} {a N : Nat} (j : Nat) (row : Nat → Int64) (L' : xL) (hd : decode M.2.1 pc = .ok (.lastore, 1)) (hs : sh a = some (.inr (.long, N))) (hi : i = nI j) (hj : j < N) (hN : N < 2 ^ 31) (hrow : L a = row) (hI : va_up L a (va_up row j x) = L') (hp : pc + 1 = pc') (kk : Ex d kc ks M n sh R L' I pc' ls st Q) : Ex d kc ks M n sh R L I pc ls (.long x :: .int i :: .ref a :: st) Q := by
  subst hrow
  subst hI
  exact Ex_last pc' j hd hs hi hj hN hp kk
theorem Ex_cpI (pc' : Nat) {i a b na nb : Nat} {sp dp x : Int32} (js jd jn : Nat) (ra rb : Nat → Int32) (I' : xI) (hd : decode M.2.1 pc = .ok (.invokestatic i, 3)) (hl : Cond.methodLink M.1.cls i arraycopyName ∈ lw_good) (hsa : sh a = some (.inr (.int, na))) (hsb : sh b = some (.inr (.int, nb))) (h1 : sp = nI js) (h2 : dp = nI jd) (h3 : x = nI jn) (h4 : js + jn ≤ na) (h5 : jd + jn ≤ nb) (hna : na < 2 ^ 31) (hnb : nb < 2 ^ 31) (hra : I a = ra) (hrb : I b = rb) (hI : va_up I b (va_cpy ra rb js jd jn) = I') (hcat : (st.map fun v => v.category).sum ≤ 8) (hp : pc + 3 = pc')
    (kk : Ex (d + 1) kc ks M n sh R L I' pc' ls st Q) : Ex (d + 1) kc ks M n sh R L I pc ls (.int x :: .int dp :: .ref b :: .int sp :: .ref a :: st) Q := by
  subst hra
  subst hrb
  subst hI
  exact Ex_copyI pc' js jd jn hd hl xcp_n xcp_s xcp_i hsa hsb h1 h2 h3 h4 h5 hna hnb hcat hp kk
def xsub : List (Option Value) → List (Option Value) → Prop
  | [], _ => True
  | none :: r, [] => xsub r []
  | none :: r, _ :: s => xsub r s
  | some _ :: _, [] => False
  | some v :: r, x :: s => x = some v ∧ xsub r s
theorem xsub_at : ∀ {ls' ls : List (Option Value)}, xsub ls' ls → ∀ (i : Nat) (v : Value), ls'[i]? = some (some v) → ls[i]? = some (some v)
  | [], _, _, i, v, h => by simp at h
  | none :: r, [], hs, i, v, h => by
    cases i with
    | zero => simp at h
    | succ i => have := xsub_at (ls' := r) (ls := []) hs i v (by simpa using h); simp at this
  | none :: r, _ :: s, hs, i, v, h => by
    cases i with
    | zero => simp at h
    | succ i => have := xsub_at (ls' := r) (ls := s) hs i v (by simpa using h); simpa using this
  | some _ :: _, [], hs, i, v, h => absurd hs id
  | some u :: r, x :: s, hs, i, v, h => by
    cases i with
    | zero =>
      have hs1 := hs.1
      simp at h
      subst h
      simpa using hs1
    | succ i => have := xsub_at (ls' := r) (ls := s) hs.2 i v (by simpa using h); simpa using this
theorem Ex_fgt {ls' : List (Option Value)} (h : xsub ls' ls) (k : Ex d kc ks M n sh R L I pc ls' st Q) : Ex d kc ks M n sh R L I pc ls st Q := Ex_ls (xsub_at h) k
theorem Ex_ldcw (pc' : Nat) {i : Nat} {v : Int32} (hd : decode M.2.1 pc = .ok (.ldc_w i, 3)) (hw : Cond.constant M.1.cls i v ∈ lw_good) (hp : pc + 3 = pc') (k : Ex d kc ks M n sh R L I pc' ls (.int v :: st) Q) : Ex d kc ks M n sh R L I pc ls st Q := by
  subst hp
  intro l p e RR s m args below meth c H locs cells slots D cT ad A QQ lsr C K Wd S N Lo Rt
  exact lv_ldcw C.1 C.2.1 C.2.2.2.1 (C.2.2.2.2.1 _ hw) hd (k l p e RR s m args below meth c H locs cells slots D cT ad A QQ lsr C K Wd S N Lo Rt)
theorem Ex_I {I' : xI} (h : I = I') (k : Ex d kc ks M n sh R L I' pc ls st Q) : Ex d kc ks M n sh R L I pc ls st Q := by
  subst h
  exact k
theorem Ex_L {L' : xL} (h : L = L') (k : Ex d kc ks M n sh R L' I pc ls st Q) : Ex d kc ks M n sh R L I pc ls st Q := by
  subst h
  exact k
theorem Ex_st {st' : List Value} (h : st = st') (k : Ex d kc ks M n sh R L I pc ls st' Q) : Ex d kc ks M n sh R L I pc ls st Q := by
  subst h
  exact k
theorem Ex_l {ls' : List (Option Value)} (h : ls = ls') (k : Ex d kc ks M n sh R L I pc ls' st Q) : Ex d kc ks M n sh R L I pc ls st Q := by
  subst h
  exact k
theorem xm_max_s : Cond.static Lib.Math.max.name ∈ lw_good := xt 397 (by decide +kernel) rfl
theorem xm_max_c : Cond.code Lib.Math.max.name Lib.Math.max.code 2 (some .int) ∈ lw_good := xt 398 (by decide +kernel) rfl
theorem Ex_max (pc' : Nat) {i : Nat} {x y : Int32} (hd : decode M.2.1 pc = .ok (.invokestatic i, 3)) (hl : Cond.methodLink M.1.cls i Lib.Math.max.name ∈ lw_good) (hcat : (st.map fun v => v.category).sum ≤ 8) (hp : pc + 3 = pc') (k : Ex (d + 1) kc ks M n sh R L I pc' ls (.int (if x < y then y else x) :: st) Q) : Ex (d + 1) kc ks M n sh R L I pc ls (.int y :: .int x :: st) Q := by
  subst hp
  intro l p e RR s m args below meth c H locs cells slots D cT ad A QQ lsr C K Wd S N Lo Rt
  obtain ⟨c1, c2, c3, c4, c5, c6, c7, c8, c9, c10, c11, c12, c13, c14⟩ := id C
  exact va_mmax c1 c2 (by rw [c3]; exact Lo.1.symm) c4 (c5 _ hl) (c5 _ xm_max_s) (c5 _ xi_RJ9) (c5 _ xm_max_c) (by omega) (by omega) (by omega) (by omega) hd (k l p e RR s m args below meth c H locs cells slots D cT ad A QQ lsr C K Wd S N Lo Rt)
theorem xm_min_s : Cond.static Lib.Math.min.name ∈ lw_good := xt 400 (by decide +kernel) rfl
theorem xm_min_c : Cond.code Lib.Math.min.name Lib.Math.min.code 2 (some .int) ∈ lw_good := xt 401 (by decide +kernel) rfl
theorem Ex_min (pc' : Nat) {i : Nat} {x y : Int32} (hd : decode M.2.1 pc = .ok (.invokestatic i, 3)) (hl : Cond.methodLink M.1.cls i Lib.Math.min.name ∈ lw_good) (hcat : (st.map fun v => v.category).sum ≤ 8) (hp : pc + 3 = pc') (k : Ex (d + 1) kc ks M n sh R L I pc' ls (.int (if y < x then y else x) :: st) Q) : Ex (d + 1) kc ks M n sh R L I pc ls (.int y :: .int x :: st) Q := by
  subst hp
  intro l p e RR s m args below meth c H locs cells slots D cT ad A QQ lsr C K Wd S N Lo Rt
  obtain ⟨c1, c2, c3, c4, c5, c6, c7, c8, c9, c10, c11, c12, c13, c14⟩ := id C
  exact va_mmin c1 c2 (by rw [c3]; exact Lo.1.symm) c4 (c5 _ hl) (c5 _ xm_min_s) (c5 _ xi_RJ9) (c5 _ xm_min_c) (by omega) (by omega) (by omega) (by omega) hd (k l p e RR s m args below meth c H locs cells slots D cT ad A QQ lsr C K Wd S N Lo Rt)
end EXR
/-- the cells of a Hall at a -/
def xHall (sh : xSh) (R : xR) (a : Nat) : Prop := sh a = some (.inl 1) ∧ sh (a + 1) = some (.inr (.int, 6)) ∧ sh (a + 2) = some (.inr (.int, 6)) ∧ sh (a + 3) = some (.inr (.int, 6)) ∧ sh (a + 4) = some (.inr (.int, 36)) ∧ R a 0 = some (a + 1) ∧ R a 1 = some (a + 2) ∧ R a 2 = some (a + 3) ∧ R a 3 = some (a + 4)
/-- the cells of a Law at a -/
def xLaw (sh : xSh) (R : xR) (a : Nat) : Prop := sh a = some (.inl 2) ∧ sh (a + 1) = some (.inr (.int, 1000)) ∧ sh (a + 2) = some (.inr (.int, 32)) ∧ R a 0 = some (a + 1) ∧ R a 1 = some (a + 2)
/-- the cells of a Desk at a -/
def xDesk (sh : xSh) (R : xR) (a : Nat) : Prop := sh a = some (.inl 0) ∧ sh (a + 1) = some (.inr (.long, 6)) ∧ sh (a + 2) = some (.inr (.int, 6)) ∧ sh (a + 3) = some (.inr (.int, 6)) ∧ sh (a + 4) = some (.inr (.int, 6)) ∧ sh (a + 5) = some (.inr (.int, 6)) ∧ sh (a + 6) = some (.inl 2) ∧ sh (a + 7) = some (.inr (.int, 1000)) ∧ sh (a + 8) = some (.inr (.int, 32)) ∧ R a 0 = some (a + 1) ∧ R a 1 = some (a + 2) ∧ R a 2 = some (a + 3) ∧ R a 3 = some (a + 4) ∧ R a 4 = some (a + 5) ∧ R a 5 = some (a + 6) ∧ R (a + 6) 0 = some (a + 7) ∧ R (a + 6) 1 = some (a + 8)
/-- the cells of a Plan at a -/
def xPlan (sh : xSh) (R : xR) (a : Nat) : Prop := sh a = some (.inl 4) ∧ sh (a + 1) = some (.inr (.int, 40)) ∧ sh (a + 2) = some (.inr (.int, 40)) ∧ sh (a + 3) = some (.inr (.int, 40)) ∧ R a 0 = some (a + 1) ∧ R a 1 = some (a + 2) ∧ R a 2 = some (a + 3)
/-- the cells of a Rows at a -/
def xRows (sh : xSh) (R : xR) (a : Nat) : Prop := sh a = some (.inl 6) ∧ sh (a + 1) = some (.inr (.int, 6)) ∧ sh (a + 2) = some (.inr (.int, 6)) ∧ R a 0 = some (a + 1) ∧ R a 1 = some (a + 2)
/-- the cells of a Tape at a -/
def xTape (sh : xSh) (R : xR) (a : Nat) : Prop := sh a = some (.inl 7) ∧ sh (a + 1) = some (.inr (.byte, 1000)) ∧ R a 0 = some (a + 1)
/-- the cells of a Model at a -/
def xModel (sh : xSh) (R : xR) (a : Nat) : Prop := sh a = some (.inl 9) ∧ sh (a + 1) = some (.inr (.int, 1000)) ∧ sh (a + 2) = some (.inr (.int, 4)) ∧ sh (a + 3) = some (.inr (.long, 12)) ∧ sh (a + 4) = some (.inr (.int, 12)) ∧ sh (a + 5) = some (.inr (.int, 12)) ∧ sh (a + 6) = some (.inr (.int, 12)) ∧ sh (a + 7) = some (.inr (.int, 12)) ∧ sh (a + 8) = some (.inr (.int, 2)) ∧ sh (a + 9) = some (.inr (.int, 2)) ∧ sh (a + 10) = some (.inr (.int, 2000)) ∧ sh (a + 11) = some (.inr (.int, 7)) ∧ sh (a + 12) = some (.inr (.boolean, 7)) ∧ sh (a + 13) = some (.inr (.int, 7)) ∧ sh (a + 14) = some (.inr (.int, 7)) ∧ sh (a + 15) = some (.inr (.int, 7)) ∧ sh (a + 16) = some (.inr (.int, 7)) ∧ sh (a + 17) = some (.inr (.int, 7)) ∧ sh (a + 18) = some (.inr (.int, 7)) ∧ sh (a + 19) = some (.inr (.int, 7)) ∧ sh (a + 20) = some (.inr (.int, 7)) ∧ sh (a + 21) = some (.inr (.int, 7)) ∧ sh (a + 22) = some (.inr (.int, 20)) ∧ sh (a + 23) = some (.inr (.int, 6)) ∧ sh (a + 24) = some (.inr (.int, 240)) ∧ sh (a + 25) = some (.inr (.int, 240)) ∧ sh (a + 26) = some (.inr (.int, 240)) ∧ sh (a + 27) = some (.inr (.int, 30)) ∧ sh (a + 28) = some (.inr (.int, 58)) ∧ sh (a + 29) = some (.inr (.int, 58)) ∧ sh (a + 30) = some (.inr (.int, 58)) ∧ sh (a + 31) = some (.inr (.int, 232)) ∧ sh (a + 32) = some (.inr (.int, 928)) ∧ sh (a + 33) = some (.inr (.boolean, 4)) ∧ sh (a + 34) = some (.inr (.int, 6)) ∧ sh (a + 35) = some (.inr (.int, 6)) ∧ sh (a + 36) = some (.inr (.int, 6)) ∧ sh (a + 37) = some (.inr (.int, 64)) ∧ R a 2 = some (a + 1) ∧ R a 10 = some (a + 2) ∧ R a 11 = some (a + 3) ∧ R a 12 = some (a + 4) ∧ R a 13 = some (a + 5) ∧ R a 14 = some (a + 6) ∧ R a 15 = some (a + 7) ∧ R a 16 = some (a + 8) ∧ R a 17 = some (a + 9) ∧ R a 18 = some (a + 10) ∧ R a 21 = some (a + 11) ∧ R a 22 = some (a + 12) ∧ R a 23 = some (a + 13) ∧ R a 24 = some (a + 14) ∧ R a 25 = some (a + 15) ∧ R a 26 = some (a + 16) ∧ R a 27 = some (a + 17) ∧ R a 28 = some (a + 18) ∧ R a 29 = some (a + 19) ∧ R a 30 = some (a + 20) ∧ R a 31 = some (a + 21) ∧ R a 32 = some (a + 22) ∧ R a 34 = some (a + 23) ∧ R a 35 = some (a + 24) ∧ R a 36 = some (a + 25) ∧ R a 37 = some (a + 26) ∧ R a 38 = some (a + 27) ∧ R a 39 = some (a + 28) ∧ R a 40 = some (a + 29) ∧ R a 41 = some (a + 30) ∧ R a 42 = some (a + 31) ∧ R a 43 = some (a + 32) ∧ R a 44 = some (a + 33) ∧ R a 49 = some (a + 34) ∧ R a 52 = some (a + 35) ∧ R a 53 = some (a + 36) ∧ R a 55 = some (a + 37)
/-- the cells of a Reader at a -/
def xReader (sh : xSh) (R : xR) (a : Nat) : Prop := sh a = some (.inl 5) ∧ sh (a + 1) = some (.inl 7) ∧ sh (a + 2) = some (.inr (.byte, 1000)) ∧ R a 0 = some (a + 1) ∧ R (a + 1) 0 = some (a + 2)
theorem xMs_0 {sh : xSh} {R : xR} {a : Nat} (h : xModel sh R a) : sh a = some (.inl 9) := h.1
theorem xMs_1 {sh : xSh} {R : xR} {a : Nat} (h : xModel sh R a) : sh (a + 1) = some (.inr (.int, 1000)) := h.2.1
theorem xMs_2 {sh : xSh} {R : xR} {a : Nat} (h : xModel sh R a) : sh (a + 2) = some (.inr (.int, 4)) := h.2.2.1
theorem xMs_3 {sh : xSh} {R : xR} {a : Nat} (h : xModel sh R a) : sh (a + 3) = some (.inr (.long, 12)) := h.2.2.2.1
theorem xMs_4 {sh : xSh} {R : xR} {a : Nat} (h : xModel sh R a) : sh (a + 4) = some (.inr (.int, 12)) := h.2.2.2.2.1
theorem xMs_5 {sh : xSh} {R : xR} {a : Nat} (h : xModel sh R a) : sh (a + 5) = some (.inr (.int, 12)) := h.2.2.2.2.2.1
theorem xMs_6 {sh : xSh} {R : xR} {a : Nat} (h : xModel sh R a) : sh (a + 6) = some (.inr (.int, 12)) := h.2.2.2.2.2.2.1
theorem xMs_7 {sh : xSh} {R : xR} {a : Nat} (h : xModel sh R a) : sh (a + 7) = some (.inr (.int, 12)) := h.2.2.2.2.2.2.2.1
theorem xMs_8 {sh : xSh} {R : xR} {a : Nat} (h : xModel sh R a) : sh (a + 8) = some (.inr (.int, 2)) := h.2.2.2.2.2.2.2.2.1
theorem xMs_9 {sh : xSh} {R : xR} {a : Nat} (h : xModel sh R a) : sh (a + 9) = some (.inr (.int, 2)) := h.2.2.2.2.2.2.2.2.2.1
theorem xMs_10 {sh : xSh} {R : xR} {a : Nat} (h : xModel sh R a) : sh (a + 10) = some (.inr (.int, 2000)) := h.2.2.2.2.2.2.2.2.2.2.1
theorem xMs_11 {sh : xSh} {R : xR} {a : Nat} (h : xModel sh R a) : sh (a + 11) = some (.inr (.int, 7)) := h.2.2.2.2.2.2.2.2.2.2.2.1
theorem xMs_12 {sh : xSh} {R : xR} {a : Nat} (h : xModel sh R a) : sh (a + 12) = some (.inr (.boolean, 7)) := h.2.2.2.2.2.2.2.2.2.2.2.2.1
theorem xMs_13 {sh : xSh} {R : xR} {a : Nat} (h : xModel sh R a) : sh (a + 13) = some (.inr (.int, 7)) := h.2.2.2.2.2.2.2.2.2.2.2.2.2.1
theorem xMs_14 {sh : xSh} {R : xR} {a : Nat} (h : xModel sh R a) : sh (a + 14) = some (.inr (.int, 7)) := h.2.2.2.2.2.2.2.2.2.2.2.2.2.2.1
theorem xMs_15 {sh : xSh} {R : xR} {a : Nat} (h : xModel sh R a) : sh (a + 15) = some (.inr (.int, 7)) := h.2.2.2.2.2.2.2.2.2.2.2.2.2.2.2.1
theorem xMs_16 {sh : xSh} {R : xR} {a : Nat} (h : xModel sh R a) : sh (a + 16) = some (.inr (.int, 7)) := h.2.2.2.2.2.2.2.2.2.2.2.2.2.2.2.2.1
theorem xMs_17 {sh : xSh} {R : xR} {a : Nat} (h : xModel sh R a) : sh (a + 17) = some (.inr (.int, 7)) := h.2.2.2.2.2.2.2.2.2.2.2.2.2.2.2.2.2.1
theorem xMs_18 {sh : xSh} {R : xR} {a : Nat} (h : xModel sh R a) : sh (a + 18) = some (.inr (.int, 7)) := h.2.2.2.2.2.2.2.2.2.2.2.2.2.2.2.2.2.2.1
theorem xMs_19 {sh : xSh} {R : xR} {a : Nat} (h : xModel sh R a) : sh (a + 19) = some (.inr (.int, 7)) := h.2.2.2.2.2.2.2.2.2.2.2.2.2.2.2.2.2.2.2.1
theorem xMs_20 {sh : xSh} {R : xR} {a : Nat} (h : xModel sh R a) : sh (a + 20) = some (.inr (.int, 7)) := h.2.2.2.2.2.2.2.2.2.2.2.2.2.2.2.2.2.2.2.2.1
theorem xMs_21 {sh : xSh} {R : xR} {a : Nat} (h : xModel sh R a) : sh (a + 21) = some (.inr (.int, 7)) := h.2.2.2.2.2.2.2.2.2.2.2.2.2.2.2.2.2.2.2.2.2.1
theorem xMs_22 {sh : xSh} {R : xR} {a : Nat} (h : xModel sh R a) : sh (a + 22) = some (.inr (.int, 20)) := h.2.2.2.2.2.2.2.2.2.2.2.2.2.2.2.2.2.2.2.2.2.2.1
theorem xMs_23 {sh : xSh} {R : xR} {a : Nat} (h : xModel sh R a) : sh (a + 23) = some (.inr (.int, 6)) := h.2.2.2.2.2.2.2.2.2.2.2.2.2.2.2.2.2.2.2.2.2.2.2.1
theorem xMs_24 {sh : xSh} {R : xR} {a : Nat} (h : xModel sh R a) : sh (a + 24) = some (.inr (.int, 240)) := h.2.2.2.2.2.2.2.2.2.2.2.2.2.2.2.2.2.2.2.2.2.2.2.2.1
theorem xMs_25 {sh : xSh} {R : xR} {a : Nat} (h : xModel sh R a) : sh (a + 25) = some (.inr (.int, 240)) := h.2.2.2.2.2.2.2.2.2.2.2.2.2.2.2.2.2.2.2.2.2.2.2.2.2.1
theorem xMs_26 {sh : xSh} {R : xR} {a : Nat} (h : xModel sh R a) : sh (a + 26) = some (.inr (.int, 240)) := h.2.2.2.2.2.2.2.2.2.2.2.2.2.2.2.2.2.2.2.2.2.2.2.2.2.2.1
theorem xMs_27 {sh : xSh} {R : xR} {a : Nat} (h : xModel sh R a) : sh (a + 27) = some (.inr (.int, 30)) := h.2.2.2.2.2.2.2.2.2.2.2.2.2.2.2.2.2.2.2.2.2.2.2.2.2.2.2.1
theorem xMs_28 {sh : xSh} {R : xR} {a : Nat} (h : xModel sh R a) : sh (a + 28) = some (.inr (.int, 58)) := h.2.2.2.2.2.2.2.2.2.2.2.2.2.2.2.2.2.2.2.2.2.2.2.2.2.2.2.2.1
theorem xMs_29 {sh : xSh} {R : xR} {a : Nat} (h : xModel sh R a) : sh (a + 29) = some (.inr (.int, 58)) := h.2.2.2.2.2.2.2.2.2.2.2.2.2.2.2.2.2.2.2.2.2.2.2.2.2.2.2.2.2.1
theorem xMs_30 {sh : xSh} {R : xR} {a : Nat} (h : xModel sh R a) : sh (a + 30) = some (.inr (.int, 58)) := h.2.2.2.2.2.2.2.2.2.2.2.2.2.2.2.2.2.2.2.2.2.2.2.2.2.2.2.2.2.2.1
theorem xMs_31 {sh : xSh} {R : xR} {a : Nat} (h : xModel sh R a) : sh (a + 31) = some (.inr (.int, 232)) := h.2.2.2.2.2.2.2.2.2.2.2.2.2.2.2.2.2.2.2.2.2.2.2.2.2.2.2.2.2.2.2.1
theorem xMs_32 {sh : xSh} {R : xR} {a : Nat} (h : xModel sh R a) : sh (a + 32) = some (.inr (.int, 928)) := h.2.2.2.2.2.2.2.2.2.2.2.2.2.2.2.2.2.2.2.2.2.2.2.2.2.2.2.2.2.2.2.2.1
theorem xMs_33 {sh : xSh} {R : xR} {a : Nat} (h : xModel sh R a) : sh (a + 33) = some (.inr (.boolean, 4)) := h.2.2.2.2.2.2.2.2.2.2.2.2.2.2.2.2.2.2.2.2.2.2.2.2.2.2.2.2.2.2.2.2.2.1
theorem xMs_34 {sh : xSh} {R : xR} {a : Nat} (h : xModel sh R a) : sh (a + 34) = some (.inr (.int, 6)) := h.2.2.2.2.2.2.2.2.2.2.2.2.2.2.2.2.2.2.2.2.2.2.2.2.2.2.2.2.2.2.2.2.2.2.1
theorem xMs_35 {sh : xSh} {R : xR} {a : Nat} (h : xModel sh R a) : sh (a + 35) = some (.inr (.int, 6)) := h.2.2.2.2.2.2.2.2.2.2.2.2.2.2.2.2.2.2.2.2.2.2.2.2.2.2.2.2.2.2.2.2.2.2.2.1
theorem xMs_36 {sh : xSh} {R : xR} {a : Nat} (h : xModel sh R a) : sh (a + 36) = some (.inr (.int, 6)) := h.2.2.2.2.2.2.2.2.2.2.2.2.2.2.2.2.2.2.2.2.2.2.2.2.2.2.2.2.2.2.2.2.2.2.2.2.1
theorem xMs_37 {sh : xSh} {R : xR} {a : Nat} (h : xModel sh R a) : sh (a + 37) = some (.inr (.int, 64)) := h.2.2.2.2.2.2.2.2.2.2.2.2.2.2.2.2.2.2.2.2.2.2.2.2.2.2.2.2.2.2.2.2.2.2.2.2.2.1
theorem xMr_2 {sh : xSh} {R : xR} {a : Nat} (h : xModel sh R a) : R a 2 = some (a + 1) := h.2.2.2.2.2.2.2.2.2.2.2.2.2.2.2.2.2.2.2.2.2.2.2.2.2.2.2.2.2.2.2.2.2.2.2.2.2.2.1
theorem xMr_10 {sh : xSh} {R : xR} {a : Nat} (h : xModel sh R a) : R a 10 = some (a + 2) := h.2.2.2.2.2.2.2.2.2.2.2.2.2.2.2.2.2.2.2.2.2.2.2.2.2.2.2.2.2.2.2.2.2.2.2.2.2.2.2.1
theorem xMr_11 {sh : xSh} {R : xR} {a : Nat} (h : xModel sh R a) : R a 11 = some (a + 3) := h.2.2.2.2.2.2.2.2.2.2.2.2.2.2.2.2.2.2.2.2.2.2.2.2.2.2.2.2.2.2.2.2.2.2.2.2.2.2.2.2.1
theorem xMr_12 {sh : xSh} {R : xR} {a : Nat} (h : xModel sh R a) : R a 12 = some (a + 4) := h.2.2.2.2.2.2.2.2.2.2.2.2.2.2.2.2.2.2.2.2.2.2.2.2.2.2.2.2.2.2.2.2.2.2.2.2.2.2.2.2.2.1
theorem xMr_13 {sh : xSh} {R : xR} {a : Nat} (h : xModel sh R a) : R a 13 = some (a + 5) := h.2.2.2.2.2.2.2.2.2.2.2.2.2.2.2.2.2.2.2.2.2.2.2.2.2.2.2.2.2.2.2.2.2.2.2.2.2.2.2.2.2.2.1
theorem xMr_14 {sh : xSh} {R : xR} {a : Nat} (h : xModel sh R a) : R a 14 = some (a + 6) := h.2.2.2.2.2.2.2.2.2.2.2.2.2.2.2.2.2.2.2.2.2.2.2.2.2.2.2.2.2.2.2.2.2.2.2.2.2.2.2.2.2.2.2.1
theorem xMr_15 {sh : xSh} {R : xR} {a : Nat} (h : xModel sh R a) : R a 15 = some (a + 7) := h.2.2.2.2.2.2.2.2.2.2.2.2.2.2.2.2.2.2.2.2.2.2.2.2.2.2.2.2.2.2.2.2.2.2.2.2.2.2.2.2.2.2.2.2.1
theorem xMr_16 {sh : xSh} {R : xR} {a : Nat} (h : xModel sh R a) : R a 16 = some (a + 8) := h.2.2.2.2.2.2.2.2.2.2.2.2.2.2.2.2.2.2.2.2.2.2.2.2.2.2.2.2.2.2.2.2.2.2.2.2.2.2.2.2.2.2.2.2.2.1
theorem xMr_17 {sh : xSh} {R : xR} {a : Nat} (h : xModel sh R a) : R a 17 = some (a + 9) := h.2.2.2.2.2.2.2.2.2.2.2.2.2.2.2.2.2.2.2.2.2.2.2.2.2.2.2.2.2.2.2.2.2.2.2.2.2.2.2.2.2.2.2.2.2.2.1
theorem xMr_18 {sh : xSh} {R : xR} {a : Nat} (h : xModel sh R a) : R a 18 = some (a + 10) := h.2.2.2.2.2.2.2.2.2.2.2.2.2.2.2.2.2.2.2.2.2.2.2.2.2.2.2.2.2.2.2.2.2.2.2.2.2.2.2.2.2.2.2.2.2.2.2.1
theorem xMr_21 {sh : xSh} {R : xR} {a : Nat} (h : xModel sh R a) : R a 21 = some (a + 11) := h.2.2.2.2.2.2.2.2.2.2.2.2.2.2.2.2.2.2.2.2.2.2.2.2.2.2.2.2.2.2.2.2.2.2.2.2.2.2.2.2.2.2.2.2.2.2.2.2.1
theorem xMr_22 {sh : xSh} {R : xR} {a : Nat} (h : xModel sh R a) : R a 22 = some (a + 12) := h.2.2.2.2.2.2.2.2.2.2.2.2.2.2.2.2.2.2.2.2.2.2.2.2.2.2.2.2.2.2.2.2.2.2.2.2.2.2.2.2.2.2.2.2.2.2.2.2.2.1
theorem xMr_23 {sh : xSh} {R : xR} {a : Nat} (h : xModel sh R a) : R a 23 = some (a + 13) := h.2.2.2.2.2.2.2.2.2.2.2.2.2.2.2.2.2.2.2.2.2.2.2.2.2.2.2.2.2.2.2.2.2.2.2.2.2.2.2.2.2.2.2.2.2.2.2.2.2.2.1
theorem xMr_24 {sh : xSh} {R : xR} {a : Nat} (h : xModel sh R a) : R a 24 = some (a + 14) := h.2.2.2.2.2.2.2.2.2.2.2.2.2.2.2.2.2.2.2.2.2.2.2.2.2.2.2.2.2.2.2.2.2.2.2.2.2.2.2.2.2.2.2.2.2.2.2.2.2.2.2.1
theorem xMr_25 {sh : xSh} {R : xR} {a : Nat} (h : xModel sh R a) : R a 25 = some (a + 15) := h.2.2.2.2.2.2.2.2.2.2.2.2.2.2.2.2.2.2.2.2.2.2.2.2.2.2.2.2.2.2.2.2.2.2.2.2.2.2.2.2.2.2.2.2.2.2.2.2.2.2.2.2.1
theorem xMr_26 {sh : xSh} {R : xR} {a : Nat} (h : xModel sh R a) : R a 26 = some (a + 16) := h.2.2.2.2.2.2.2.2.2.2.2.2.2.2.2.2.2.2.2.2.2.2.2.2.2.2.2.2.2.2.2.2.2.2.2.2.2.2.2.2.2.2.2.2.2.2.2.2.2.2.2.2.2.1
theorem xMr_27 {sh : xSh} {R : xR} {a : Nat} (h : xModel sh R a) : R a 27 = some (a + 17) := h.2.2.2.2.2.2.2.2.2.2.2.2.2.2.2.2.2.2.2.2.2.2.2.2.2.2.2.2.2.2.2.2.2.2.2.2.2.2.2.2.2.2.2.2.2.2.2.2.2.2.2.2.2.2.1
theorem xMr_28 {sh : xSh} {R : xR} {a : Nat} (h : xModel sh R a) : R a 28 = some (a + 18) := h.2.2.2.2.2.2.2.2.2.2.2.2.2.2.2.2.2.2.2.2.2.2.2.2.2.2.2.2.2.2.2.2.2.2.2.2.2.2.2.2.2.2.2.2.2.2.2.2.2.2.2.2.2.2.2.1
theorem xMr_29 {sh : xSh} {R : xR} {a : Nat} (h : xModel sh R a) : R a 29 = some (a + 19) := h.2.2.2.2.2.2.2.2.2.2.2.2.2.2.2.2.2.2.2.2.2.2.2.2.2.2.2.2.2.2.2.2.2.2.2.2.2.2.2.2.2.2.2.2.2.2.2.2.2.2.2.2.2.2.2.2.1
theorem xMr_30 {sh : xSh} {R : xR} {a : Nat} (h : xModel sh R a) : R a 30 = some (a + 20) := h.2.2.2.2.2.2.2.2.2.2.2.2.2.2.2.2.2.2.2.2.2.2.2.2.2.2.2.2.2.2.2.2.2.2.2.2.2.2.2.2.2.2.2.2.2.2.2.2.2.2.2.2.2.2.2.2.2.1
theorem xMr_31 {sh : xSh} {R : xR} {a : Nat} (h : xModel sh R a) : R a 31 = some (a + 21) := h.2.2.2.2.2.2.2.2.2.2.2.2.2.2.2.2.2.2.2.2.2.2.2.2.2.2.2.2.2.2.2.2.2.2.2.2.2.2.2.2.2.2.2.2.2.2.2.2.2.2.2.2.2.2.2.2.2.2.1
theorem xMr_32 {sh : xSh} {R : xR} {a : Nat} (h : xModel sh R a) : R a 32 = some (a + 22) := h.2.2.2.2.2.2.2.2.2.2.2.2.2.2.2.2.2.2.2.2.2.2.2.2.2.2.2.2.2.2.2.2.2.2.2.2.2.2.2.2.2.2.2.2.2.2.2.2.2.2.2.2.2.2.2.2.2.2.2.1
theorem xMr_34 {sh : xSh} {R : xR} {a : Nat} (h : xModel sh R a) : R a 34 = some (a + 23) := h.2.2.2.2.2.2.2.2.2.2.2.2.2.2.2.2.2.2.2.2.2.2.2.2.2.2.2.2.2.2.2.2.2.2.2.2.2.2.2.2.2.2.2.2.2.2.2.2.2.2.2.2.2.2.2.2.2.2.2.2.1
theorem xMr_35 {sh : xSh} {R : xR} {a : Nat} (h : xModel sh R a) : R a 35 = some (a + 24) := h.2.2.2.2.2.2.2.2.2.2.2.2.2.2.2.2.2.2.2.2.2.2.2.2.2.2.2.2.2.2.2.2.2.2.2.2.2.2.2.2.2.2.2.2.2.2.2.2.2.2.2.2.2.2.2.2.2.2.2.2.2.1
theorem xMr_36 {sh : xSh} {R : xR} {a : Nat} (h : xModel sh R a) : R a 36 = some (a + 25) := h.2.2.2.2.2.2.2.2.2.2.2.2.2.2.2.2.2.2.2.2.2.2.2.2.2.2.2.2.2.2.2.2.2.2.2.2.2.2.2.2.2.2.2.2.2.2.2.2.2.2.2.2.2.2.2.2.2.2.2.2.2.2.1
theorem xMr_37 {sh : xSh} {R : xR} {a : Nat} (h : xModel sh R a) : R a 37 = some (a + 26) := h.2.2.2.2.2.2.2.2.2.2.2.2.2.2.2.2.2.2.2.2.2.2.2.2.2.2.2.2.2.2.2.2.2.2.2.2.2.2.2.2.2.2.2.2.2.2.2.2.2.2.2.2.2.2.2.2.2.2.2.2.2.2.2.1
theorem xMr_38 {sh : xSh} {R : xR} {a : Nat} (h : xModel sh R a) : R a 38 = some (a + 27) := h.2.2.2.2.2.2.2.2.2.2.2.2.2.2.2.2.2.2.2.2.2.2.2.2.2.2.2.2.2.2.2.2.2.2.2.2.2.2.2.2.2.2.2.2.2.2.2.2.2.2.2.2.2.2.2.2.2.2.2.2.2.2.2.2.1
theorem xMr_39 {sh : xSh} {R : xR} {a : Nat} (h : xModel sh R a) : R a 39 = some (a + 28) := h.2.2.2.2.2.2.2.2.2.2.2.2.2.2.2.2.2.2.2.2.2.2.2.2.2.2.2.2.2.2.2.2.2.2.2.2.2.2.2.2.2.2.2.2.2.2.2.2.2.2.2.2.2.2.2.2.2.2.2.2.2.2.2.2.2.1
theorem xMr_40 {sh : xSh} {R : xR} {a : Nat} (h : xModel sh R a) : R a 40 = some (a + 29) := h.2.2.2.2.2.2.2.2.2.2.2.2.2.2.2.2.2.2.2.2.2.2.2.2.2.2.2.2.2.2.2.2.2.2.2.2.2.2.2.2.2.2.2.2.2.2.2.2.2.2.2.2.2.2.2.2.2.2.2.2.2.2.2.2.2.2.1
theorem xMr_41 {sh : xSh} {R : xR} {a : Nat} (h : xModel sh R a) : R a 41 = some (a + 30) := h.2.2.2.2.2.2.2.2.2.2.2.2.2.2.2.2.2.2.2.2.2.2.2.2.2.2.2.2.2.2.2.2.2.2.2.2.2.2.2.2.2.2.2.2.2.2.2.2.2.2.2.2.2.2.2.2.2.2.2.2.2.2.2.2.2.2.2.1
theorem xMr_42 {sh : xSh} {R : xR} {a : Nat} (h : xModel sh R a) : R a 42 = some (a + 31) := h.2.2.2.2.2.2.2.2.2.2.2.2.2.2.2.2.2.2.2.2.2.2.2.2.2.2.2.2.2.2.2.2.2.2.2.2.2.2.2.2.2.2.2.2.2.2.2.2.2.2.2.2.2.2.2.2.2.2.2.2.2.2.2.2.2.2.2.2.1
theorem xMr_43 {sh : xSh} {R : xR} {a : Nat} (h : xModel sh R a) : R a 43 = some (a + 32) := h.2.2.2.2.2.2.2.2.2.2.2.2.2.2.2.2.2.2.2.2.2.2.2.2.2.2.2.2.2.2.2.2.2.2.2.2.2.2.2.2.2.2.2.2.2.2.2.2.2.2.2.2.2.2.2.2.2.2.2.2.2.2.2.2.2.2.2.2.2.1
theorem xMr_44 {sh : xSh} {R : xR} {a : Nat} (h : xModel sh R a) : R a 44 = some (a + 33) := h.2.2.2.2.2.2.2.2.2.2.2.2.2.2.2.2.2.2.2.2.2.2.2.2.2.2.2.2.2.2.2.2.2.2.2.2.2.2.2.2.2.2.2.2.2.2.2.2.2.2.2.2.2.2.2.2.2.2.2.2.2.2.2.2.2.2.2.2.2.2.1
theorem xMr_49 {sh : xSh} {R : xR} {a : Nat} (h : xModel sh R a) : R a 49 = some (a + 34) := h.2.2.2.2.2.2.2.2.2.2.2.2.2.2.2.2.2.2.2.2.2.2.2.2.2.2.2.2.2.2.2.2.2.2.2.2.2.2.2.2.2.2.2.2.2.2.2.2.2.2.2.2.2.2.2.2.2.2.2.2.2.2.2.2.2.2.2.2.2.2.2.1
theorem xMr_52 {sh : xSh} {R : xR} {a : Nat} (h : xModel sh R a) : R a 52 = some (a + 35) := h.2.2.2.2.2.2.2.2.2.2.2.2.2.2.2.2.2.2.2.2.2.2.2.2.2.2.2.2.2.2.2.2.2.2.2.2.2.2.2.2.2.2.2.2.2.2.2.2.2.2.2.2.2.2.2.2.2.2.2.2.2.2.2.2.2.2.2.2.2.2.2.2.1
theorem xMr_53 {sh : xSh} {R : xR} {a : Nat} (h : xModel sh R a) : R a 53 = some (a + 36) := h.2.2.2.2.2.2.2.2.2.2.2.2.2.2.2.2.2.2.2.2.2.2.2.2.2.2.2.2.2.2.2.2.2.2.2.2.2.2.2.2.2.2.2.2.2.2.2.2.2.2.2.2.2.2.2.2.2.2.2.2.2.2.2.2.2.2.2.2.2.2.2.2.2.1
theorem xMr_55 {sh : xSh} {R : xR} {a : Nat} (h : xModel sh R a) : R a 55 = some (a + 37) := h.2.2.2.2.2.2.2.2.2.2.2.2.2.2.2.2.2.2.2.2.2.2.2.2.2.2.2.2.2.2.2.2.2.2.2.2.2.2.2.2.2.2.2.2.2.2.2.2.2.2.2.2.2.2.2.2.2.2.2.2.2.2.2.2.2.2.2.2.2.2.2.2.2.2
theorem hm_ad {x y : Int32} {a b : Nat} (h1 : x = nI a) (h2 : y = nI b) : x + y = nI (a + b) := by rw [h1, h2, nI_add]
theorem hm_mu {x y : Int32} {a b : Nat} (h1 : x = nI a) (h2 : y = nI b) : x * y = nI (a * b) := by rw [h1, h2, pk_mul]
theorem lmX8_293 : Cond.methodLink RX8 293 Lib.Math.min.name ∈ lw_good := xt 655 (by decide +kernel) rfl
theorem lmX8_319 : Cond.methodLink RX8 319 Lib.Math.max.name ∈ lw_good := xt 875 (by decide +kernel) rfl
theorem lmX9_420 : Cond.methodLink RX9 420 Lib.Math.max.name ∈ lw_good := xt 1562 (by decide +kernel) rfl
