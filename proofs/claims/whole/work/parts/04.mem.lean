/-! the memory's rows -/
theorem xcell_obj {cT : FieldType → ClassId} {sh : xSh} {R : xR} {L : xL} {I : xI} {a ci : Nat} (h : sh a = some (.inl ci)) : xcell cT sh R L I a = .inr (ci, xfs R L I a ci) := by
  simp [xcell, h]
theorem xcell_arr {cT : FieldType → ClassId} {sh : xSh} {R : xR} {L : xL} {I : xI} {a n : Nat} {ty : FieldType} (h : sh a = some (.inr (ty, n))) : xcell cT sh R L I a = .inl (cT ty, n, xar R L I a ty) := by
  simp [xcell, h]
theorem xfs_at {R : xR} {L : xL} {I : xI} {a ci k : Nat} (hk : k < (xC ci).2.2) : (xfs R L I a ci)[k]? = some (xfv R L I a k (xty ci k)) := by
  simp [xfs, List.getElem?_range, hk]
theorem xfs_len {R : xR} {L : xL} {I : xI} {a ci : Nat} : (xfs R L I a ci).length = (xC ci).2.2 := by simp [xfs]
theorem xup_cell {cT : FieldType → ClassId} {sh : xSh} {R R' : xR} {L L' : xL} {I I' : xI} {a : Nat} {e : va_E} (hR : ∀ x, x ≠ a → R' x = R x) (hL : ∀ x, x ≠ a → L' x = L x) (hI : ∀ x, x ≠ a → I' x = I x) (he : xcell cT sh R' L' I' a = e) (x : Nat) : va_up (xcell cT sh R L I) a e x = xcell cT sh R' L' I' x := by
  by_cases hx : x = a
  · subst hx
    rw [va_up_self, he]
  · rw [va_up_ne _ _ hx]
    simp only [xcell, xfs, xfv, xar, hR x hx, hL x hx, hI x hx]
theorem xWd_set {D : va_G} {cT : FieldType → ClassId} {A : Nat → Prop} {H1 : Heap} {sh : xSh} {R R' : xR} {L L' : xL} {I I' : xI} {Ls : List Nat} {a q0 : Nat} {e : va_E} (hs : ∀ a, a ∈ Ls ↔ sh a ≠ none) (ha : a ∈ Ls) (hD0 : va_D A (va_pl Ls (xcell cT sh R L I))) (hq : (va_pl Ls (xcell cT sh R L I))[q0]? = some (a, xcell cT sh R L I a))
    (hR : ∀ x, x ≠ a → R' x = R x) (hL : ∀ x, x ≠ a → L' x = L x) (hI : ∀ x, x ≠ a → I' x = I x) (he : xcell cT sh R' L' I' a = e)
    (hP : va_P D vwCl ((va_pl Ls (xcell cT sh R L I)).set q0 (a, e)) H1) (hD : va_D A ((va_pl Ls (xcell cT sh R L I)).set q0 (a, e))) : xWd D cT A H1 sh R' L' I' := by
  have h1 : (va_pl Ls (xcell cT sh R L I)).set q0 (a, e) = va_pl Ls (xcell cT sh R' L' I') := by
    have h2 := va_pl_set (X := []) (e := e) hD0 ha hq
    simp only [List.nil_append] at h2
    rw [h2]
    exact va_pl_congr (xup_cell hR hL hI he)
  rw [h1] at hP hD
  exact ⟨Ls, hs, hP, hD⟩
theorem xpl_get {f : Nat → va_E} {Ls : List Nat} {a : Nat} (h : a ∈ Ls) : ∃ k : Nat, (va_pl Ls f)[k]? = some (a, f a) := by
  obtain ⟨k, hk⟩ := va_pl_get (X := []) (f := f) h
  exact ⟨k, by simpa using hk⟩
/-- a field by its link: the class's place, the slot, its type -/
def xFd (own : String) (i ci k : Nat) (ty : FieldType) : Prop :=
  ci < 10 ∧ k < (xC ci).2.2 ∧ (∀ w ∈ u_ws (xC ci).1 (xC ci).2.1 (xC ci).2.2, w ∈ lw_good) ∧ Cond.fieldLink own i ((xC ci).2.1 k).1 ((xC ci).2.1 k).2.1 ((xC ci).2.1 k).2.2.1 ∈ lw_good ∧ xty ci k = ty
theorem xfv_setI {R : xR} {L : xL} {I : xI} {a ci k : Nat} {x : Int32} (hk : k < (xC ci).2.2) (hv : ∀ J : xI, xfv R L J a k (xty ci k) = .int (J a k)) : xfs R L (va_up I a (va_up (I a) k x)) a ci = (xfs R L I a ci).set k (.int x) := by
  apply List.ext_getElem?
  intro j
  by_cases hj : j = k
  · subst hj
    rw [List.getElem?_set_self (by rw [xfs_len]; exact hk), xfs_at hk, hv, va_up_self, va_up_self]
  · rw [List.getElem?_set_ne (Ne.symm hj)]
    by_cases hl : j < (xC ci).2.2
    · rw [xfs_at hl, xfs_at hl]
      simp only [xfv, va_up_self, va_up_ne _ _ hj]
    · rw [List.getElem?_eq_none (by rw [xfs_len]; omega), List.getElem?_eq_none (by rw [xfs_len]; omega)]
theorem xfv_setL {R : xR} {L : xL} {I : xI} {a ci k : Nat} {x : Int64} (hk : k < (xC ci).2.2) (hv : xty ci k = .long) : xfs R (va_up L a (va_up (L a) k x)) I a ci = (xfs R L I a ci).set k (.long x) := by
  apply List.ext_getElem?
  intro j
  by_cases hj : j = k
  · subst hj
    rw [List.getElem?_set_self (by rw [xfs_len]; exact hk), xfs_at hk, hv]
    simp only [xfv, va_up_self]
  · rw [List.getElem?_set_ne (Ne.symm hj)]
    by_cases hl : j < (xC ci).2.2
    · rw [xfs_at hl, xfs_at hl]
      simp only [xfv, va_up_self, va_up_ne _ _ hj]
    · rw [List.getElem?_eq_none (by rw [xfs_len]; omega), List.getElem?_eq_none (by rw [xfs_len]; omega)]
theorem xfv_setR {R : xR} {L : xL} {I : xI} {a ci k : Nat} {x : Nat} (hk : k < (xC ci).2.2) (hv : ∀ J : xR, xfv J L I a k (xty ci k) = va_rf (J a k)) : xfs (va_up R a (va_up (R a) k (some x))) L I a ci = (xfs R L I a ci).set k (.ref x) := by
  apply List.ext_getElem?
  intro j
  by_cases hj : j = k
  · subst hj
    rw [List.getElem?_set_self (by rw [xfs_len]; exact hk), xfs_at hk, hv, va_up_self, va_up_self]
    rfl
  · rw [List.getElem?_set_ne (Ne.symm hj)]
    by_cases hl : j < (xC ci).2.2
    · rw [xfs_at hl, xfs_at hl]
      simp only [xfv, va_up_self, va_up_ne _ _ hj]
    · rw [List.getElem?_eq_none (by rw [xfs_len]; omega), List.getElem?_eq_none (by rw [xfs_len]; omega)]
section EXM
variable {d kc ks n pc : Nat} {M : xM} {sh : xSh} {R : xR} {L : xL} {I : xI} {ls : List (Option Value)} {st : List Value} {Q : xQ}
theorem Ex_get (pc' : Nat) {i ci k a : Nat} {ty : FieldType} {v : Value} (hd : decode M.2.1 pc = .ok (.getfield i, 3)) (hf : xFd M.1.cls i ci k ty) (hs : sh a = some (.inl ci)) (hv : xfv R L I a k ty = v) (hp : pc + 3 = pc') (kk : Ex d kc ks M n sh R L I pc' ls (v :: st) Q) : Ex d kc ks M n sh R L I pc ls (.ref a :: st) Q := by
  subst hp
  intro l p e RR s m args below meth c H locs cells slots D cT ad A QQ lsr C K Wd S N Lo Rt
  obtain ⟨Ls, h1, hP, hD⟩ := id Wd
  obtain ⟨f1, f2, f3, f4, f5⟩ := hf
  obtain ⟨q0, hq⟩ := xpl_get (f := xcell cT sh R L I) ((h1 a).mpr (by rw [hs]; simp))
  rw [xcell_obj hs] at hq
  exact va_get C.1 C.2.1 C.2.2.2.2.1 f3 C.2.2.2.1 K.1 hP q0 hq (xC_at f1) k f2 (C.2.2.2.2.1 _ f4) (fun _ h => h) (v := v) (by rw [xfs_at f2, f5, hv]) hd (kk l p e RR s m args below meth c H locs cells slots D cT ad A QQ lsr C K Wd S N Lo Rt)
theorem Ex_getI (pc' : Nat) {i ci k a : Nat} {ty : FieldType} (hd : decode M.2.1 pc = .ok (.getfield i, 3)) (hf : xFd M.1.cls i ci k ty) (hs : sh a = some (.inl ci)) (hv : xfv R L I a k ty = .int (I a k)) (hp : pc + 3 = pc') (kk : Ex d kc ks M n sh R L I pc' ls (.int (I a k) :: st) Q) : Ex d kc ks M n sh R L I pc ls (.ref a :: st) Q := Ex_get pc' hd hf hs hv hp kk
theorem Ex_getL (pc' : Nat) {i ci k a : Nat} (hd : decode M.2.1 pc = .ok (.getfield i, 3)) (hf : xFd M.1.cls i ci k .long) (hs : sh a = some (.inl ci)) (hp : pc + 3 = pc') (kk : Ex d kc ks M n sh R L I pc' ls (.long (L a k) :: st) Q) : Ex d kc ks M n sh R L I pc ls (.ref a :: st) Q := Ex_get pc' hd hf hs rfl hp kk
theorem Ex_getR (pc' : Nat) {i ci k a b : Nat} {ty : FieldType} (hd : decode M.2.1 pc = .ok (.getfield i, 3)) (hf : xFd M.1.cls i ci k ty) (hs : sh a = some (.inl ci)) (hv : xfv R L I a k ty = va_rf (R a k)) (hr : R a k = some b) (hp : pc + 3 = pc') (kk : Ex d kc ks M n sh R L I pc' ls (.ref b :: st) Q) : Ex d kc ks M n sh R L I pc ls (.ref a :: st) Q := Ex_get pc' hd hf hs (by rw [hv, hr]; rfl) hp kk
theorem Ex_putI (pc' : Nat) {i ci k a : Nat} {ty : FieldType} {x : Int32} (hd : decode M.2.1 pc = .ok (.putfield i, 3)) (hf : xFd M.1.cls i ci k ty) (hfin : ((xC ci).2.1 k).2.2.2 = false) (hs : sh a = some (.inl ci)) (hv : ∀ J : xI, xfv R L J a k ty = .int (J a k)) (hn : narrow ty (.int x) = .int x) (hfit : fits ty (.int x) = true) (hp : pc + 3 = pc') (kk : Ex d kc ks M n sh R L (va_up I a (va_up (I a) k x)) pc' ls st Q) : Ex d kc ks M n sh R L I pc ls (.int x :: .ref a :: st) Q := by
  subst hp
  intro l p e RR s m args below meth c H locs cells slots D cT ad A QQ lsr C K Wd S N Lo Rt
  obtain ⟨Ls, h1, hP, hD⟩ := id Wd
  obtain ⟨f1, f2, f3, f4, f5⟩ := hf
  have ha : a ∈ Ls := (h1 a).mpr (by rw [hs]; simp)
  obtain ⟨q0, hq⟩ := xpl_get (f := xcell cT sh R L I) ha
  have hq2 := hq
  rw [xcell_obj hs] at hq
  refine va_put C.1 C.2.1 C.2.2.2.2.1 f3 (xty ci) (xty_ok f1) (xnm_ok f1) C.2.2.2.1 K.1 hP hD S q0 hq (xC_at f1) k f2 (C.2.2.2.2.1 _ f4) (fun _ h => h) hfin (ty := ty) (v := .int x) (by rw [xty_ok f1 k f2, f5]) hn hfit (by rw [xfs_len]; exact f2) hd (fun H1 locs1 hP1 hD1 hS1 => ?_)
  refine kk l p e RR s m args below meth c H1 locs1 cells slots D cT ad A QQ lsr C K (xWd_set h1 ha hD hq2 (fun _ _ => rfl) (fun _ _ => rfl) (fun y hy => va_up_ne _ _ hy) ?_ hP1 hD1) hS1 N Lo Rt
  rw [xcell_obj hs, xfv_setI f2 (by rw [f5]; exact hv)]
theorem Ex_putL (pc' : Nat) {i ci k a : Nat} {x : Int64} (hd : decode M.2.1 pc = .ok (.putfield i, 3)) (hf : xFd M.1.cls i ci k .long) (hfin : ((xC ci).2.1 k).2.2.2 = false) (hs : sh a = some (.inl ci)) (hp : pc + 3 = pc') (kk : Ex d kc ks M n sh R (va_up L a (va_up (L a) k x)) I pc' ls st Q) : Ex d kc ks M n sh R L I pc ls (.long x :: .ref a :: st) Q := by
  subst hp
  intro l p e RR s m args below meth c H locs cells slots D cT ad A QQ lsr C K Wd S N Lo Rt
  obtain ⟨Ls, h1, hP, hD⟩ := id Wd
  obtain ⟨f1, f2, f3, f4, f5⟩ := hf
  have ha : a ∈ Ls := (h1 a).mpr (by rw [hs]; simp)
  obtain ⟨q0, hq⟩ := xpl_get (f := xcell cT sh R L I) ha
  have hq2 := hq
  rw [xcell_obj hs] at hq
  refine va_put C.1 C.2.1 C.2.2.2.2.1 f3 (xty ci) (xty_ok f1) (xnm_ok f1) C.2.2.2.1 K.1 hP hD S q0 hq (xC_at f1) k f2 (C.2.2.2.2.1 _ f4) (fun _ h => h) hfin (ty := .long) (v := .long x) (by rw [xty_ok f1 k f2, f5]) rfl rfl (by rw [xfs_len]; exact f2) hd (fun H1 locs1 hP1 hD1 hS1 => ?_)
  refine kk l p e RR s m args below meth c H1 locs1 cells slots D cT ad A QQ lsr C K (xWd_set h1 ha hD hq2 (fun _ _ => rfl) (fun y hy => va_up_ne _ _ hy) (fun _ _ => rfl) ?_ hP1 hD1) hS1 N Lo Rt
  rw [xcell_obj hs, xfv_setL f2 f5]
theorem Ex_putR (pc' : Nat) {i ci k a x : Nat} {ty : FieldType} (hd : decode M.2.1 pc = .ok (.putfield i, 3)) (hf : xFd M.1.cls i ci k ty) (hfin : ((xC ci).2.1 k).2.2.2 = false) (hs : sh a = some (.inl ci)) (hv : ∀ J : xR, xfv J L I a k ty = va_rf (J a k)) (hn : narrow ty (.ref x) = .ref x) (hfit : fits ty (.ref x) = true) (hp : pc + 3 = pc') (kk : Ex d kc ks M n sh (va_up R a (va_up (R a) k (some x))) L I pc' ls st Q) : Ex d kc ks M n sh R L I pc ls (.ref x :: .ref a :: st) Q := by
  subst hp
  intro l p e RR s m args below meth c H locs cells slots D cT ad A QQ lsr C K Wd S N Lo Rt
  obtain ⟨Ls, h1, hP, hD⟩ := id Wd
  obtain ⟨f1, f2, f3, f4, f5⟩ := hf
  have ha : a ∈ Ls := (h1 a).mpr (by rw [hs]; simp)
  obtain ⟨q0, hq⟩ := xpl_get (f := xcell cT sh R L I) ha
  have hq2 := hq
  rw [xcell_obj hs] at hq
  refine va_put C.1 C.2.1 C.2.2.2.2.1 f3 (xty ci) (xty_ok f1) (xnm_ok f1) C.2.2.2.1 K.1 hP hD S q0 hq (xC_at f1) k f2 (C.2.2.2.2.1 _ f4) (fun _ h => h) hfin (ty := ty) (v := .ref x) (by rw [xty_ok f1 k f2, f5]) hn hfit (by rw [xfs_len]; exact f2) hd (fun H1 locs1 hP1 hD1 hS1 => ?_)
  refine kk l p e RR s m args below meth c H1 locs1 cells slots D cT ad A QQ lsr C K (xWd_set h1 ha hD hq2 (fun y hy => va_up_ne _ _ hy) (fun _ _ => rfl) (fun _ _ => rfl) ?_ hP1 hD1) hS1 N Lo Rt
  rw [xcell_obj hs, xfv_setR f2 (by rw [f5]; exact hv)]
theorem Ex_putRF (pc' : Nat) {i ci k a x : Nat} {ty : FieldType} (hd : decode M.2.1 pc = .ok (.putfield i, 3)) (hf : xFd M.1.cls i ci k ty) (hfin : ((xC ci).2.1 k).2.2.2 = true) (hini : M.1.name = "<init>") (hcl : ((xC ci).2.1 k).1 = M.1.cls) (hs : sh a = some (.inl ci)) (hv : ∀ J : xR, xfv J L I a k ty = va_rf (J a k)) (hn : narrow ty (.ref x) = .ref x) (hfit : fits ty (.ref x) = true) (hp : pc + 3 = pc') (kk : Ex d kc ks M n sh (va_up R a (va_up (R a) k (some x))) L I pc' ls st Q) : Ex d kc ks M n sh R L I pc ls (.ref x :: .ref a :: st) Q := by
  subst hp
  intro l p e RR s m args below meth c H locs cells slots D cT ad A QQ lsr C K Wd S N Lo Rt
  obtain ⟨Ls, h1, hP, hD⟩ := id Wd
  obtain ⟨f1, f2, f3, f4, f5⟩ := hf
  have ha : a ∈ Ls := (h1 a).mpr (by rw [hs]; simp)
  obtain ⟨q0, hq⟩ := xpl_get (f := xcell cT sh R L I) ha
  have hq2 := hq
  rw [xcell_obj hs] at hq
  refine va_putF C.1 C.2.1 C.2.2.2.2.1 f3 (xty ci) (xty_ok f1) (xnm_ok f1) C.2.2.2.1 K.1 hP hD S q0 hq (xC_at f1) k f2 (C.2.2.2.2.1 _ f4) (fun _ h => h) hfin (C.2.2.2.2.2.2.1.trans hini) hcl (ty := ty) (v := .ref x) (by rw [xty_ok f1 k f2, f5]) hn hfit (by rw [xfs_len]; exact f2) hd (fun H1 locs1 hP1 hD1 hS1 => ?_)
  refine kk l p e RR s m args below meth c H1 locs1 cells slots D cT ad A QQ lsr C K (xWd_set h1 ha hD hq2 (fun y hy => va_up_ne _ _ hy) (fun _ _ => rfl) (fun _ _ => rfl) ?_ hP1 hD1) hS1 N Lo Rt
  rw [xcell_obj hs, xfv_setR f2 (by rw [f5]; exact hv)]
theorem x_in {i : Int32} {j N : Nat} (hi : i = nI j) (hj : j < N) (hN : N < 2 ^ 31) : vp_in i N ∧ i.toNatClampNeg = j := by
  subst hi
  exact ⟨vp_in_nI hj hN, nI_clamp (by omega)⟩
theorem Ex_iald (pc' : Nat) {i : Int32} {a N : Nat} (j : Nat) (hd : decode M.2.1 pc = .ok (.iaload, 1)) (hs : sh a = some (.inr (.int, N))) (hi : i = nI j) (hj : j < N) (hN : N < 2 ^ 31) (hp : pc + 1 = pc') (kk : Ex d kc ks M n sh R L I pc' ls (.int (I a j) :: st) Q) : Ex d kc ks M n sh R L I pc ls (.int i :: .ref a :: st) Q := by
  subst hp
  intro l p e RR s m args below meth c H locs cells slots D cT ad A QQ lsr C K Wd S N0 Lo Rt
  obtain ⟨Ls, h1, hP, hD⟩ := id Wd
  obtain ⟨q0, hq⟩ := xpl_get (f := xcell cT sh R L I) ((h1 a).mpr (by rw [hs]; simp))
  rw [xcell_arr hs] at hq
  obtain ⟨g1, g2⟩ := x_in hi hj hN
  refine va_iald C.1 C.2.1 K.1 hP q0 0 hq rfl g1 hd ?_
  rw [g2]
  exact kk l p e RR s m args below meth c H locs cells slots D cT ad A QQ lsr C K Wd S N0 Lo Rt
theorem Ex_bald (pc' : Nat) {i : Int32} {a N : Nat} (j : Nat) (hd : decode M.2.1 pc = .ok (.baload, 1)) (hs : sh a = some (.inr (.byte, N))) (hi : i = nI j) (hj : j < N) (hN : N < 2 ^ 31) (hp : pc + 1 = pc') (kk : Ex d kc ks M n sh R L I pc' ls (.int (I a j) :: st) Q) : Ex d kc ks M n sh R L I pc ls (.int i :: .ref a :: st) Q := by
  subst hp
  intro l p e RR s m args below meth c H locs cells slots D cT ad A QQ lsr C K Wd S N0 Lo Rt
  obtain ⟨Ls, h1, hP, hD⟩ := id Wd
  obtain ⟨q0, hq⟩ := xpl_get (f := xcell cT sh R L I) ((h1 a).mpr (by rw [hs]; simp))
  rw [xcell_arr hs] at hq
  obtain ⟨g1, g2⟩ := x_in hi hj hN
  refine va_bald C.1 C.2.1 K.1 hP q0 2 hq rfl g1 hd ?_
  rw [g2]
  exact kk l p e RR s m args below meth c H locs cells slots D cT ad A QQ lsr C K Wd S N0 Lo Rt
theorem Ex_zald (pc' : Nat) {i : Int32} {a N : Nat} (j : Nat) (hd : decode M.2.1 pc = .ok (.baload, 1)) (hs : sh a = some (.inr (.boolean, N))) (hi : i = nI j) (hj : j < N) (hN : N < 2 ^ 31) (hp : pc + 1 = pc') (kk : Ex d kc ks M n sh R L I pc' ls (.int (I a j) :: st) Q) : Ex d kc ks M n sh R L I pc ls (.int i :: .ref a :: st) Q := by
  subst hp
  intro l p e RR s m args below meth c H locs cells slots D cT ad A QQ lsr C K Wd S N0 Lo Rt
  obtain ⟨Ls, h1, hP, hD⟩ := id Wd
  obtain ⟨q0, hq⟩ := xpl_get (f := xcell cT sh R L I) ((h1 a).mpr (by rw [hs]; simp))
  rw [xcell_arr hs] at hq
  obtain ⟨g1, g2⟩ := x_in hi hj hN
  refine va_zald C.1 C.2.1 K.1 hP q0 3 hq rfl g1 hd ?_
  rw [g2]
  exact kk l p e RR s m args below meth c H locs cells slots D cT ad A QQ lsr C K Wd S N0 Lo Rt
theorem Ex_lald (pc' : Nat) {i : Int32} {a N : Nat} (j : Nat) (hd : decode M.2.1 pc = .ok (.laload, 1)) (hs : sh a = some (.inr (.long, N))) (hi : i = nI j) (hj : j < N) (hN : N < 2 ^ 31) (hp : pc + 1 = pc') (kk : Ex d kc ks M n sh R L I pc' ls (.long (L a j) :: st) Q) : Ex d kc ks M n sh R L I pc ls (.int i :: .ref a :: st) Q := by
  subst hp
  intro l p e RR s m args below meth c H locs cells slots D cT ad A QQ lsr C K Wd S N0 Lo Rt
  obtain ⟨Ls, h1, hP, hD⟩ := id Wd
  obtain ⟨q0, hq⟩ := xpl_get (f := xcell cT sh R L I) ((h1 a).mpr (by rw [hs]; simp))
  rw [xcell_arr hs] at hq
  obtain ⟨g1, g2⟩ := x_in hi hj hN
  refine va_lald C.1 C.2.1 K.1 hP q0 1 hq rfl g1 hd ?_
  rw [g2]
  exact kk l p e RR s m args below meth c H locs cells slots D cT ad A QQ lsr C K Wd S N0 Lo Rt
theorem Ex_aald (pc' : Nat) {i : Int32} {a b N : Nat} {Cn : String} (t0 : Nat) (j : Nat) (hd : decode M.2.1 pc = .ok (.aaload, 1)) (hs : sh a = some (.inr (.object Cn, N))) (ht : ∀ cT, (xtys cT)[t0]? = some (cT (.object Cn), .object Cn)) (hi : i = nI j) (hj : j < N) (hN : N < 2 ^ 31) (hr : R a j = some b) (hp : pc + 1 = pc') (kk : Ex d kc ks M n sh R L I pc' ls (.ref b :: st) Q) : Ex d kc ks M n sh R L I pc ls (.int i :: .ref a :: st) Q := by
  subst hp
  intro l p e RR s m args below meth c H locs cells slots D cT ad A QQ lsr C K Wd S N0 Lo Rt
  obtain ⟨Ls, h1, hP, hD⟩ := id Wd
  obtain ⟨q0, hq⟩ := xpl_get (f := xcell cT sh R L I) ((h1 a).mpr (by rw [hs]; simp))
  rw [xcell_arr hs] at hq
  obtain ⟨g1, g2⟩ := x_in hi hj hN
  refine va_aldq C.1 C.2.1 K.1 hP q0 t0 hq (ht cT) g1 hd ?_
  rw [g2, hr]
  exact kk l p e RR s m args below meth c H locs cells slots D cT ad A QQ lsr C K Wd S N0 Lo Rt
theorem Ex_alen (pc' : Nat) {a N : Nat} {ty : FieldType} (t0 : Nat) (hd : decode M.2.1 pc = .ok (.arraylength, 1)) (hs : sh a = some (.inr (ty, N))) (ht : ∀ cT, (xtys cT)[t0]? = some (cT ty, ty)) (hp : pc + 1 = pc') (kk : Ex d kc ks M n sh R L I pc' ls (.int (nI N) :: st) Q) : Ex d kc ks M n sh R L I pc ls (.ref a :: st) Q := by
  subst hp
  intro l p e RR s m args below meth c H locs cells slots D cT ad A QQ lsr C K Wd S N0 Lo Rt
  obtain ⟨Ls, h1, hP, hD⟩ := id Wd
  obtain ⟨q0, hq⟩ := xpl_get (f := xcell cT sh R L I) ((h1 a).mpr (by rw [hs]; simp))
  rw [xcell_arr hs] at hq
  exact va_alen C.1 C.2.1 K.1 hP q0 t0 hq (ht cT) rfl hd (kk l p e RR s m args below meth c H locs cells slots D cT ad A QQ lsr C K Wd S N0 Lo Rt)
theorem upd_up (f : Nat → Int32) (k : Nat) (x : Int32) : upd f k x = va_up f k x := rfl
theorem Ex_iast (pc' : Nat) {i x : Int32} {a N : Nat} (j : Nat) (hd : decode M.2.1 pc = .ok (.iastore, 1)) (hs : sh a = some (.inr (.int, N))) (hi : i = nI j) (hj : j < N) (hN : N < 2 ^ 31) (hp : pc + 1 = pc') (kk : Ex d kc ks M n sh R L (va_up I a (va_up (I a) j x)) pc' ls st Q) : Ex d kc ks M n sh R L I pc ls (.int x :: .int i :: .ref a :: st) Q := by
  subst hp
  intro l p e RR s m args below meth c H locs cells slots D cT ad A QQ lsr C K Wd S N0 Lo Rt
  obtain ⟨Ls, h1, hP, hD⟩ := id Wd
  have ha : a ∈ Ls := (h1 a).mpr (by rw [hs]; simp)
  obtain ⟨q0, hq⟩ := xpl_get (f := xcell cT sh R L I) ha
  have hq2 := hq
  rw [xcell_arr hs] at hq
  obtain ⟨g1, g2⟩ := x_in hi hj hN
  refine va_iast C.1 C.2.1 K.1 hP hD S q0 0 hq rfl g1 hd (fun H1 locs1 hP1 hD1 hS1 => ?_)
  refine kk l p e RR s m args below meth c H1 locs1 cells slots D cT ad A QQ lsr C K (xWd_set h1 ha hD hq2 (fun _ _ => rfl) (fun _ _ => rfl) (fun y hy => va_up_ne _ _ hy) ?_ hP1 hD1) hS1 N0 Lo Rt
  rw [xcell_arr hs, g2]
  simp only [xar, va_up_self]
  rfl
theorem Ex_bast (pc' : Nat) {i x : Int32} {a N : Nat} (j : Nat) (hd : decode M.2.1 pc = .ok (.bastore, 1)) (hs : sh a = some (.inr (.byte, N))) (hi : i = nI j) (hj : j < N) (hN : N < 2 ^ 31) (hp : pc + 1 = pc') (kk : Ex d kc ks M n sh R L (va_up I a (va_up (I a) j (vp_nar .byte x))) pc' ls st Q) : Ex d kc ks M n sh R L I pc ls (.int x :: .int i :: .ref a :: st) Q := by
  subst hp
  intro l p e RR s m args below meth c H locs cells slots D cT ad A QQ lsr C K Wd S N0 Lo Rt
  obtain ⟨Ls, h1, hP, hD⟩ := id Wd
  have ha : a ∈ Ls := (h1 a).mpr (by rw [hs]; simp)
  obtain ⟨q0, hq⟩ := xpl_get (f := xcell cT sh R L I) ha
  have hq2 := hq
  rw [xcell_arr hs] at hq
  obtain ⟨g1, g2⟩ := x_in hi hj hN
  refine va_bast C.1 C.2.1 K.1 hP hD S q0 2 hq rfl g1 hd (fun H1 locs1 hP1 hD1 hS1 => ?_)
  refine kk l p e RR s m args below meth c H1 locs1 cells slots D cT ad A QQ lsr C K (xWd_set h1 ha hD hq2 (fun _ _ => rfl) (fun _ _ => rfl) (fun y hy => va_up_ne _ _ hy) ?_ hP1 hD1) hS1 N0 Lo Rt
  rw [xcell_arr hs, g2]
  simp only [xar, va_up_self]
  rfl
theorem Ex_zast (pc' : Nat) {i x : Int32} {a N : Nat} (j : Nat) (hd : decode M.2.1 pc = .ok (.bastore, 1)) (hs : sh a = some (.inr (.boolean, N))) (hi : i = nI j) (hj : j < N) (hN : N < 2 ^ 31) (hp : pc + 1 = pc') (kk : Ex d kc ks M n sh R L (va_up I a (va_up (I a) j (vp_nar .boolean x))) pc' ls st Q) : Ex d kc ks M n sh R L I pc ls (.int x :: .int i :: .ref a :: st) Q := by
  subst hp
  intro l p e RR s m args below meth c H locs cells slots D cT ad A QQ lsr C K Wd S N0 Lo Rt
  obtain ⟨Ls, h1, hP, hD⟩ := id Wd
  have ha : a ∈ Ls := (h1 a).mpr (by rw [hs]; simp)
  obtain ⟨q0, hq⟩ := xpl_get (f := xcell cT sh R L I) ha
  have hq2 := hq
  rw [xcell_arr hs] at hq
  obtain ⟨g1, g2⟩ := x_in hi hj hN
  refine va_zast C.1 C.2.1 K.1 hP hD S q0 3 hq rfl g1 hd (fun H1 locs1 hP1 hD1 hS1 => ?_)
  refine kk l p e RR s m args below meth c H1 locs1 cells slots D cT ad A QQ lsr C K (xWd_set h1 ha hD hq2 (fun _ _ => rfl) (fun _ _ => rfl) (fun y hy => va_up_ne _ _ hy) ?_ hP1 hD1) hS1 N0 Lo Rt
  rw [xcell_arr hs, g2]
  simp only [xar, va_up_self]
  rfl
theorem Ex_last (pc' : Nat) {i : Int32} {x : Int64} {a N : Nat} (j : Nat) (hd : decode M.2.1 pc = .ok (.lastore, 1)) (hs : sh a = some (.inr (.long, N))) (hi : i = nI j) (hj : j < N) (hN : N < 2 ^ 31) (hp : pc + 1 = pc') (kk : Ex d kc ks M n sh R (va_up L a (va_up (L a) j x)) I pc' ls st Q) : Ex d kc ks M n sh R L I pc ls (.long x :: .int i :: .ref a :: st) Q := by
  subst hp
  intro l p e RR s m args below meth c H locs cells slots D cT ad A QQ lsr C K Wd S N0 Lo Rt
  obtain ⟨Ls, h1, hP, hD⟩ := id Wd
  have ha : a ∈ Ls := (h1 a).mpr (by rw [hs]; simp)
  obtain ⟨q0, hq⟩ := xpl_get (f := xcell cT sh R L I) ha
  have hq2 := hq
  rw [xcell_arr hs] at hq
  obtain ⟨g1, g2⟩ := x_in hi hj hN
  refine va_last C.1 C.2.1 K.1 hP hD S q0 1 hq rfl g1 hd (fun H1 locs1 hP1 hD1 hS1 => ?_)
  refine kk l p e RR s m args below meth c H1 locs1 cells slots D cT ad A QQ lsr C K (xWd_set h1 ha hD hq2 (fun _ _ => rfl) (fun y hy => va_up_ne _ _ hy) (fun _ _ => rfl) ?_ hP1 hD1) hS1 N0 Lo Rt
  rw [xcell_arr hs, g2]
  simp only [xar, va_up_self]
  rfl
theorem Ex_aast (pc' : Nat) {i : Int32} {a v ci N : Nat} (t0 j : Nat) (hd : decode M.2.1 pc = .ok (.aastore, 1)) (hs : sh a = some (.inr (.object (xC ci).1, N))) (hci : ci < 10) (ht : ∀ cT, (xtys cT)[t0]? = some (cT (.object (xC ci).1), .object (xC ci).1)) (hsv : sh v = some (.inl ci)) (hi : i = nI j) (hj : j < N) (hN : N < 2 ^ 31) (hp : pc + 1 = pc') (kk : Ex d kc ks M n sh (va_up R a (va_up (R a) j (some v))) L I pc' ls st Q) : Ex d kc ks M n sh R L I pc ls (.ref v :: .int i :: .ref a :: st) Q := by
  subst hp
  intro l p e RR s m args below meth c H locs cells slots D cT ad A QQ lsr C K Wd S N0 Lo Rt
  obtain ⟨Ls, h1, hP, hD⟩ := id Wd
  have ha : a ∈ Ls := (h1 a).mpr (by rw [hs]; simp)
  obtain ⟨q0, hq⟩ := xpl_get (f := xcell cT sh R L I) ha
  obtain ⟨q1, hq1⟩ := xpl_get (f := xcell cT sh R L I) ((h1 v).mpr (by rw [hsv]; simp))
  have hq2 := hq
  rw [xcell_arr hs] at hq
  rw [xcell_obj hsv] at hq1
  obtain ⟨g1, g2⟩ := x_in hi hj hN
  refine va_astq C.1 C.2.1 K.1 hP hD S q0 t0 q1 ci (r := xC ci) hq (ht cT) hq1 (xC_at hci) g1 hd (fun H1 locs1 hP1 hD1 hS1 => ?_)
  refine kk l p e RR s m args below meth c H1 locs1 cells slots D cT ad A QQ lsr C K (xWd_set h1 ha hD hq2 (fun y hy => va_up_ne _ _ hy) (fun _ _ => rfl) (fun _ _ => rfl) ?_ hP1 hD1) hS1 N0 Lo Rt
  rw [xcell_arr hs, g2]
  simp only [xar, va_up_self]
theorem Ex_ret0 (hd : decode M.2.1 pc = .ok (.return_, 1)) (hr : M.2.2.2 = none) (hn : n = 0 ∨ kc = 0) (hQ : Q none n sh R L I) : Ex d kc ks M n sh R L I pc ls [] Q := by
  intro l p e RR s m args below meth c H locs cells slots D cT ad A QQ lsr C K Wd S N Lo Rt
  exact Rt none n sh R L I H locs cells slots pc lsr hQ Wd S (by omega) (by omega) (fun h => ⟨by rcases hn with h0 | h0 <;> omega, N h⟩) ⟨hd, hr⟩
theorem Ex_iret {v : Int32} {ty : FieldType} (hd : decode M.2.1 pc = .ok (.ireturn, 1)) (hr : M.2.2.2 = some ty) (hv : narrow ty (.int v) = .int v) (hn : n = 0 ∨ kc = 0) (hQ : Q (some (.int v)) n sh R L I) : Ex d kc ks M n sh R L I pc ls [.int v] Q := by
  intro l p e RR s m args below meth c H locs cells slots D cT ad A QQ lsr C K Wd S N Lo Rt
  exact Rt (some (.int v)) n sh R L I H locs cells slots pc lsr hQ Wd S (by omega) (by omega) (fun h => ⟨by rcases hn with h0 | h0 <;> omega, N h⟩) ⟨hd, ty, hr, hv⟩
theorem Ex_lret {v : Int64} (hd : decode M.2.1 pc = .ok (.lreturn, 1)) (hr : M.2.2.2 = some .long) (hn : n = 0 ∨ kc = 0) (hQ : Q (some (.long v)) n sh R L I) : Ex d kc ks M n sh R L I pc ls [.long v] Q := by
  intro l p e RR s m args below meth c H locs cells slots D cT ad A QQ lsr C K Wd S N Lo Rt
  exact Rt (some (.long v)) n sh R L I H locs cells slots pc lsr hQ Wd S (by omega) (by omega) (fun h => ⟨by rcases hn with h0 | h0 <;> omega, N h⟩) ⟨hd, hr⟩
theorem Ex_n0 (kk : Ex d kc ks M 0 sh R L I pc ls st Q) : Ex d kc ks M n sh R L I pc ls st Q := by
  intro l p e RR s m args below meth c H locs cells slots D cT ad A QQ lsr C K Wd S N Lo Rt
  exact kk l p e RR s m args below meth c H locs cells slots D cT ad A QQ lsr C K Wd S (fun h => absurd rfl h) Lo Rt
theorem Ex_objInit (pc' : Nat) {i a : Nat} (hd : decode M.2.1 pc = .ok (.invokespecial i, 3)) (hl : Cond.methodLink M.1.cls i objectInit ∈ lw_good) (hi : Cond.instanceMethod objectInit ∈ lw_good) (hc : Cond.code objectInit ⟨#[0xb1]⟩ 1 none ∈ lw_good) (hst : (st.map fun v => v.category).sum ≤ 80) (hp : pc + 3 = pc') (kk : Ex (d + 1) kc ks M n sh R L I pc' ls st Q) : Ex (d + 1) kc ks M n sh R L I pc ls (.ref a :: st) Q := by
  subst hp
  intro l p e RR s m args below meth c H locs cells slots D cT ad A QQ lsr C K Wd S N Lo Rt
  obtain ⟨c1, c2, c3, c4, c5, c6, c7, c8, c9, c10, c11⟩ := id C
  refine W.objInit c1 c2 c4 (c5 _ hl) (c5 _ hi) (c5 _ hc) rfl (by rw [c3]; exact Lo.1) rfl hd (by omega) ?_ ?_
  · have : 2 * (F0 m pc lsr (.ref a :: st)).monitorRoom = 0 := rfl
    omega
  · exact kk l p e RR s m args below meth c H locs cells slots D cT ad A QQ lsr C K Wd S N Lo Rt
end EXM
