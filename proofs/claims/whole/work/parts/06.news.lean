/-! new cells, and the copying of rows -/
section EXN
variable {d kc ks n pc : Nat} {M : xM} {sh : xSh} {R : xR} {L : xL} {I : xI} {ls : List (Option Value)} {st : List Value} {Q : xQ}
theorem xsz {d kc ks : Nat} {l : Launch} {p : Program} {RR : Room} {s : State} {m : MethodId} {args : Array Value} {meth : Method} {c : Code} {H : Heap} {locs : List Loc} {cells slots : Nat} {D : va_G} {cT : FieldType → ClassId} {A : Nat → Prop} (hn : n ≠ 0) (Wd : xWd D cT A H sh R L I) (S : va_S A s.heap H locs) (N : xNn n s cells sh) (hsz : H.size ≤ s.heap.size + cells) : H.size = n := by
  obtain ⟨g5, g6⟩ := N hn
  have hle : n ≤ H.size := by
    by_cases hns : n ≤ s.heap.size
    · exact Nat.le_trans hns S.1
    · have := (Wd.inA (g6 (n - 1) (by omega) (by omega))).2
      omega
  omega
theorem xcell_new {cT : FieldType → ClassId} {sh' : xSh} {R' : xR} {L' : xL} {I' : xI} {a : Nat} {e : va_E} (hs : ∀ x, x ≠ a → sh' x = sh x) (hR : ∀ x, x ≠ a → R' x = R x) (hL : ∀ x, x ≠ a → L' x = L x) (hI : ∀ x, x ≠ a → I' x = I x) (he : xcell cT sh' R' L' I' a = e) (x : Nat) : va_up (xcell cT sh R L I) a e x = xcell cT sh' R' L' I' x := by
  by_cases hx : x = a
  · subst hx
    rw [va_up_self, he]
  · rw [va_up_ne _ _ hx]
    simp only [xcell, xfs, xfv, xar, hs x hx, hR x hx, hL x hx, hI x hx]
theorem xWd_new {D : va_G} {cT : FieldType → ClassId} {A : Nat → Prop} {H H1 : Heap} {a : Nat} {o : Nat ⊕ (FieldType × Nat)} (Wd : xWd D cT A H sh R L I) (hsz : H.size = a) (hA : A a) (o1 : ∀ q, q < a → H1[q]? = H[q]?)
    (hat : va_at D vwCl (a, xcell cT (va_up sh a (some o)) (va_up R a (fun _ => none)) (va_up L a (fun _ => 0)) (va_up I a (fun _ => 0)) a) H1) : xWd D cT A H1 (va_up sh a (some o)) (va_up R a (fun _ => none)) (va_up L a (fun _ => 0)) (va_up I a (fun _ => 0)) := by
  obtain ⟨Ls, h1, hP, hD⟩ := Wd
  have hnot : a ∉ Ls := by
    intro h
    obtain ⟨k, hk⟩ := xpl_get (f := xcell cT sh R L I) h
    have := (hP k _ hk).lt
    dsimp only at this
    omega
  generalize he : xcell cT (va_up sh a (some o)) (va_up R a (fun _ => none)) (va_up L a (fun _ => 0)) (va_up I a (fun _ => 0)) a = e at hat
  have hl : va_pl Ls (xcell cT sh R L I) ++ [(a, e)] = va_pl (Ls ++ [a]) (xcell cT (va_up sh a (some o)) (va_up R a (fun _ => none)) (va_up L a (fun _ => 0)) (va_up I a (fun _ => 0))) := by
    rw [va_pl_push hnot]
    exact va_pl_congr (xcell_new (fun x hx => va_up_ne _ _ hx) (fun x hx => va_up_ne _ _ hx) (fun x hx => va_up_ne _ _ hx) (fun x hx => va_up_ne _ _ hx) he)
  refine ⟨Ls ++ [a], fun x => ?_, ?_, ?_⟩
  · by_cases hx : x = a
    · subst hx
      simp [va_up_self]
    · rw [va_up_ne _ _ hx, List.mem_append, List.mem_singleton, h1 x]
      constructor
      · rintro (h | h)
        · exact h
        · exact absurd h hx
      · exact Or.inl
  · rw [← hl]
    refine (hP.kept (fun k x hx => o1 x.1 (by have := (hP k x hx).lt; omega))).app (fun k x hx => ?_)
    have hz : k < 1 := (List.getElem?_eq_some_iff.mp hx).1
    rw [show k = 0 by omega] at hx
    cases hx
    exact hat
  · rw [← hl]
    exact hD.push hP hsz.symm hA
theorem xdef (ty : FieldType) : defaultValue ty = xfv (fun _ _ => none) (fun _ _ => 0) (fun _ _ => 0) 0 0 ty ∨ ty = .float ∨ ty = .double := by
  cases ty <;> first | (left; rfl) | (right; left; rfl) | (right; right; rfl)
theorem Ex_new (pc' : Nat) {i ci : Nat} (hn : n ≠ 0) (hd : decode M.2.1 pc = .ok (.new i, 3)) (hci : ci < 10) (hin : ∀ w ∈ u_ws (xC ci).1 (xC ci).2.1 (xC ci).2.2, w ∈ lw_good) (hl : Cond.classLink M.1.cls i (xC ci).1 ∈ lw_good) (hi : Cond.instantiable (xC ci).1 (xC ci).2.2 ∈ lw_good) (hini : Cond.initialized (xC ci).1 ∈ lw_good) (hnf : ∀ k, k < (xC ci).2.2 → xty ci k ≠ .float ∧ xty ci k ≠ .double) (hp : pc + 3 = pc')
    (kk : Ex d kc ks M (n + 1) (va_up sh n (some (.inl ci))) (va_up R n (fun _ => none)) (va_up L n (fun _ => 0)) (va_up I n (fun _ => 0)) pc' ls (.ref n :: st) Q) : Ex d (1 + kc) ((xC ci).2.2 + ks) M n sh R L I pc ls st Q := by
  subst hp
  intro l p e RR s m args below meth c H locs cells slots D cT ad A QQ lsr C K Wd S N Lo Rt T hT X
  obtain ⟨c1, c2, c3, c4, c5, c6, c7, c8, c9, c10, c11, c12, c13, c14⟩ := id C
  have hsz : H.size = n := xsz (d := d) (kc := kc) (ks := ks) (l := l) (p := p) (RR := RR) (m := m) (args := args) (meth := meth) (c := c) (slots := slots) hn Wd S N (by rw [← hT]; exact X.heapSize)
  have hKn := K.1.1 ci _ (xC_at hci)
  revert X
  revert hT
  revert T
  refine W.newcK c1 c2 c4 (c5 _ hl) (c5 _ hi) (c5 _ hini) rfl hd (by omega) (by omega) hKn.2.1 hsz fun H1 kC hkC e1 z1 o1 => ?_
  refine kk l p e RR s m args below meth c H1 locs (cells + 1) (slots + (xC ci).2.2) D cT ad A QQ lsr ⟨c1, c2, c3, c4, c5, c6, c7, c8, c9, c10, by omega, by omega, c13, c14⟩ K (xWd_new Wd hsz (c6 _ (by have := S.1; omega)) o1 ?_) ⟨Nat.le_trans S.1 (by omega), fun x h1 h2 => (o1 x (by have := S.1; omega)).trans (S.2.1 x h1 h2), S.2.2⟩ (fun _ => ?_) Lo (by rw [Nat.add_assoc, Nat.add_assoc]; exact Rt)
  · rw [xcell_obj (ci := ci) (va_up_self _ _ _)]
    refine ⟨_, xC_at hci, (u_born (xty ci) c5 hin hKn hkC e1 (xty_ok hci)).to (fun k hk => ?_)⟩
    simp only [vp_V, List.getD_eq_getElem?_getD, xfs_at hk, Option.getD_some]
    rcases xdef (xty ci k) with h | h | h
    · rw [h]
      simp only [xfv, va_up_self]
    · exact absurd h (hnf k hk).1
    · exact absurd h (hnf k hk).2
  · obtain ⟨g1, g2⟩ := N hn
    refine ⟨by omega, fun x hx1 hx2 => ?_⟩
    by_cases hx : x = n
    · subst hx
      rw [va_up_self]
      simp
    · rw [va_up_ne _ _ hx]
      exact g2 x hx1 (by omega)
theorem Ex_newa (pc' : Nat) {x : Int32} {t0 N' : Nat} {at' : ArrayType} {ty : FieldType} (hn : n ≠ 0) (hd : decode M.2.1 pc = .ok (.newarray at', 2)) (hty : newarray.typeOf at' = ty) (ha : Cond.arrayClass ty ∈ lw_good) (ht : ∀ cT, (xtys cT)[t0]? = some (cT ty, ty)) (hno : ∀ C, ty ≠ .object C) (hdf : ∀ cA, vp_cell cA (N', xar (fun _ _ => none) (fun _ _ => 0) (fun _ _ => 0) 0 ty) = arrV cA N' (fun _ => defaultValue ty)) (hx : x = nI N') (hN : N' < 1000000) (hb : N' * componentBytes ty ≤ 536870912) (hp : pc + 2 = pc')
    (kk : Ex d kc ks M (n + 1) (va_up sh n (some (.inr (ty, N')))) (va_up R n (fun _ => none)) (va_up L n (fun _ => 0)) (va_up I n (fun _ => 0)) pc' ls (.ref n :: st) Q) : Ex d (1 + kc) (N' + ks) M n sh R L I pc ls (.int x :: st) Q := by
  subst hp
  subst hty
  intro l p e RR s m args below meth c H locs cells slots D cT ad A QQ lsr C K Wd S N Lo Rt T hT X
  obtain ⟨c1, c2, c3, c4, c5, c6, c7, c8, c9, c10, c11, c12, c13, c14⟩ := id C
  have hsz : H.size = n := xsz (d := d) (kc := kc) (ks := ks) (l := l) (p := p) (RR := RR) (m := m) (args := args) (meth := meth) (c := c) (slots := slots) hn Wd S N (by rw [← hT]; exact X.heapSize)
  revert X
  revert hT
  revert T
  refine va_newaK c1 c2 (c5 _ ha) rfl hd rfl (by rw [hx]; exact nI_pos (by omega)) (by rw [hx]; exact nI_clamp (by omega)) hb (by omega) (by omega) hsz fun H1 cA e1 z1 o1 hAr hNm => ?_
  have hcA : cA = cT (newarray.typeOf at') := by
    have h1 := (K.1.2 t0 _ (ht cT)).2
    have h2 : s.vm.findClass ("[" ++ (newarray.typeOf at').toString) = some (cT (newarray.typeOf at')) := by
      revert h1
      cases at' <;> exact id
    rw [hNm] at h2
    exact Option.some.inj h2
  refine kk l p e RR s m args below meth c H1 locs (cells + 1) (slots + N') D cT ad A QQ lsr ⟨c1, c2, c3, c4, c5, c6, c7, c8, c9, c10, by omega, by omega, c13, c14⟩ K (xWd_new Wd hsz (c6 _ (by have := S.1; omega)) o1 ?_) ⟨Nat.le_trans S.1 (by omega), fun x h1 h2 => (o1 x (by have := S.1; omega)).trans (S.2.1 x h1 h2), S.2.2⟩ (fun _ => ?_) Lo (by rw [Nat.add_assoc, Nat.add_assoc]; exact Rt)
  · rw [xcell_arr (ty := newarray.typeOf at') (n := N') (va_up_self _ _ _)]
    show H1[n]? = some (vp_cell _ _)
    rw [e1, hcA, ← hdf]
    congr 2
    have : xar (va_up R n (fun _ => none)) (va_up L n (fun _ => 0)) (va_up I n (fun _ => 0)) n (newarray.typeOf at') = xar (fun _ _ => none) (fun _ _ => 0) (fun _ _ => 0) 0 (newarray.typeOf at') := by
      simp only [xar, va_up_self]
    rw [this]
  · obtain ⟨g1, g2⟩ := N hn
    refine ⟨by omega, fun x hx1 hx2 => ?_⟩
    by_cases hx : x = n
    · subst hx
      rw [va_up_self]
      simp
    · rw [va_up_ne _ _ hx]
      exact g2 x hx1 (by omega)
theorem Ex_newq (pc' : Nat) {x : Int32} {i t0 N' : Nat} {Cn : String} (hn : n ≠ 0) (hd : decode M.2.1 pc = .ok (.anewarray i, 3)) (hl : Cond.classLink M.1.cls i Cn ∈ lw_good) (hCn : Cn = "HeldMusic$Hall" ∨ Cn = "HeldMusic$Mark") (ht : ∀ cT, (xtys cT)[t0]? = some (cT (.object Cn), .object Cn)) (hx : x = nI N') (hN : N' < 1000000) (hp : pc + 3 = pc')
    (kk : Ex d kc ks M (n + 1) (va_up sh n (some (.inr (.object Cn, N')))) (va_up R n (fun _ => none)) (va_up L n (fun _ => 0)) (va_up I n (fun _ => 0)) pc' ls (.ref n :: st) Q) : Ex d (1 + kc) (N' + ks) M n sh R L I pc ls (.int x :: st) Q := by
  subst hp
  intro l p e RR s m args below meth c H locs cells slots D cT ad A QQ lsr C K Wd S N Lo Rt T hT X
  obtain ⟨c1, c2, c3, c4, c5, c6, c7, c8, c9, c10, c11, c12, c13, c14⟩ := id C
  have hsz : H.size = n := xsz (d := d) (kc := kc) (ks := ks) (l := l) (p := p) (RR := RR) (m := m) (args := args) (meth := meth) (c := c) (slots := slots) hn Wd S N (by rw [← hT]; exact X.heapSize)
  have hxN : x.toNatClampNeg = N' := by rw [hx]; exact nI_clamp (by omega)
  have hov : va_AO Cn s := by
    rcases hCn with rfl | rfl
    · exact K.2.2.1
    · exact K.2.2.2.1
  revert X
  revert hT
  revert T
  refine W.anew c1 c2 c4 (c5 _ hl) hov rfl hd rfl (by rw [hx]; exact nI_pos (by omega)) (by rw [hxN]; omega) (by omega) (by rw [hxN]; omega) fun cA kA comp f1 f2 f3 f4 => ?_
  rw [hxN]
  have hcA : cA = cT (.object Cn) := by
    obtain ⟨_, _, _, _, _, h2⟩ := (K.1.2 t0 _ (ht cT)).2
    rw [f1] at h2
    exact Option.some.inj h2
  generalize hH1 : H.push ({ cls := cA, slots := Array.replicate N' .null, vm := .none } : Cell) = H1
  have z1 : H1.size = H.size + 1 := by rw [← hH1, Array.size_push]
  have e1 : H1[n]? = some (arrV cA N' (fun _ => .null)) := by rw [← hsz, ← hH1, Array.getElem?_push_size, ← arrV_new]
  have o1 : ∀ q : Nat, q < n → H1[q]? = H[q]? := fun q hq => by rw [← hH1, Array.getElem?_push, if_neg (by omega)]
  rw [hsz]
  refine kk l p e RR s m args below meth c H1 locs (cells + 1) (slots + N') D cT ad A QQ lsr ⟨c1, c2, c3, c4, c5, c6, c7, c8, c9, c10, by omega, by omega, c13, c14⟩ K (xWd_new Wd hsz (c6 _ (by have := S.1; omega)) o1 ?_) ⟨Nat.le_trans S.1 (by omega), fun x h1 h2 => (o1 x (by have := S.1; omega)).trans (S.2.1 x h1 h2), S.2.2⟩ (fun _ => ?_) Lo (by rw [Nat.add_assoc, Nat.add_assoc]; exact Rt)
  · rw [xcell_arr (ty := .object Cn) (n := N') (va_up_self _ _ _)]
    show H1[n]? = some (vp_cell _ _)
    rw [e1, hcA]
    simp only [xar, va_up_self]
    rw [vp_cell_q]
    rfl
  · obtain ⟨g1, g2⟩ := N hn
    refine ⟨by omega, fun x hx1 hx2 => ?_⟩
    by_cases hx : x = n
    · subst hx
      rw [va_up_self]
      simp
    · rw [va_up_ne _ _ hx]
      exact g2 x hx1 (by omega)
theorem Ex_copyI (pc' : Nat) {i a b na nb : Nat} {sp dp x : Int32} (js jd jn : Nat) (hd : decode M.2.1 pc = .ok (.invokestatic i, 3)) (hl : Cond.methodLink M.1.cls i arraycopyName ∈ lw_good) (hnat : Cond.native arraycopyName ∈ lw_good) (hst : Cond.static arraycopyName ∈ lw_good) (hini : Cond.initialized "java/lang/System" ∈ lw_good) (hsa : sh a = some (.inr (.int, na))) (hsb : sh b = some (.inr (.int, nb))) (h1 : sp = nI js) (h2 : dp = nI jd) (h3 : x = nI jn) (h4 : js + jn ≤ na) (h5 : jd + jn ≤ nb) (hna : na < 2 ^ 31) (hnb : nb < 2 ^ 31) (hcat : (st.map fun v => v.category).sum ≤ 8) (hp : pc + 3 = pc')
    (kk : Ex (d + 1) kc ks M n sh R L (va_up I b (va_cpy (I a) (I b) js jd jn)) pc' ls st Q) : Ex (d + 1) kc ks M n sh R L I pc ls (.int x :: .int dp :: .ref b :: .int sp :: .ref a :: st) Q := by
  subst hp
  subst h1
  subst h2
  subst h3
  intro l p e RR s m args below meth c H locs cells slots D cT ad A QQ lsr C K Wd S N0 Lo Rt
  obtain ⟨Ls, w1, hP, hD⟩ := id Wd
  have ha : a ∈ Ls := (w1 a).mpr (by rw [hsa]; simp)
  have hb : b ∈ Ls := (w1 b).mpr (by rw [hsb]; simp)
  obtain ⟨q0, hq⟩ := xpl_get (f := xcell cT sh R L I) ha
  obtain ⟨q1, hq1⟩ := xpl_get (f := xcell cT sh R L I) hb
  have hq2 := hq1
  rw [xcell_arr hsa] at hq
  rw [xcell_arr hsb] at hq1
  have k1 : (nI js).toNatClampNeg = js := nI_clamp (by omega)
  have k2 : (nI jd).toNatClampNeg = jd := nI_clamp (by omega)
  have k3 : (nI jn).toNatClampNeg = jn := nI_clamp (by omega)
  refine va_copyi C.1 C.2.1 (by rw [C.2.2.1]; exact Lo.1.symm) C.2.2.2.1 (C.2.2.2.2.1 _ hl) (C.2.2.2.2.1 _ hnat) (C.2.2.2.2.1 _ hst) (C.2.2.2.2.1 _ hini) K.1 hP hD S q0 q1 0 0 hq hq1 rfl rfl rfl (nI_pos (by omega)) (nI_pos (by omega)) (nI_pos (by omega)) (by rw [k1, k3]; exact h4) (by rw [k2, k3]; exact h5) (fun _ _ => rfl) ?_ ?_ hd (fun H1 locs1 hP1 hD1 hS1 => ?_)
  · have := C.2.2.2.2.2.2.2.2.1
    omega
  · have := C.2.2.2.2.2.2.2.2.2.1
    have h9 : nativeFrameWords "java/lang/System" "arraycopy" 5 ≤ 70 := by decide +kernel
    omega
  · rw [k1, k2, k3] at hP1 hD1
    refine kk l p e RR s m args below meth c H1 locs1 cells slots D cT ad A QQ lsr C K (xWd_set w1 hb hD hq2 (fun _ _ => rfl) (fun _ _ => rfl) (fun y hy => va_up_ne _ _ hy) ?_ hP1 hD1) hS1 N0 Lo Rt
    rw [xcell_arr hsb]
    simp only [xar, va_up_self]
end EXN
