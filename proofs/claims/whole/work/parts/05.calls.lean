/-! calls: from Ex of the callee to the machine's contract, and back -/
def xA (sh : xSh) (sz : Nat) : Nat → Prop := fun q => sh q ≠ none ∨ sz ≤ q
def xPc (As : List Value) (D : va_G) (cT : FieldType → ClassId) (ad : (Nat → Nat) × (Nat → Nat)) (sz : Nat) (sh : xSh) (R : xR) (L : xL) (I : xI) : Array Value → State → Prop :=
  va_Pc As (fun U => U.heap.size = sz ∧ xWd D cT (xA sh sz) U.heap sh R L I ∧ xKs D cT ad (xA sh sz) U U.heap)
def xQc (kc : Nat) (D : va_G) (cT : FieldType → ClassId) (sz : Nat) (sh : xSh) (Q : xQ) : Array Value → State → Outcome → State → Prop := fun _ st o t =>
  (∃ (r : Option Value) (n' : Nat) (sh' : xSh) (R' : xR) (L' : xL) (I' : xI), o = .returned r ∧ Q r n' sh' R' L' I' ∧ xWd D cT (xA sh sz) t.heap sh' R' L' I' ∧ (n' ≠ 0 → n' = sz + kc ∧ ∀ x, sz ≤ x → x < n' → sh' x ≠ none)) ∧ va_F (xA sh sz) st t
def xe : List Value → List (Option Value)
  | [] => []
  | v :: vs => if v.category = 2 then some v :: none :: xe vs else some v :: xe vs
def xen (vs : List Value) (nL : Nat) : List (Option Value) := xe vs ++ List.replicate (nL - (xe vs).length) none
theorem xpr_none (k : Nat) : ∀ i, xpr i (List.replicate k none) = [] := by
  induction k with
  | zero => intro i; rfl
  | succ k ih => intro i; simp only [List.replicate_succ, xpr]; exact ih _
theorem xpr_xe (vs : List Value) (k : Nat) : ∀ i, xpr i (xe vs ++ List.replicate k none) = lv_args i vs := by
  induction vs with
  | nil => intro i; simp only [xe, List.nil_append, lv_args]; exact xpr_none k i
  | cons v vs ih =>
    intro i
    by_cases h : v.category = 2
    · simp only [xe, h, if_true, List.cons_append, xpr, lv_args, ih]
    · simp only [xe, h, if_false, List.cons_append, xpr, lv_args, ih]
theorem xWd.mono {D : va_G} {cT : FieldType → ClassId} {A B : Nat → Prop} {H : Heap} {sh : xSh} {R : xR} {L : xL} {I : xI} (h : xWd D cT A H sh R L I) (hAB : ∀ q, A q → B q) : xWd D cT B H sh R L I := by
  obtain ⟨Ls, h1, h2, h3⟩ := h
  exact ⟨Ls, h1, h2, h3.weaken (fun _ q _ ha => hAB _ ha)⟩
theorem xWd.own {D : va_G} {cT : FieldType → ClassId} {A : Nat → Prop} {H : Heap} {sh : xSh} {R : xR} {L : xL} {I : xI} (h : xWd D cT A H sh R L I) (sz : Nat) : xWd D cT (xA sh sz) H sh R L I := by
  obtain ⟨Ls, h1, h2, h3⟩ := h
  refine ⟨Ls, h1, h2, h3.weaken (fun k q hk _ => Or.inl ?_)⟩
  obtain ⟨a, ha, rfl⟩ := List.mem_map.mp (List.mem_of_getElem? hk)
  exact (h1 a).mp ha
theorem xWd.inA {D : va_G} {cT : FieldType → ClassId} {A : Nat → Prop} {H : Heap} {sh : xSh} {R : xR} {L : xL} {I : xI} (h : xWd D cT A H sh R L I) {q : Nat} (hq : sh q ≠ none) : A q ∧ q < H.size := by
  obtain ⟨Ls, h1, h2, h3⟩ := h
  obtain ⟨k, hk⟩ := xpl_get (f := xcell cT sh R L I) ((h1 q).mpr hq)
  exact ⟨h3.2 k _ hk, (h2 k _ hk).lt⟩
theorem xKs.same {D : va_G} {cT : FieldType → ClassId} {ad : (Nat → Nat) × (Nat → Nat)} {A : Nat → Prop} {u U : State} {H : Heap} (hv : u.vm = U.vm) (h : xKs D cT ad A u H) : xKs D cT ad A U H := by
  obtain ⟨h1, h2, h3, h4, h5, h6, h7⟩ := h
  have ha : u.vm.Alike U.vm := by rw [← hv]; exact Vm.Alike.refl u.vm
  refine ⟨h1.moved ha, fun w hw => ?_, h3.moved ha, h4.moved ha, h5.same hv.symm, h6.moved ha, h7.moved ha⟩
  have hw2 := h2 w hw
  simp only [x_nest, List.mem_cons, List.not_mem_nil, or_false] at hw
  rcases hw with rfl | rfl | rfl | rfl | rfl | rfl | rfl | rfl | rfl | rfl <;> exact va_Nw.same rfl hv hw2
theorem xKs.warm {D : va_G} {cT : FieldType → ClassId} {ad : (Nat → Nat) × (Nat → Nat)} {A : Nat → Prop} {u U : State} {H : Heap} (hv : u.WarmedH U.vm) (h : xKs D cT ad A u H) : xKs D cT ad A U H := by
  obtain ⟨h1, h2, h3, h4, h5, h6, h7⟩ := h
  have ha : u.vm.Alike U.vm := hv.alike
  refine ⟨h1.moved ha, fun w hw => ?_, h3.moved ha, h4.moved ha, h5.warm hv, h6.moved ha, h7.moved ha⟩
  have hw2 := h2 w hw
  simp only [x_nest, List.mem_cons, List.not_mem_nil, or_false] at hw
  rcases hw with rfl | rfl | rfl | rfl | rfl | rfl | rfl | rfl | rfl | rfl <;> exact va_Nw.warmM hv hw2
theorem xKs.kept {D : va_G} {cT : FieldType → ClassId} {ad : (Nat → Nat) × (Nat → Nat)} {A : Nat → Prop} {u : State} {H H1 : Heap} (h : xKs D cT ad A u H) (hq : ∀ a : Nat, a < H.size → ¬ A a → H1[a]? = H[a]?) : xKs D cT ad A u H1 := by
  obtain ⟨h1, h2, h3, h4, h5, h6, h7⟩ := h
  exact ⟨h1, h2, h3, h4, h5, h6.kept hq, h7.kept hq⟩
theorem xKs.narrow {D : va_G} {cT : FieldType → ClassId} {ad : (Nat → Nat) × (Nat → Nat)} {A B : Nat → Prop} {u : State} {H : Heap} (h : xKs D cT ad A u H) (hq : ∀ a : Nat, B a → A a) : xKs D cT ad B u H := by
  obtain ⟨h1, h2, h3, h4, h5, h6, h7⟩ := h
  exact ⟨h1, h2, h3, h4, h5, h6.narrow hq, h7.narrow hq⟩
/-- a method's words: all that the tables say -/
def xws (M : xM) : List Cond := Cond.code M.1 M.2.1 M.2.2.1 M.2.2.2 :: lw_good
def xrm (d kc ks : Nat) : Room := { frames := d, cells := kc, slots := ks, locals := 100 * d }
def xMt (M : xM) (na : Nat) : Prop := Cond.code M.1 M.2.1 M.2.2.1 M.2.2.2 ∈ lw_good ∧ Cond.initialized M.1.cls ∈ lw_good ∧ Jvm.plainName M.1.cls = true ∧ (M.1.cls ≠ "java/lang/invoke/MethodHandle" ∧ M.1.cls ≠ "java/lang/invoke/VarHandle" ∧ (parseMethodDescriptor M.1.desc).map (fun d => d.parameters.length) = some na) ∧ M.2.2.1 ≤ 80
theorem xMet {d kc ks n : Nat} {M : xM} {sh : xSh} {R : xR} {L : xL} {I : xI} {Q : xQ} {As : List Value} {sz : Nat} (hy : Jvm.plainName M.1.cls = true) (hlen : (lg_sl As).length ≤ M.2.2.1) (hn : n ≠ 0 → n = sz) (hE : Ex d kc ks M n sh R L I 0 (xen As M.2.2.1) [] Q) (l : Launch) (hl : l.stackTraces = false) (D : va_G) (cT : FieldType → ClassId) (ad : (Nat → Nat) × (Nat → Nat)) :
    Met l M.1 (xws M) (xrm d kc ks) (xPc As D cT ad sz sh R L I) (xQc kc D cT sz sh Q) kc ks (xA sh sz) := by
  refine Met.ofW (cc := M.2.1) (maxL := M.2.2.1) (ret := M.2.2.2) hy rfl ?_
  intro p e s m args below meth c s₁ B hml hv
  obtain ⟨rfl, hsz, hW, hK⟩ := hv
  have hts := atoms_spec (ws := xws M) B.pre
  have hown : s.vm.findClass M.1.cls = some m.cls := findClass_of_methodNamed B.named
  have hin : meth.name = M.1.name := (name_of_methodNamed B.named B.method).1
  have hlk := B.notSynchronized
  subst hsz
  have h1 := lv_entry As (n := M.2.2.1) hlen
  rw [lg_entry_eq]
  refine hE l p e _ s m As.toArray below meth c s.heap [] 0 0 D cT ad (xA sh s.heap.size) _ _ ⟨B.exec, B.bytes, hml, hown, fun w hw => hts w (List.mem_cons_of_mem _ hw), fun q hq => Or.inr hq, hin, hl, Nat.le_refl d, Nat.le_refl (100 * d), by show 0 + kc ≤ kc; omega, by show 0 + ks ≤ ks; omega, B.returns, hlk⟩ hK hW va_S.rf (fun h => ⟨by rw [hn h]; rfl, fun x h2 h3 => by rw [hn h] at h3; omega⟩) ?_ ?_
  · unfold xLs xen
    rw [xpr_xe]
    exact h1
  · intro r n' sh' R' L' I' H' locs' cells' slots' pc' lsr' hq hw hS hc hs hn' hret
    refine W.widen (k := kc) (n := ks) (by omega) (by omega) ?_
    have key : ∀ t : State, t.heap = H' → xQc kc D cT s.heap.size sh Q As.toArray s (.returned r) t := fun t ht => ⟨⟨r, n', sh', R', L', I', rfl, hq, by rw [ht]; exact hw, fun h => ⟨by obtain ⟨g1, g2, -⟩ := hn' h; omega, (hn' h).2.2⟩⟩, hS.F ht⟩
    cases r with
    | none => exact W.vret B.exec B.bytes (B.returns.trans hret.2) (fun t ht _ => key t ht) hS.2.2 hret.1
    | some v =>
      cases v with
      | int v =>
        obtain ⟨hd, ty, ht1, ht2⟩ := hret
        exact W.zret B.exec B.bytes (B.returns.trans ht1) ht2 (fun t ht _ => key t ht) hS.2.2 hd
      | long v => exact W.lret B.exec B.bytes (B.returns.trans hret.2) (fun t ht _ => key t ht) hS.2.2 hret.1
      | float v => exact absurd hret id
      | double v => exact absurd hret id
      | null => exact absurd hret id
      | ref v => exact absurd hret id
      | retAddr v => exact absurd hret id
section EXC
variable {d kc ks kc1 ks1 n pc : Nat} {M M' : xM} {sh : xSh} {R : xR} {L : xL} {I : xI} {ls : List (Option Value)} {rest : List Value} {Q Q' : xQ}
variable {l : Launch} {p : Program} {e : Env} {RR : Room} {s : State} {m : MethodId} {args : Array Value} {below : List Frame} {meth : Method} {c : Code} {H : Heap} {locs : List Loc} {cells slots : Nat} {D : va_G} {cT : FieldType → ClassId} {ad : (Nat → Nat) × (Nat → Nat)} {A : Nat → Prop} {QQ : State → Prop} {lsr : Array Slot}
theorem xA_in (C : xCx d kc ks M l p RR s m args meth c cells slots A) (Wd : xWd D cT A H sh R L I) (S : va_S A s.heap H locs) : ∀ q, xA sh H.size q → A q := by
  intro q hq
  rcases hq with h | h
  · exact (Wd.inA h).1
  · exact C.2.2.2.2.2.1 q (Nat.le_trans S.1 h)
theorem xgo {st0 : List Value} {a : Array Value} {n2 : Nat → Nat} (C : xCx (d + 1) (kc1 + kc) (ks1 + ks) M l p RR s m args meth c cells slots A) (K : xKs D cT ad A s s.heap) (Wd : xWd D cT A H sh R L I) (S : va_S A s.heap H locs) (N : xNn n s cells sh) (Lo : xLs lsr M.2.2.1 ls) (Rt : xRet M Q l p e RR s m args below meth c D cT A QQ (cells + (kc1 + kc)) (slots + (ks1 + ks)))
    (hr : H.size ≤ s.heap.size + cells → va_Run p l e RR s m args below meth c H locs cells slots kc1 ks1 (F0 m pc lsr st0) rest (xQc kc1 D cT H.size sh Q' a) (xA sh H.size))
    (hn2 : ∀ n', n2 n' ≠ 0 → n ≠ 0 ∧ n2 n' = n') (hmono : n ≠ 0 → ∀ r n' sh' R' L' I', Q' r n' sh' R' L' I' → ∀ x, sh x ≠ none → sh' x ≠ none)
    (kk : ∀ r n' sh' R' L' I', Q' r n' sh' R' L' I' → Ex (d + 1) kc ks M (n2 n') sh' R' L' I' (pc + 3) ls (r.toList ++ rest) Q) : W p l e RR s m args below meth c H locs cells slots QQ (F0 m pc lsr st0) := by
  intro T hT X
  have hsz : H.size ≤ s.heap.size + cells := by rw [← hT]; exact X.heapSize
  obtain ⟨v, st₀, t, T', Lc, h0, X', hL, e1, e2, ⟨⟨r, n', sh', R', L', I', hv, hq, hw, hn'⟩, hz, hk⟩, stp⟩ := hr hsz T hT X
  cases hv
  rw [h0] at hz hk
  have hAA := xA_in C Wd S
  obtain ⟨c1, c2, c3, c4, c5, c6, c7, c8, c9, c10, c11, c12, c13, c14⟩ := id C
  obtain ⟨t2, a1, b1⟩ := kk v n' sh' R' L' I' hq l p e RR s m args below meth c T'.heap (locs ++ Lc) (cells + kc1) (slots + ks1) D cT ad A QQ lsr ⟨c1, c2, c3, c4, c5, c6, c7, c8, c9, c10, by omega, by omega, c13, c14⟩ K (by rw [e1]; exact hw.mono hAA)
    ⟨Nat.le_trans S.1 (by rw [e1]; exact hz), fun q h1 h2 => by rw [e1, hk q (Nat.lt_of_lt_of_le h1 S.1) (fun z => h2 (hAA q z))]; exact S.2.1 q h1 h2, fun q hq => by
      rcases List.mem_append.mp hq with h | h
      · exact S.2.2 q h
      · exact hAA _ (hL q h)⟩
    (fun h => by
      obtain ⟨g1, g2⟩ := hn2 n' h
      rw [g2] at h ⊢
      obtain ⟨g3, g4⟩ := hn' h
      obtain ⟨g5, g6⟩ := N g1
      have hle : n ≤ H.size := by
        by_cases hns : n ≤ s.heap.size
        · exact Nat.le_trans hns S.1
        · have := (Wd.inA (g6 (n - 1) (by omega) (by omega))).2
          omega
      refine ⟨by omega, fun x hx1 hx2 => ?_⟩
      by_cases hxs : H.size ≤ x
      · exact g4 x hxs hx2
      · exact hmono g1 _ _ _ _ _ _ hq x (g6 x hx1 (by omega))) Lo (by rw [Nat.add_assoc, Nat.add_assoc]; exact Rt) T' rfl X'
  exact ⟨t2, stp t2 a1, b1⟩
theorem xblind {As : List Value} {sz : Nat} : FrameBlind (xPc As D cT ad sz sh R L I) := by
  intro a U g mk q
  obtain ⟨q0, q1, q2, q3⟩ := q
  exact ⟨q0, q1, q2, xKs.same (u := U) (U := U.calling g mk a) rfl q3⟩
theorem xpre {As : List Value} (C : xCx d kc ks M l p RR s m args meth c cells slots A) (K : xKs D cT ad A s s.heap) (Wd : xWd D cT A H sh R L I) (S : va_S A s.heap H locs) : ∀ U : State, U.heap = H → s.WarmedH U.vm → xPc As D cT ad H.size sh R L I As.toArray U := by
  intro U hU hW
  refine ⟨rfl, by rw [hU], by rw [hU]; exact Wd.own H.size, ?_⟩
  rw [hU]
  exact xKs.warm hW ((K.kept S.2.1).narrow (xA_in C Wd S))
def xMV (M : xM) (ci na : Nat) : Prop := xMt M na ∧ Cond.instanceMethod M.1 ∈ lw_good ∧ Cond.selects (xC ci).1 M.1 M.1 ∈ lw_good ∧ ci < 10
def xMS (M : xM) (na : Nat) : Prop := xMt M na ∧ Cond.static M.1 ∈ lw_good
def xMI (M : xM) (na : Nat) : Prop := xMt M na ∧ Cond.instanceMethod M.1 ∈ lw_good ∧ M.1.name = "<init>" ∧ M.2.2.2 = none
theorem xCB {na i : Nat} (C : xCx (d + 1) kc ks M l p RR s m args meth c cells slots A) (hm : xMt M' na) (hl : Cond.methodLink M.1.cls i M'.1 ∈ lw_good) : CallB RR s args M.1.cls i M'.1 M'.2.1 M'.2.2.1 M'.2.2.2 (xws M') (xrm d kc1 ks1) kc1 ks1 na := by
  obtain ⟨c1, c2, c3, c4, c5, c6, c7, c8, c9, c10, c11⟩ := C
  obtain ⟨m1, m2, m3, m4, m5⟩ := hm
  refine callB_of (Ts := lw_good) na c5 (fun w hw => ?_) rfl rfl rfl (c5 _ m2) (c5 _ hl) m4 ⟨?_, ?_⟩
  · rcases List.mem_cons.mp hw with h | h
    · rw [h]; exact lw_good_in _ m1
    · exact lw_good_in _ h
  · show d + 1 ≤ RR.frames
    exact c9
  · show 8 + (M'.2.2.1 + 11) + 100 * d ≤ RR.locals
    omega
theorem Ex_callV (pc' : Nat) {i ci b na : Nat} (As : List Value) {st : List Value} (hd : decode M.2.1 pc = .ok (.invokevirtual i, 3)) (hl : Cond.methodLink M.1.cls i M'.1 ∈ lw_good) (hm : xMV M' ci na) (hst : st = As.reverse ++ .ref b :: rest) (hs : sh b = some (.inl ci)) (hna : As.length = na) (hlen : (lg_sl (.ref b :: As)).length ≤ M'.2.2.1) (hcat : (rest.map fun v => v.category).sum ≤ 8) (hp : pc + 3 = pc')
    (hE : Ex d 0 0 M' 0 sh R L I 0 (xen (.ref b :: As) M'.2.2.1) [] (fun r _ sh' R' L' I' => Ex (d + 1) kc ks M 0 sh' R' L' I' pc' ls (r.toList ++ rest) Q)) : Ex (d + 1) kc ks M 0 sh R L I pc ls st Q := by
  subst hp
  subst hst
  intro l p e RR s m args below meth c H locs cells slots D cT ad A QQ lsr C K Wd S N Lo Rt
  obtain ⟨m1, m2, m3, m4⟩ := hm
  have hC0 : xCx (d + 1) (0 + kc) (0 + ks) M l p RR s m args meth c cells slots A := by rw [Nat.zero_add, Nat.zero_add]; exact C
  refine xgo (rest := rest) (Q' := fun r _ sh' R' L' I' => Ex (d + 1) kc ks M 0 sh' R' L' I' (pc + 3) ls (r.toList ++ rest) Q) (kc1 := 0) (ks1 := 0) (n2 := fun _ => 0) (a := (Value.ref b :: As).toArray) hC0 K Wd S N Lo (by rw [Nat.zero_add, Nat.zero_add]; exact Rt) (fun _ => ?_) (fun _ h => absurd rfl h) (fun h => absurd rfl h) (fun r n' sh' R' L' I' h => h)
  obtain ⟨Ls, w1, w2, w3⟩ := id Wd
  obtain ⟨q0, hq⟩ := xpl_get (f := xcell cT sh R L I) ((w1 b).mpr (by rw [hs]; simp))
  rw [xcell_obj hs] at hq
  exact va_runV (Ts := lw_good) (C := (xC ci).1) (As := As) (rest := rest) ⟨C.1, C.2.1, C.2.2.1, C.2.2.2.1, C.2.2.2.2.1⟩ (xMet (sz := H.size) m1.2.2.1 hlen (fun h => absurd rfl h) hE l C.2.2.2.2.2.2.2.1 D cT ad) ⟨xCB C m1 hl, C.2.2.2.2.1 _ m2, C.2.2.2.2.1 _ m3⟩ ⟨xblind, va_recv K.1 w2 (xC_at m4) hq, xpre C K Wd S⟩ rfl hna Lo.1 rfl (lv_room hcat) hd ⟨by have := C.2.2.2.2.2.2.2.2.2.2.1; omega, by have := C.2.2.2.2.2.2.2.2.2.2.2.1; omega⟩
theorem Ex_callS (pc' : Nat) {i na : Nat} (As : List Value) {st : List Value} (hd : decode M.2.1 pc = .ok (.invokestatic i, 3)) (hl : Cond.methodLink M.1.cls i M'.1 ∈ lw_good) (hm : xMS M' na) (hst : st = As.reverse ++ rest) (hna : As.length = na) (hlen : (lg_sl As).length ≤ M'.2.2.1) (hcat : (rest.map fun v => v.category).sum ≤ 8) (hp : pc + 3 = pc')
    (hE : Ex d 0 0 M' 0 sh R L I 0 (xen As M'.2.2.1) [] (fun r _ sh' R' L' I' => Ex (d + 1) kc ks M 0 sh' R' L' I' pc' ls (r.toList ++ rest) Q)) : Ex (d + 1) kc ks M 0 sh R L I pc ls st Q := by
  subst hp
  subst hst
  intro l p e RR s m args below meth c H locs cells slots D cT ad A QQ lsr C K Wd S N Lo Rt
  obtain ⟨m1, m2⟩ := hm
  have hC0 : xCx (d + 1) (0 + kc) (0 + ks) M l p RR s m args meth c cells slots A := by rw [Nat.zero_add, Nat.zero_add]; exact C
  refine xgo (rest := rest) (Q' := fun r _ sh' R' L' I' => Ex (d + 1) kc ks M 0 sh' R' L' I' (pc + 3) ls (r.toList ++ rest) Q) (kc1 := 0) (ks1 := 0) (n2 := fun _ => 0) (a := As.toArray) hC0 K Wd S N Lo (by rw [Nat.zero_add, Nat.zero_add]; exact Rt) (fun _ => ?_) (fun _ h => absurd rfl h) (fun h => absurd rfl h) (fun r n' sh' R' L' I' h => h)
  exact va_runS (Ts := lw_good) (As := As) (rest := rest) ⟨C.1, C.2.1, C.2.2.1, C.2.2.2.1, C.2.2.2.2.1⟩ (xMet (sz := H.size) m1.2.2.1 hlen (fun h => absurd rfl h) hE l C.2.2.2.2.2.2.2.1 D cT ad) ⟨xCB C m1 hl, C.2.2.2.2.1 _ m2⟩ ⟨xblind, xpre C K Wd S⟩ rfl hna Lo.1 rfl (lv_room hcat) hd ⟨by have := C.2.2.2.2.2.2.2.2.2.2.1; omega, by have := C.2.2.2.2.2.2.2.2.2.2.2.1; omega⟩
/-- a constructor of one's own class, or of a class that isn't private -/
theorem Ex_callI (pc' : Nat) {i b na : Nat} (As : List Value) {st : List Value} (hn : n ≠ 0) (hd : decode M.2.1 pc = .ok (.invokespecial i, 3)) (hl : Cond.methodLink M.1.cls i M'.1 ∈ lw_good) (hm : xMI M' na) (hst : st = As.reverse ++ .ref b :: rest) (hna : As.length = na) (hlen : (lg_sl (.ref b :: As)).length ≤ M'.2.2.1) (hcat : (rest.map fun v => v.category).sum ≤ 8) (hp : pc + 3 = pc')
    (hE : Ex d kc1 ks1 M' n sh R L I 0 (xen (.ref b :: As) M'.2.2.1) [] (fun r n' sh' R' L' I' => (∀ x, sh x ≠ none → sh' x ≠ none) ∧ Ex (d + 1) kc ks M n' sh' R' L' I' pc' ls (r.toList ++ rest) Q)) : Ex (d + 1) (kc1 + kc) (ks1 + ks) M n sh R L I pc ls st Q := by
  subst hp
  subst hst
  intro l p e RR s m args below meth c H locs cells slots D cT ad A QQ lsr C K Wd S N Lo Rt
  obtain ⟨m1, m2, m3, m4⟩ := hm
  refine xgo (rest := rest) (Q' := fun r n' sh' R' L' I' => (∀ x, sh x ≠ none → sh' x ≠ none) ∧ Ex (d + 1) kc ks M n' sh' R' L' I' (pc + 3) ls (r.toList ++ rest) Q) (kc1 := kc1) (ks1 := ks1) (n2 := fun n' => n') (a := (Value.ref b :: As).toArray) C K Wd S N Lo Rt (fun hsz => ?_) (fun _ h => ⟨hn, rfl⟩) (fun _ r n' sh' R' L' I' h => h.1) (fun r n' sh' R' L' I' h => h.2)
  have hsz2 : n = H.size := by
    obtain ⟨g5, g6⟩ := N hn
    have hle : n ≤ H.size := by
      by_cases hns : n ≤ s.heap.size
      · exact Nat.le_trans hns S.1
      · have := (Wd.inA (g6 (n - 1) (by omega) (by omega))).2
        omega
    omega
  have cb := xCB (kc1 := kc1) (ks1 := ks1) C m1 hl
  rw [m4] at cb
  exact va_runI (Ts := lw_good) (As := As) (rest := rest) ⟨C.1, C.2.1, C.2.2.1, C.2.2.2.1, C.2.2.2.2.1⟩ (xMet (sz := H.size) m1.2.2.1 hlen (fun _ => hsz2) hE l C.2.2.2.2.2.2.2.1 D cT ad) ⟨cb, m3, C.2.2.2.2.1 _ m2⟩ ⟨xblind, xpre C K Wd S⟩ rfl hna Lo.1 rfl (lv_room hcat) hd ⟨by have := C.2.2.2.2.2.2.2.2.2.2.1; omega, by have := C.2.2.2.2.2.2.2.2.2.2.2.1; omega⟩
/-- a nest mate's private constructor -/
theorem Ex_callN (pc' : Nat) {i b na : Nat} {host : String} (As : List Value) {st : List Value} (hn : n ≠ 0) (hd : decode M.2.1 pc = .ok (.invokespecial i, 3)) (hl : Cond.methodLinkNest M.1.cls i M'.1 host ∈ x_nest) (hm : xMI M' na) (hst : st = As.reverse ++ .ref b :: rest) (hna : As.length = na) (hlen : (lg_sl (.ref b :: As)).length ≤ M'.2.2.1) (hcat : (rest.map fun v => v.category).sum ≤ 8) (hp : pc + 3 = pc')
    (hE : Ex d kc1 ks1 M' n sh R L I 0 (xen (.ref b :: As) M'.2.2.1) [] (fun r n' sh' R' L' I' => (∀ x, sh x ≠ none → sh' x ≠ none) ∧ Ex (d + 1) kc ks M n' sh' R' L' I' pc' ls (r.toList ++ rest) Q)) : Ex (d + 1) (kc1 + kc) (ks1 + ks) M n sh R L I pc ls st Q := by
  subst hp
  subst hst
  intro l p e RR s m args below meth c H locs cells slots D cT ad A QQ lsr C K Wd S N Lo Rt
  obtain ⟨m1, m2, m3, m4⟩ := hm
  refine xgo (rest := rest) (Q' := fun r n' sh' R' L' I' => (∀ x, sh x ≠ none → sh' x ≠ none) ∧ Ex (d + 1) kc ks M n' sh' R' L' I' (pc + 3) ls (r.toList ++ rest) Q) (kc1 := kc1) (ks1 := ks1) (n2 := fun n' => n') (a := (Value.ref b :: As).toArray) C K Wd S N Lo Rt (fun hsz => ?_) (fun _ h => ⟨hn, rfl⟩) (fun _ r n' sh' R' L' I' h => h.1) (fun r n' sh' R' L' I' h => h.2)
  have hsz2 : n = H.size := by
    obtain ⟨g5, g6⟩ := N hn
    have hle : n ≤ H.size := by
      by_cases hns : n ≤ s.heap.size
      · exact Nat.le_trans hns S.1
      · have := (Wd.inA (g6 (n - 1) (by omega) (by omega))).2
        omega
    omega
  obtain ⟨c1, c2, c3, c4, c5, c6, c7, c8, c9, c10, c11, c12⟩ := id C
  obtain ⟨k1, k2, k3, k4, k5⟩ := id m1
  have cb : va_CN RR s args M.1.cls i M'.1 host M'.2.1 M'.2.2.1 none (xws M') (xrm d kc1 ks1) kc1 ks1 na := by
    refine va_cnB (Ts := lw_good) (ws' := lw_good) na c5 (fun w hw => ?_) (by rw [← m4]; rfl) rfl rfl (K.2.1 _ hl) (c5 _ k2) k4 ⟨c9, ?_⟩
    · rcases List.mem_cons.mp hw with h | h
      · rw [h]; exact lw_good_in _ k1
      · exact lw_good_in _ h
    · show 8 + (M'.2.2.1 + 11) + 100 * d ≤ RR.locals
      omega
  exact va_runIN (Ts := lw_good) (As := As) (rest := rest) ⟨C.1, C.2.1, C.2.2.1, C.2.2.2.1, C.2.2.2.2.1⟩ (xMet (sz := H.size) m1.2.2.1 hlen (fun _ => hsz2) hE l C.2.2.2.2.2.2.2.1 D cT ad) ⟨cb, m3, C.2.2.2.2.1 _ m2⟩ ⟨xblind, xpre C K Wd S⟩ rfl hna Lo.1 rfl (lv_room hcat) hd ⟨by omega, by omega⟩
end EXC
