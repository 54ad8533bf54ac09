def R_law : String := "HeldMusicLaw"
def lw_P (b : Addr) (xs : List Int32) (args : Array Value) (s : State) : Prop := args = #[.ref b] ∧ s.IntsAt b xs ∧ xs.length ≤ 3584 ∧ (Jvm.Cond.and given_1 narrow_1).before args s = true
def lw_Q (_ : Array Value) (s : State) (o : Outcome) (t : State) : Prop := o = .returned (some (.int 1)) ∧ Framed s o t [] 601024 7293034
def lw_Z (below : List Frame) (a : Array Value) (s : State) : State → Prop := fun t => ∃ o, t.status = .running ∧ Ended t below o ∧ lw_Q a s o t
/-- the law's own end, with 1 on the stack, nothing written that was there before, its room as the claim has it -/
theorem lw_ret {p : Program} {l : Launch} {e : Env} {s : State} {m : MethodId} {below : List Frame} {meth : Method} {c : Code} {b : Nat} (hx : p.tables.exec = Jvm.exec) (hb : c.code = code) (hr : meth.sig.returnType = ret) (hlocks : meth.locks = false) {pc : Nat} {H : Heap} {ls : Array Slot} (hdg : decode code pc = .ok (.ireturn, 1)) : W p l e room_1 s m #[Value.ref b] below meth c H [] 601024 7293034 (lw_Z below #[Value.ref b] s) (F0 m pc ls [.int 1]) := by
  intro T hT X
  obtain ⟨fs, hret, hrun, hended, hW, hframe⟩ := X.leave (v := some (.int 1)) (hlocks := hlocks) (fun h => by rw [hr] at h; cases h)
  have hmeth' : T.vm.method? m = some meth := X.method'
  refine ⟨T.setFrames fs, ?_, .returned (some (.int 1)), hrun, hended, rfl, ⟨_, rfl⟩, hW, hframe⟩
  jvm_step X.here [X.here.top, hx, hb, hdg, hmeth', hr, ret, narrow_b1]
  (try refine ⟨rfl, ?_⟩); (try refine ⟨rfl, ?_⟩)
  first | (intro acts; rw [hret _ acts rfl rfl rfl]) | rw [hret _ _ rfl rfl rfl]
  exact Steps.refl _
/-- what holds at the law's entry: the machine, the code, the tables' words (any of lw_tbl by 'hts w (by decide +kernel)'), the script of L ints xs at the cell b, what the Statement gives of the start (any of its parts by flat_of_before) -/
def lw_At (p : Program) (s : State) (m : MethodId) (meth : Method) (c : Code) (b L : Nat) (xs : Nat → Int32) : Prop :=
  p.tables.exec = Jvm.exec ∧ c.code = code ∧ meth.sig.returnType = ret ∧ c.maxLocals = 7 ∧ s.vm.findClass R_law = some m.cls ∧ (∀ w ∈ lw_tbl, w.before #[Value.ref b] s = true) ∧ va_X b L xs s s.heap ∧ b < s.heap.size ∧ meth.locks = false ∧ (Jvm.Cond.and given_1 narrow_1).before #[Value.ref b] s = true
theorem z_arr {args : Array Value} {s : State} {ty : FieldType} (h : (Cond.arrayClass ty).before args s = true) : ∃ c, ArrOfT s c ty ∧ s.vm.findClass ("[" ++ ty.toString) = some c := by
  obtain ⟨c, k, comp, h1, h2, h3⟩ := Cond.arrayClass_spec h
  exact ⟨c, fun n z => ⟨(fun k h => by cases h), k, h2, comp, h3⟩, h1⟩
theorem z_aro {args : Array Value} {s : State} {C : String} (h : (Cond.arrayOver (.object C)).before args s = true) : ∃ c, ArrOfT s c (.object C) ∧ va_RA s c (.object C) := by
  obtain ⟨comp, c, k, h1, h2, h3, h4, h5⟩ := Cond.arrayOver_spec h
  exact ⟨c, fun n z => ⟨(fun k h => by cases h), k, h3, comp, h4⟩, k, comp, h3, h4, h1, h5⟩
theorem z_ao1 : Cond.arrayOver (.object "HeldMusic$Hall") ∈ lw_tbl := List.mem_of_getElem? (xgt (k := 216) (by decide +kernel))
theorem z_ao2 : Cond.arrayOver (.object "HeldMusic$Mark") ∈ lw_tbl := List.mem_of_getElem? (xgt (k := 218) (by decide +kernel))
theorem z_sr : Cond.stringRef RX7 48 "()<=+-*;" ∈ lw_tbl := List.mem_of_getElem? (xgt (k := 367) (by decide +kernel))
theorem z_xw : ∀ w ∈ hmNXw, w ∈ lw_tbl := by decide +kernel
theorem z_gd {w : Cond} (h : w ∈ lw_good) : w ∈ lw_tbl := (List.mem_filter.mp h).1
theorem z_ls1 : Cond.laysStatic "java/lang/String" "COMPACT_STRINGS" "Z" ∈ lw_tbl := by decide +kernel
theorem z_ls2 : Cond.laysStatic Bundle.tN "UNASSIGNED_STACK" Bundle.steD ∈ lw_tbl := by decide +kernel
theorem z_ls3 : Cond.laysStatic Bundle.tN "SUPPRESSED_SENTINEL" Bundle.listD ∈ lw_tbl := by decide +kernel
theorem z_in1 : Cond.initialized "java/lang/String" ∈ lw_tbl := by decide +kernel
theorem z_in2 : Cond.initialized Bundle.tN ∈ lw_tbl := by decide +kernel
def z_cls (c : Nat → ClassId) : Nat → ClassId := c
theorem z_kn {s : State} {args : Array Value} (hts : ∀ w ∈ lw_tbl, w.before args s = true) : ∃ (dC : Nat → ClassId) (dI : Nat → Nat → Nat), ∀ (k : Nat) (q : vw_C), vwCl[k]? = some q → u_Kn s q.1 q.2.1 q.2.2 (dC k) (dI k) := by
  have h : ∀ k : Nat, ∃ (c : ClassId) (f : Nat → Nat), ∀ q : vw_C, vwCl[k]? = some q → u_Kn s q.1 q.2.1 q.2.2 c f := by
    intro k
    by_cases hk : k < 10
    · have hg : ∀ w ∈ lw_good, w.before args s = true := fun w hw => hts w (z_gd hw)
      have hx : ∃ (c : ClassId) (f : Nat → Nat), u_Kn s (xC k).1 (xC k).2.1 (xC k).2.2 c f := by
        rcases (show k = 0 ∨ k = 1 ∨ k = 2 ∨ k = 3 ∨ k = 4 ∨ k = 5 ∨ k = 6 ∨ k = 7 ∨ k = 8 ∨ k = 9 by omega) with rfl | rfl | rfl | rfl | rfl | rfl | rfl | rfl | rfl | rfl
        · exact u_known hg xu_0 (hg _ xn_0)
        · exact u_known hg xu_1 (hg _ xn_1)
        · exact u_known hg xu_2 (hg _ xn_2)
        · exact u_known hg xu_3 (hg _ xn_3)
        · exact u_known hg xu_4 (hg _ xn_4)
        · exact u_known hg xu_5 (hg _ xn_5)
        · exact u_known hg xu_6 (hg _ xn_6)
        · exact u_known hg xu_7 (hg _ xn_7)
        · exact u_known hg xu_8 (hg _ xn_8)
        · exact u_known hg xu_9 (hg _ xn_9)
      obtain ⟨c, f, hcf⟩ := hx
      refine ⟨c, f, fun q hq => ?_⟩
      rw [xC_at hk] at hq
      cases hq
      exact hcf
    · refine ⟨0, fun _ => 0, fun q hq => ?_⟩
      rw [List.getElem?_eq_none (by show 10 ≤ k; omega)] at hq
      cases hq
  exact ⟨fun k => (h k).choose, fun k => (h k).choose_spec.choose, fun k => (h k).choose_spec.choose_spec⟩
set_option maxRecDepth 100000 in
set_option maxHeartbeats 4000000 in
theorem whole_start {p : Program} {e : Env} {s : State} {m : MethodId} {below : List Frame} {meth : Method} {c : Code} (l : Launch) (hl : l.stackTraces = false) {b L : Nat} {xs : Nat → Int32} (hL : L ≤ 3584) (C0 : lw_At p s m meth c b L xs) : W p l e room_1 s m #[Value.ref b] below meth c s.heap [] 0 0 (lw_Z below #[Value.ref b] s) (entryFrame m ([Value.ref b] : List Value).toArray 7) := by
  obtain ⟨hx, hb, hr, hml, hown, hts, hX, hbl, hlocks, hgv⟩ := id C0
  have hs := flat_of_before _ hgv
  have hA : ∀ a : Nat, a < s.heap.size → ¬ (fun q : Nat => s.heap.size ≤ q) a := fun a h => Nat.not_le.mpr h
  have hg : ∀ w ∈ lw_good, w.before #[Value.ref b] s = true := fun w hw => hts w (z_gd hw)
  obtain ⟨dC, dI, hKc⟩ := z_kn hts
  obtain ⟨k1, a1, n1⟩ := z_arr (hg _ xa_int)
  obtain ⟨k2, a2, n2⟩ := z_arr (hg _ xa_long)
  obtain ⟨k3, a3, n3⟩ := z_arr (hg _ xa_byte)
  obtain ⟨k4, a4, n4⟩ := z_arr (hg _ xa_boolean)
  obtain ⟨k5, a5, n5⟩ := z_aro (hts _ z_ao1)
  obtain ⟨k6, a6, n6⟩ := z_aro (hts _ z_ao2)
  let cT : FieldType → ClassId := fun ty => if ty = .int then k1 else if ty = .long then k2 else if ty = .byte then k3 else if ty = .boolean then k4 else if ty = .object "HeldMusic$Hall" then k5 else k6
  have hK : va_K (dC, dI) vwCl (xtys cT) s := by
    refine ⟨hKc, fun k q hq => ?_⟩
    have hk : k < 6 := (List.getElem?_eq_some_iff.mp hq).1
    rcases (show k = 0 ∨ k = 1 ∨ k = 2 ∨ k = 3 ∨ k = 4 ∨ k = 5 by omega) with rfl | rfl | rfl | rfl | rfl | rfl
    · cases hq; exact ⟨a1, n1⟩
    · cases hq; exact ⟨a2, n2⟩
    · cases hq; exact ⟨a3, n3⟩
    · cases hq; exact ⟨a4, n4⟩
    · cases hq; exact ⟨a5, n5⟩
    · cases hq; exact ⟨a6, n6⟩
  obtain ⟨adK, adV, hS1, hS2⟩ := vk_Sof (args := #[Value.ref b]) (s := s) (N := 1) (tm := fun _ => .string "HeldMusic$Tape" 48) (len := [8]) (byt := [[40, 41, 60, 61, 43, 45, 42, 59]]) (A := fun q : Nat => s.heap.size ≤ q) (fun i hi => by
      obtain rfl : i = 0 := by omega
      decide) (fun i _ => hs _ (by decide +kernel)) (fun i _ => hs _ (by decide +kernel)) (fun i _ => hs _ (by decide +kernel)) (fun i hi => by
      obtain rfl : i = 0 := by omega
      exact hs _ (by decide +kernel)) (fun i hi j hj => by
      obtain rfl : i = 0 := by omega
      have hj8 : j < 8 := hj
      rcases (show j = 0 ∨ j = 1 ∨ j = 2 ∨ j = 3 ∨ j = 4 ∨ j = 5 ∨ j = 6 ∨ j = 7 by omega) with rfl | rfl | rfl | rfl | rfl | rfl | rfl | rfl <;> exact hs _ (by decide +kernel)) (fun i j hi hj hij => absurd (show i = j by omega) hij) hA
  have hKs : xKs (dC, dI) cT (adK, adV) (fun q : Nat => s.heap.size ≤ q) s s.heap := by
    refine ⟨hK, fun w hw => ?_, va_AO.of (hts _ z_ao1), va_AO.of (hts _ z_ao2), vk_R.of (hts _ z_sr) (hS2 0 (by decide)), hS1, va_Zof (hts _ z_ls1) (hts _ z_in1) (va_eqt (hs (.eq (.static "java/lang/String" "COMPACT_STRINGS" "Z") (.int 1)) (by decide +kernel))) hA⟩
    have hw2 := hts w (x_nest_in w hw)
    simp only [x_nest, List.mem_cons, List.not_mem_nil, or_false] at hw
    rcases hw with rfl | rfl | rfl | rfl | rfl | rfl | rfl | rfl | rfl | rfl <;> exact va_tabs rfl (rfl : s.vm = s.vm) hw2
  have hZ : xZq (fun q : Nat => s.heap.size ≤ q) s s.heap := by
    refine ⟨vx_Zqof (hts _ z_ls2) (hts _ z_in2) (hs _ (by decide +kernel)) hA, vx_Zqof (hts _ z_ls3) (hts _ z_in2) (hs _ (by decide +kernel)) hA, fun w hw => ?_⟩
    have hw2 := hts w (z_xw w hw)
    simp only [hmNXw, List.mem_cons, List.not_mem_nil, or_false] at hw
    rcases hw with rfl | rfl | rfl | rfl <;> exact va_tabs rfl (rfl : s.vm = s.vm) hw2
  have h1 := lv_entry [Value.ref b] (n := 7) (Nat.le_of_ble_eq_true rfl)
  rw [lg_entry_eq]
  refine law_start (d := 0) (s := b) (Ln := L) (n := s.heap.size) (nm := meth.name) (xs := xs) (Q := fun r n _ _ _ _ => r = some (.int 1) ∧ n = 0) (by omega) hL (fun _ _ _ _ => ⟨rfl, rfl⟩) (fun _ _ _ _ _ _ h => h.2) l p e room_1 s m #[Value.ref b] below meth c s.heap [] 0 0 (dC, dI) cT (adK, adV) (fun q : Nat => s.heap.size ≤ q) _ _ ⟨hx, hb, hml, hown, hg, fun q hq => hq, rfl, hl, by decide, by decide, by decide, by decide, hr, hlocks⟩ hKs ⟨[], (fun a => by simp), (fun k q h => by cases h), ⟨(fun i j p q h => by cases h), (fun k q h => by cases h)⟩⟩ va_S.rf (fun _ => ⟨rfl, fun x h1 h2 => absurd h1 (Nat.not_le.mpr h2)⟩) ?_ ?_ ⟨hX, hbl, Nat.not_le.mpr hbl, hZ⟩
  · show xLs _ 7 (xen [Value.ref b] 7)
    unfold xLs xen
    rw [xpr_xe]
    exact h1
  · intro r n' sh' R' L' I' H' locs' cells' slots' pc' lsr' hq hw hS hc hs' hn' hret
    obtain ⟨rfl, rfl⟩ := hq
    refine va_forget (fun q hq => hS.2.2 q hq) ?_
    refine W.widen (k := 601024) (n := 7293034) (Nat.le_trans hc (by decide)) (Nat.le_trans hs' (by decide)) ?_
    exact lw_ret hx hb hr hlocks hret.1
