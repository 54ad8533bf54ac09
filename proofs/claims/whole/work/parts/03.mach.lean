/-! THE PURE JUDGEMENT: Ex says of a method's code, from a place with locals, operand stack and a memory of ints, longs and references, that the machine comes to a return of which Q says the answer and the memory behind it. -/
abbrev xSh : Type := Nat → Option (Nat ⊕ (FieldType × Nat))
abbrev xR : Type := Nat → Nat → Option Nat
abbrev xL : Type := Nat → Nat → Int64
abbrev xI : Type := Nat → Nat → Int32
abbrev xM : Type := MethodName × ByteArray × Nat × Option FieldType
abbrev xQ : Type := Option Value → Nat → xSh → xR → xL → xI → Prop
def lw_good : List Cond := lw_tbl.filter goodWord
theorem xg {w : Cond} (k : Nat) (h : lw_tbl[k]? = some w) (hg : goodWord w = true) : w ∈ lw_good := List.mem_filter.mpr ⟨List.mem_of_getElem? h, hg⟩
theorem lw_good_in : GoodIn lw_good lw_good := fun w hw => ⟨hw, good_of_word (List.mem_filter.mp hw).2⟩
theorem xgt {k : Nat} {w : Cond} (h : tables_1[k]? = some w) : lw_tbl[(k2_sels lw_privs).length + k]? = some w := by
  unfold lw_tbl
  rw [List.getElem?_append_right (Nat.le_add_right _ _), Nat.add_sub_cancel_left]
  exact h
theorem xt {w : Cond} (k : Nat) (h : tables_1[k]? = some w) (hg : goodWord w = true) : w ∈ lw_good := List.mem_filter.mpr ⟨List.mem_of_getElem? (xgt h), hg⟩
def xC (ci : Nat) : vw_C := match ci with
  | 0 => (RX0, TX0, 8) | 1 => (RX1, TX1, 8) | 2 => (RX2, TX2, 3) | 3 => (RX3, TX3, 5) | 4 => (RX4, TX4, 4) | 5 => (RX5, TX5, 5) | 6 => (RX6, TX6, 5) | 7 => (RX7, TX7, 6) | 8 => (RX8, TX8, 16) | _ => (RX9, TX9, 60)
theorem xC_at {ci : Nat} (h : ci < 10) : vwCl[ci]? = some (xC ci) := by
  rcases (by omega : ci = 0 ∨ ci = 1 ∨ ci = 2 ∨ ci = 3 ∨ ci = 4 ∨ ci = 5 ∨ ci = 6 ∨ ci = 7 ∨ ci = 8 ∨ ci = 9) with rfl | rfl | rfl | rfl | rfl | rfl | rfl | rfl | rfl | rfl <;> rfl
def xty (ci : Nat) : Nat → FieldType := match ci with
  | 0 => tyX0 | 1 => tyX1 | 2 => tyX2 | 3 => tyX3 | 4 => tyX4 | 5 => tyX5 | 6 => tyX6 | 7 => tyX7 | 8 => tyX8 | _ => tyX9
theorem xty_ok {ci : Nat} (h : ci < 10) : ∀ k, k < (xC ci).2.2 → parseFieldDescriptor ((xC ci).2.1 k).2.2.1 = some (xty ci k) := by
  rcases (by omega : ci = 0 ∨ ci = 1 ∨ ci = 2 ∨ ci = 3 ∨ ci = 4 ∨ ci = 5 ∨ ci = 6 ∨ ci = 7 ∨ ci = 8 ∨ ci = 9) with rfl | rfl | rfl | rfl | rfl | rfl | rfl | rfl | rfl | rfl
  · exact tyX0_ok
  · exact tyX1_ok
  · exact tyX2_ok
  · exact tyX3_ok
  · exact tyX4_ok
  · exact tyX5_ok
  · exact tyX6_ok
  · exact tyX7_ok
  · exact tyX8_ok
  · exact tyX9_ok
theorem xnm_ok {ci : Nat} (h : ci < 10) : ∀ a, a < (xC ci).2.2 → ∀ b, b < (xC ci).2.2 → a ≠ b → ((xC ci).2.1 a).2.1 ≠ ((xC ci).2.1 b).2.1 := by
  rcases (by omega : ci = 0 ∨ ci = 1 ∨ ci = 2 ∨ ci = 3 ∨ ci = 4 ∨ ci = 5 ∨ ci = 6 ∨ ci = 7 ∨ ci = 8 ∨ ci = 9) with rfl | rfl | rfl | rfl | rfl | rfl | rfl | rfl | rfl | rfl
  · exact nmX0
  · exact nmX1
  · exact nmX2
  · exact nmX3
  · exact nmX4
  · exact nmX5
  · exact nmX6
  · exact nmX7
  · exact nmX8
  · exact nmX9
/-- a field's value, by its type -/
def xfv (R : xR) (L : xL) (I : xI) (a k : Nat) (ty : FieldType) : Value := match ty with
  | .long => .long (L a k)
  | .object _ => va_rf (R a k)
  | .array _ => va_rf (R a k)
  | _ => .int (I a k)
def xar (R : xR) (L : xL) (I : xI) (a : Nat) (ty : FieldType) : (Nat → Int32) ⊕ (Nat → Int64) ⊕ (Nat → UInt32) ⊕ (Nat → UInt64) ⊕ (Nat → Option Nat) := match ty with
  | .long => .inr (.inl (L a))
  | .object _ => .inr (.inr (.inr (.inr (R a))))
  | _ => .inl (I a)
def xfs (R : xR) (L : xL) (I : xI) (a ci : Nat) : List Value := (List.range (xC ci).2.2).map (fun k => xfv R L I a k (xty ci k))
def xcell (cT : FieldType → ClassId) (sh : xSh) (R : xR) (L : xL) (I : xI) (a : Nat) : va_E := match sh a with
  | some (.inl ci) => .inr (ci, xfs R L I a ci)
  | some (.inr (ty, n)) => .inl (cT ty, n, xar R L I a ty)
  | none => .inr (0, [])
def xtys (cT : FieldType → ClassId) : List (ClassId × FieldType) := [(cT .int, .int), (cT .long, .long), (cT .byte, .byte), (cT .boolean, .boolean), (cT (.object "HeldMusic$Hall"), .object "HeldMusic$Hall"), (cT (.object "HeldMusic$Mark"), .object "HeldMusic$Mark")]
/-- the world: the cells at the addresses that have a shape -/
def xWd (D : va_G) (cT : FieldType → ClassId) (A : Nat → Prop) (H : Heap) (sh : xSh) (R : xR) (L : xL) (I : xI) : Prop :=
  ∃ Ls : List Nat, (∀ a, a ∈ Ls ↔ sh a ≠ none) ∧ va_P D vwCl (va_pl Ls (xcell cT sh R L I)) H ∧ va_D A (va_pl Ls (xcell cT sh R L I))

def x_nest : List Cond := [(Jvm.Cond.methodLinkNest "HeldMusic" (9 : Nat) ({ cls := "HeldMusic$Reader", name := "<init>", desc := "()V" } : Jvm.MethodName) "HeldMusic"), (Jvm.Cond.methodLinkNest "HeldMusic$Reader" (11 : Nat) ({ cls := "HeldMusic$Tape", name := "<init>", desc := "()V" } : Jvm.MethodName) "HeldMusic"), (Jvm.Cond.methodLinkNest "HeldMusic" (18 : Nat) ({ cls := "HeldMusic$Desk", name := "<init>", desc := "()V" } : Jvm.MethodName) "HeldMusic"), (Jvm.Cond.methodLinkNest "HeldMusic$Desk" (30 : Nat) ({ cls := "HeldMusic$Law", name := "<init>", desc := "()V" } : Jvm.MethodName) "HeldMusic"), (Jvm.Cond.methodLinkNest "HeldMusic" (28 : Nat) ({ cls := "HeldMusic$Plan", name := "<init>", desc := "()V" } : Jvm.MethodName) "HeldMusic"), (Jvm.Cond.methodLinkNest "HeldMusic" (38 : Nat) ({ cls := "HeldMusic$Hall", name := "<init>", desc := "()V" } : Jvm.MethodName) "HeldMusic"), (Jvm.Cond.methodLinkNest "HeldMusic" (58 : Nat) ({ cls := "HeldMusic$Rows", name := "<init>", desc := "()V" } : Jvm.MethodName) "HeldMusic"), (Jvm.Cond.methodLinkNest "HeldMusic" (70 : Nat) ({ cls := "HeldMusic$Mark", name := "<init>", desc := "()V" } : Jvm.MethodName) "HeldMusic"), (Jvm.Cond.methodLinkNest "HeldMusic$Mark" (9 : Nat) ({ cls := "HeldMusic$Hall", name := "<init>", desc := "()V" } : Jvm.MethodName) "HeldMusic"), (Jvm.Cond.methodLinkNest "HeldMusic$Mark" (18 : Nat) ({ cls := "HeldMusic$Plan", name := "<init>", desc := "()V" } : Jvm.MethodName) "HeldMusic")]
theorem x_nest_in : ∀ w ∈ x_nest, w ∈ lw_tbl := by
  intro w hw
  simp only [x_nest, List.mem_cons, List.not_mem_nil, or_false] at hw
  rcases hw with rfl | rfl | rfl | rfl | rfl | rfl | rfl | rfl | rfl | rfl
  · exact List.mem_of_getElem? (xgt (k := 33) (by decide +kernel))
  · exact List.mem_of_getElem? (xgt (k := 39) (by decide +kernel))
  · exact List.mem_of_getElem? (xgt (k := 86) (by decide +kernel))
  · exact List.mem_of_getElem? (xgt (k := 92) (by decide +kernel))
  · exact List.mem_of_getElem? (xgt (k := 155) (by decide +kernel))
  · exact List.mem_of_getElem? (xgt (k := 179) (by decide +kernel))
  · exact List.mem_of_getElem? (xgt (k := 221) (by decide +kernel))
  · exact List.mem_of_getElem? (xgt (k := 246) (by decide +kernel))
  · exact List.mem_of_getElem? (xgt (k := 251) (by decide +kernel))
  · exact List.mem_of_getElem? (xgt (k := 253) (by decide +kernel))
/-- what stays of the tables, of the String constant and of the statics, as a method's start has them -/
def xStr (ad : (Nat → Nat) × (Nat → Nat)) (A : Nat → Prop) (U : State) (H : Heap) : Prop :=
  vk_R RX7 48 "()<=+-*;" (ad.1 0) U ∧ vk_S 1 [8] [[40, 41, 60, 61, 43, 45, 42, 59]] ad.1 ad.2 A U H ∧ va_Z "java/lang/String" "COMPACT_STRINGS" "Z" (.int 1) A U H
def xKs (D : va_G) (cT : FieldType → ClassId) (ad : (Nat → Nat) × (Nat → Nat)) (A : Nat → Prop) (s : State) (H : Heap) : Prop :=
  va_K D vwCl (xtys cT) s ∧ (∀ w ∈ x_nest, va_Nw w s) ∧ va_AO "HeldMusic$Hall" s ∧ va_AO "HeldMusic$Mark" s ∧ xStr ad A s H
def xCx (d kc ks : Nat) (M : xM) (l : Launch) (p : Program) (RR : Room) (s : State) (m : MethodId) (args : Array Value) (meth : Method) (c : Code) (cells slots : Nat) (A : Nat → Prop) : Prop :=
  p.tables.exec = Jvm.exec ∧ c.code = M.2.1 ∧ c.maxLocals = M.2.2.1 ∧ s.vm.findClass M.1.cls = some m.cls ∧ (∀ w ∈ lw_good, w.before args s = true) ∧ (∀ q, s.heap.size ≤ q → A q) ∧ meth.name = M.1.name ∧ l.stackTraces = false ∧ d ≤ RR.frames ∧ 100 * d ≤ RR.locals ∧ cells + kc ≤ RR.cells ∧ slots + ks ≤ RR.slots ∧ meth.sig.returnType = M.2.2.2 ∧ meth.locks = false
def xNn (n : Nat) (s : State) (cells : Nat) (sh : xSh) : Prop := n ≠ 0 → n = s.heap.size + cells ∧ ∀ x, s.heap.size ≤ x → x < n → sh x ≠ none
def xpr : Nat → List (Option Value) → List (Nat × Value)
  | _, [] => []
  | i, none :: r => xpr (i + 1) r
  | i, some v :: r => (i, v) :: xpr (i + 1) r
def xLs (lsr : Array Slot) (nL : Nat) (ls : List (Option Value)) : Prop := lv_has lsr nL (xpr 0 ls)
def xIsRet (M : xM) (pc : Nat) (r : Option Value) : Prop := match r with
  | none => decode M.2.1 pc = .ok (.return_, 1) ∧ M.2.2.2 = none
  | some (.int v) => decode M.2.1 pc = .ok (.ireturn, 1) ∧ ∃ ty, M.2.2.2 = some ty ∧ narrow ty (.int v) = .int v
  | some (.long _) => decode M.2.1 pc = .ok (.lreturn, 1) ∧ M.2.2.2 = some .long
  | _ => False
def xRet (M : xM) (Q : xQ) (l : Launch) (p : Program) (e : Env) (RR : Room) (s : State) (m : MethodId) (args : Array Value) (below : List Frame) (meth : Method) (c : Code) (D : va_G) (cT : FieldType → ClassId) (A : Nat → Prop) (QQ : State → Prop) (ck sk : Nat) : Prop :=
  ∀ (r : Option Value) (n : Nat) (sh : xSh) (R : xR) (L : xL) (I : xI) (H : Heap) (locs : List Loc) (cells slots pc : Nat) (lsr : Array Slot),
    Q r n sh R L I → xWd D cT A H sh R L I → va_S A s.heap H locs → cells ≤ ck → slots ≤ sk → (n ≠ 0 → cells = ck ∧ n = s.heap.size + cells ∧ ∀ x, s.heap.size ≤ x → x < n → sh x ≠ none) → xIsRet M pc r → W p l e RR s m args below meth c H locs cells slots QQ (F0 m pc lsr r.toList)
def Ex (d kc ks : Nat) (M : xM) (n : Nat) (sh : xSh) (R : xR) (L : xL) (I : xI) (pc : Nat) (ls : List (Option Value)) (st : List Value) (Q : xQ) : Prop :=
  ∀ (l : Launch) (p : Program) (e : Env) (RR : Room) (s : State) (m : MethodId) (args : Array Value) (below : List Frame) (meth : Method) (c : Code) (H : Heap) (locs : List Loc) (cells slots : Nat) (D : va_G) (cT : FieldType → ClassId) (ad : (Nat → Nat) × (Nat → Nat)) (A : Nat → Prop) (QQ : State → Prop) (lsr : Array Slot),
    xCx d kc ks M l p RR s m args meth c cells slots A → xKs D cT ad A s s.heap → xWd D cT A H sh R L I → va_S A s.heap H locs → xNn n s cells sh → xLs lsr M.2.2.1 ls →
    xRet M Q l p e RR s m args below meth c D cT A QQ (cells + kc) (slots + ks) →
    W p l e RR s m args below meth c H locs cells slots QQ (F0 m pc lsr st)
theorem xpr_mem (ls : List (Option Value)) : ∀ (i j : Nat) (v : Value), (j, v) ∈ xpr i ls ↔ ∃ k, j = i + k ∧ ls[k]? = some (some v) := by
  induction ls with
  | nil => intro i j v; simp [xpr]
  | cons x r ih =>
    intro i j v
    cases x with
    | none =>
      rw [xpr, ih]
      constructor
      · rintro ⟨k, rfl, h⟩
        exact ⟨k + 1, by omega, by simpa using h⟩
      · rintro ⟨k, rfl, h⟩
        cases k with
        | zero => simp at h
        | succ k => exact ⟨k, by omega, by simpa using h⟩
    | some x =>
      rw [xpr, List.mem_cons, ih]
      constructor
      · rintro (h | ⟨k, rfl, h⟩)
        · cases h
          exact ⟨0, by omega, by simp⟩
        · exact ⟨k + 1, by omega, by simpa using h⟩
      · rintro ⟨k, rfl, h⟩
        cases k with
        | zero => simp at h; subst h; left; simp
        | succ k => exact Or.inr ⟨k, by omega, by simpa using h⟩
theorem xLs_get {lsr : Array Slot} {nL : Nat} {ls : List (Option Value)} (h : xLs lsr nL ls) {i : Nat} {v : Value} (hi : ls[i]? = some (some v)) : lsr[i]? = some (.val v) :=
  h.2.2 (i, v) ((xpr_mem ls 0 i v).mpr ⟨i, by omega, hi⟩)
def xok (ls : List (Option Value)) (i : Nat) : Bool := match i with
  | 0 => true
  | j + 1 => match ls[j]? with
    | some (some v) => v.category == 1
    | _ => true
theorem xLs_set1 {lsr : Array Slot} {nL : Nat} {ls : List (Option Value)} {i : Nat} {v : Value} (hok : xok ls i = true) (h : lv_has lsr nL ((i, v) :: (xpr 0 ls).filter (fun q => !(q.1 == i) && !(q.1 + 1 == i && q.2.category == 2)))) : xLs lsr nL (ls.set i (some v)) := by
  refine ⟨h.1, h.2.1, fun q hq => h.2.2 q ?_⟩
  obtain ⟨j, u⟩ := q
  obtain ⟨k, rfl, hk⟩ := (xpr_mem _ 0 j u).mp hq
  rw [Nat.zero_add]
  by_cases hki : k = i
  · subst hki
    have hl : k < ls.length := by
      have := (List.getElem?_eq_some_iff.mp hk).1
      simpa using this
    rw [List.getElem?_set_self hl] at hk
    cases hk
    exact List.mem_cons_self
  · rw [List.getElem?_set_ne (Ne.symm hki)] at hk
    refine List.mem_cons_of_mem _ (List.mem_filter.mpr ⟨(xpr_mem ls 0 k u).mpr ⟨k, by omega, hk⟩, ?_⟩)
    simp only [Bool.and_eq_true, Bool.not_eq_true', beq_eq_false_iff_ne, ne_eq, Bool.and_eq_false_iff]
    refine ⟨hki, ?_⟩
    by_cases h1 : k + 1 = i
    · right
      subst h1
      simp only [xok, hk, beq_iff_eq] at hok
      omega
    · exact Or.inl h1
theorem xLs_set2 {lsr : Array Slot} {nL : Nat} {ls : List (Option Value)} {i : Nat} {v : Value} (hok : xok ls i = true) (h : lv_has lsr nL ((i, v) :: (xpr 0 ls).filter (fun q => !(q.1 == i) && (!(q.1 == i + 1) && !(q.1 + 1 == i && q.2.category == 2))))) : xLs lsr nL ((ls.set i (some v)).set (i + 1) none) := by
  refine ⟨h.1, h.2.1, fun q hq => h.2.2 q ?_⟩
  obtain ⟨j, u⟩ := q
  obtain ⟨k, rfl, hk⟩ := (xpr_mem _ 0 j u).mp hq
  rw [Nat.zero_add]
  by_cases hk1 : k = i + 1
  · subst hk1
    by_cases hl : i + 1 < (ls.set i (some v)).length
    · rw [List.getElem?_set_self hl] at hk
      cases hk
    · rw [List.getElem?_eq_none (by simpa using hl)] at hk
      cases hk
  · rw [List.getElem?_set_ne (Ne.symm hk1)] at hk
    by_cases hki : k = i
    · subst hki
      have hl : k < ls.length := by
        have := (List.getElem?_eq_some_iff.mp hk).1
        simpa using this
      rw [List.getElem?_set_self hl] at hk
      cases hk
      exact List.mem_cons_self
    · rw [List.getElem?_set_ne (Ne.symm hki)] at hk
      refine List.mem_cons_of_mem _ (List.mem_filter.mpr ⟨(xpr_mem ls 0 k u).mpr ⟨k, by omega, hk⟩, ?_⟩)
      simp only [Bool.and_eq_true, Bool.not_eq_true', beq_eq_false_iff_ne, ne_eq, Bool.and_eq_false_iff]
      refine ⟨hki, hk1, ?_⟩
      by_cases h1 : k + 1 = i
      · right
        subst h1
        simp only [xok, hk, beq_iff_eq] at hok
        omega
      · exact Or.inl h1
section EX
variable {d kc ks n pc : Nat} {M : xM} {sh : xSh} {R : xR} {L : xL} {I : xI} {ls : List (Option Value)} {st : List Value} {Q : xQ}
/-- fewer locals -/
theorem Ex_ls {ls' : List (Option Value)} (h : ∀ (i : Nat) (v : Value), ls'[i]? = some (some v) → ls[i]? = some (some v)) (k : Ex d kc ks M n sh R L I pc ls' st Q) : Ex d kc ks M n sh R L I pc ls st Q := by
  intro l p e RR s m args below meth c H locs cells slots D cT ad A QQ lsr C K Wd S N Lo Rt
  refine k l p e RR s m args below meth c H locs cells slots D cT ad A QQ lsr C K Wd S N ⟨Lo.1, Lo.2.1, fun q hq => ?_⟩ Rt
  obtain ⟨j, u⟩ := q
  obtain ⟨k, rfl, hk⟩ := (xpr_mem _ 0 j u).mp hq
  rw [Nat.zero_add]
  exact xLs_get Lo (h k u hk)
theorem Ex_mono {Q' : xQ} (h : ∀ r n sh R L I, Q r n sh R L I → Q' r n sh R L I) (k : Ex d kc ks M n sh R L I pc ls st Q) : Ex d kc ks M n sh R L I pc ls st Q' := by
  intro l p e RR s m args below meth c H locs cells slots D cT ad A QQ lsr C K Wd S N Lo Rt
  exact k l p e RR s m args below meth c H locs cells slots D cT ad A QQ lsr C K Wd S N Lo (fun r n sh R L I H locs cells slots pc lsr hq => Rt r n sh R L I H locs cells slots pc lsr (h _ _ _ _ _ _ hq))

theorem Ex_iconst (pc' : Nat) {i : Int} {v : Int32} (hd : decode M.2.1 pc = .ok (.iconst i, 1)) (hv : Int32.ofInt i = v) (hp : pc + 1 = pc') (k : Ex d kc ks M n sh R L I pc' ls (.int v :: st) Q) : Ex d kc ks M n sh R L I pc ls st Q := by
  subst hp
  intro l p e RR s m args below meth c H locs cells slots D cT ad A QQ lsr C K Wd S N Lo Rt
  exact lv_iconst C.1 C.2.1 hd hv (k l p e RR s m args below meth c H locs cells slots D cT ad A QQ lsr C K Wd S N Lo Rt)
theorem Ex_bipush (pc' : Nat) {i : Int} {v : Int32} (hd : decode M.2.1 pc = .ok (.bipush i, 2)) (hv : (Int8.ofInt i).toInt32 = v) (hp : pc + 2 = pc') (k : Ex d kc ks M n sh R L I pc' ls (.int v :: st) Q) : Ex d kc ks M n sh R L I pc ls st Q := by
  subst hp
  intro l p e RR s m args below meth c H locs cells slots D cT ad A QQ lsr C K Wd S N Lo Rt
  exact lv_bipush C.1 C.2.1 hd hv (k l p e RR s m args below meth c H locs cells slots D cT ad A QQ lsr C K Wd S N Lo Rt)
theorem Ex_sipush (pc' : Nat) {i : Int} {v : Int32} (hd : decode M.2.1 pc = .ok (.sipush i, 3)) (hv : (Int16.ofInt i).toInt32 = v) (hp : pc + 3 = pc') (k : Ex d kc ks M n sh R L I pc' ls (.int v :: st) Q) : Ex d kc ks M n sh R L I pc ls st Q := by
  subst hp
  intro l p e RR s m args below meth c H locs cells slots D cT ad A QQ lsr C K Wd S N Lo Rt
  exact lv_sipush C.1 C.2.1 hd hv (k l p e RR s m args below meth c H locs cells slots D cT ad A QQ lsr C K Wd S N Lo Rt)
theorem Ex_lconst (pc' : Nat) {i : Fin 2} {v : Int64} (hd : decode M.2.1 pc = .ok (.lconst i, 1)) (hv : Int64.ofNat (i : Nat) = v) (hp : pc + 1 = pc') (k : Ex d kc ks M n sh R L I pc' ls (.long v :: st) Q) : Ex d kc ks M n sh R L I pc ls st Q := by
  subst hp
  intro l p e RR s m args below meth c H locs cells slots D cT ad A QQ lsr C K Wd S N Lo Rt
  exact lv_lconst C.1 C.2.1 hd hv (k l p e RR s m args below meth c H locs cells slots D cT ad A QQ lsr C K Wd S N Lo Rt)
theorem Ex_iload_n (pc' : Nat) {j : Fin 4} {i : Nat} {x : Int32} (hd : decode M.2.1 pc = .ok (.iload_n j, 1)) (hi : (j : Nat) = i) (hl : ls[i]? = some (some (.int x))) (hp : pc + 1 = pc') (k : Ex d kc ks M n sh R L I pc' ls (.int x :: st) Q) : Ex d kc ks M n sh R L I pc ls st Q := by
  subst hp
  intro l p e RR s m args below meth c H locs cells slots D cT ad A QQ lsr C K Wd S N Lo Rt
  exact lv_iload_n C.1 C.2.1 hd hi (xLs_get Lo hl) (k l p e RR s m args below meth c H locs cells slots D cT ad A QQ lsr C K Wd S N Lo Rt)
theorem Ex_iload (pc' : Nat) {i : Nat} {x : Int32} (hd : decode M.2.1 pc = .ok (.iload i, 2)) (hl : ls[i]? = some (some (.int x))) (hp : pc + 2 = pc') (k : Ex d kc ks M n sh R L I pc' ls (.int x :: st) Q) : Ex d kc ks M n sh R L I pc ls st Q := by
  subst hp
  intro l p e RR s m args below meth c H locs cells slots D cT ad A QQ lsr C K Wd S N Lo Rt
  exact lv_iload C.1 C.2.1 hd (xLs_get Lo hl) (k l p e RR s m args below meth c H locs cells slots D cT ad A QQ lsr C K Wd S N Lo Rt)
theorem Ex_lload_n (pc' : Nat) {j : Fin 4} {i : Nat} {x : Int64} (hd : decode M.2.1 pc = .ok (.lload_n j, 1)) (hi : (j : Nat) = i) (hl : ls[i]? = some (some (.long x))) (hp : pc + 1 = pc') (k : Ex d kc ks M n sh R L I pc' ls (.long x :: st) Q) : Ex d kc ks M n sh R L I pc ls st Q := by
  subst hp
  intro l p e RR s m args below meth c H locs cells slots D cT ad A QQ lsr C K Wd S N Lo Rt
  exact lv_lload_n C.1 C.2.1 hd hi (xLs_get Lo hl) (k l p e RR s m args below meth c H locs cells slots D cT ad A QQ lsr C K Wd S N Lo Rt)
theorem Ex_lload (pc' : Nat) {i : Nat} {x : Int64} (hd : decode M.2.1 pc = .ok (.lload i, 2)) (hl : ls[i]? = some (some (.long x))) (hp : pc + 2 = pc') (k : Ex d kc ks M n sh R L I pc' ls (.long x :: st) Q) : Ex d kc ks M n sh R L I pc ls st Q := by
  subst hp
  intro l p e RR s m args below meth c H locs cells slots D cT ad A QQ lsr C K Wd S N Lo Rt
  exact lv_lload C.1 C.2.1 hd (xLs_get Lo hl) (k l p e RR s m args below meth c H locs cells slots D cT ad A QQ lsr C K Wd S N Lo Rt)
theorem Ex_aload_n (pc' : Nat) {j : Fin 4} {i : Nat} {x : Nat} (hd : decode M.2.1 pc = .ok (.aload_n j, 1)) (hi : (j : Nat) = i) (hl : ls[i]? = some (some (.ref x))) (hp : pc + 1 = pc') (k : Ex d kc ks M n sh R L I pc' ls (.ref x :: st) Q) : Ex d kc ks M n sh R L I pc ls st Q := by
  subst hp
  intro l p e RR s m args below meth c H locs cells slots D cT ad A QQ lsr C K Wd S N Lo Rt
  exact lv_aload_n C.1 C.2.1 hd hi (xLs_get Lo hl) (k l p e RR s m args below meth c H locs cells slots D cT ad A QQ lsr C K Wd S N Lo Rt)
theorem Ex_aload (pc' : Nat) {i : Nat} {x : Nat} (hd : decode M.2.1 pc = .ok (.aload i, 2)) (hl : ls[i]? = some (some (.ref x))) (hp : pc + 2 = pc') (k : Ex d kc ks M n sh R L I pc' ls (.ref x :: st) Q) : Ex d kc ks M n sh R L I pc ls st Q := by
  subst hp
  intro l p e RR s m args below meth c H locs cells slots D cT ad A QQ lsr C K Wd S N Lo Rt
  exact lv_aload C.1 C.2.1 hd (xLs_get Lo hl) (k l p e RR s m args below meth c H locs cells slots D cT ad A QQ lsr C K Wd S N Lo Rt)
theorem Ex_istore_n (pc' : Nat) {ls' : List (Option Value)} {j : Fin 4} {i : Nat} {x : Int32} (hd : decode M.2.1 pc = .ok (.istore_n j, 1)) (hi : (j : Nat) = i) (hn : i < M.2.2.1) (hok : xok ls i = true) (hl : (ls.set i (some (.int x))) = ls') (hp : pc + 1 = pc') (k : Ex d kc ks M n sh R L I pc' ls' st Q) : Ex d kc ks M n sh R L I pc ls (.int x :: st) Q := by
  subst hp
  subst hl
  intro l p e RR s m args below meth c H locs cells slots D cT ad A QQ lsr C K Wd S N Lo Rt
  exact lv_istore_n C.1 C.2.1 hd hi Lo hn rfl (fun lsr' hh => k l p e RR s m args below meth c H locs cells slots D cT ad A QQ lsr' C K Wd S N (xLs_set1 hok hh) Rt)
theorem Ex_istore (pc' : Nat) {ls' : List (Option Value)} {i : Nat} {x : Int32} (hd : decode M.2.1 pc = .ok (.istore i, 2)) (hn : i < M.2.2.1) (hok : xok ls i = true) (hl : (ls.set i (some (.int x))) = ls') (hp : pc + 2 = pc') (k : Ex d kc ks M n sh R L I pc' ls' st Q) : Ex d kc ks M n sh R L I pc ls (.int x :: st) Q := by
  subst hp
  subst hl
  intro l p e RR s m args below meth c H locs cells slots D cT ad A QQ lsr C K Wd S N Lo Rt
  exact lv_istore C.1 C.2.1 hd Lo hn rfl (fun lsr' hh => k l p e RR s m args below meth c H locs cells slots D cT ad A QQ lsr' C K Wd S N (xLs_set1 hok hh) Rt)
theorem Ex_lstore_n (pc' : Nat) {ls' : List (Option Value)} {j : Fin 4} {i : Nat} {x : Int64} (hd : decode M.2.1 pc = .ok (.lstore_n j, 1)) (hi : (j : Nat) = i) (hn : i + 1 < M.2.2.1) (hok : xok ls i = true) (hl : ((ls.set i (some (.long x))).set (i + 1) none) = ls') (hp : pc + 1 = pc') (k : Ex d kc ks M n sh R L I pc' ls' st Q) : Ex d kc ks M n sh R L I pc ls (.long x :: st) Q := by
  subst hp
  subst hl
  intro l p e RR s m args below meth c H locs cells slots D cT ad A QQ lsr C K Wd S N Lo Rt
  exact lv_lstore_n C.1 C.2.1 hd hi Lo hn rfl (fun lsr' hh => k l p e RR s m args below meth c H locs cells slots D cT ad A QQ lsr' C K Wd S N (xLs_set2 hok hh) Rt)
theorem Ex_lstore (pc' : Nat) {ls' : List (Option Value)} {i : Nat} {x : Int64} (hd : decode M.2.1 pc = .ok (.lstore i, 2)) (hn : i + 1 < M.2.2.1) (hok : xok ls i = true) (hl : ((ls.set i (some (.long x))).set (i + 1) none) = ls') (hp : pc + 2 = pc') (k : Ex d kc ks M n sh R L I pc' ls' st Q) : Ex d kc ks M n sh R L I pc ls (.long x :: st) Q := by
  subst hp
  subst hl
  intro l p e RR s m args below meth c H locs cells slots D cT ad A QQ lsr C K Wd S N Lo Rt
  exact lv_lstore C.1 C.2.1 hd Lo hn rfl (fun lsr' hh => k l p e RR s m args below meth c H locs cells slots D cT ad A QQ lsr' C K Wd S N (xLs_set2 hok hh) Rt)
theorem Ex_astore_n (pc' : Nat) {ls' : List (Option Value)} {j : Fin 4} {i : Nat} {x : Nat} (hd : decode M.2.1 pc = .ok (.astore_n j, 1)) (hi : (j : Nat) = i) (hn : i < M.2.2.1) (hok : xok ls i = true) (hl : (ls.set i (some (.ref x))) = ls') (hp : pc + 1 = pc') (k : Ex d kc ks M n sh R L I pc' ls' st Q) : Ex d kc ks M n sh R L I pc ls (.ref x :: st) Q := by
  subst hp
  subst hl
  intro l p e RR s m args below meth c H locs cells slots D cT ad A QQ lsr C K Wd S N Lo Rt
  exact lv_astore_n C.1 C.2.1 hd hi Lo hn rfl (fun lsr' hh => k l p e RR s m args below meth c H locs cells slots D cT ad A QQ lsr' C K Wd S N (xLs_set1 hok hh) Rt)
theorem Ex_astore (pc' : Nat) {ls' : List (Option Value)} {i : Nat} {x : Nat} (hd : decode M.2.1 pc = .ok (.astore i, 2)) (hn : i < M.2.2.1) (hok : xok ls i = true) (hl : (ls.set i (some (.ref x))) = ls') (hp : pc + 2 = pc') (k : Ex d kc ks M n sh R L I pc' ls' st Q) : Ex d kc ks M n sh R L I pc ls (.ref x :: st) Q := by
  subst hp
  subst hl
  intro l p e RR s m args below meth c H locs cells slots D cT ad A QQ lsr C K Wd S N Lo Rt
  exact lv_astore C.1 C.2.1 hd Lo hn rfl (fun lsr' hh => k l p e RR s m args below meth c H locs cells slots D cT ad A QQ lsr' C K Wd S N (xLs_set1 hok hh) Rt)
theorem Ex_iinc (pc' : Nat) {ls' : List (Option Value)} {i : Nat} {z : Int} {x v : Int32} (hd : decode M.2.1 pc = .ok (.iinc i z, 3)) (hx : ls[i]? = some (some (.int x))) (hv : x + Int32.ofInt z = v) (hn : i < M.2.2.1) (hok : xok ls i = true) (hl : ls.set i (some (.int v)) = ls') (hp : pc + 3 = pc') (k : Ex d kc ks M n sh R L I pc' ls' st Q) : Ex d kc ks M n sh R L I pc ls st Q := by
  subst hp
  subst hl
  intro l p e RR s m args below meth c H locs cells slots D cT ad A QQ lsr C K Wd S N Lo Rt
  obtain ⟨q, hq⟩ := List.getElem?_of_mem ((xpr_mem ls 0 i (.int x)).mpr ⟨i, by omega, hx⟩)
  exact lv_iinc C.1 C.2.1 hd Lo hq hv hn rfl (fun lsr' hh => k l p e RR s m args below meth c H locs cells slots D cT ad A QQ lsr' C K Wd S N (xLs_set1 hok hh) Rt)
theorem Ex_iadd (pc' : Nat) {x y : Int32} (hd : decode M.2.1 pc = .ok (.iadd, 1)) (hp : pc + 1 = pc') (k : Ex d kc ks M n sh R L I pc' ls (.int (x + y) :: st) Q) : Ex d kc ks M n sh R L I pc ls (.int y :: .int x :: st) Q := by
  subst hp
  intro l p e RR s m args below meth c H locs cells slots D cT ad A QQ lsr C K Wd S N Lo Rt
  exact lv_iadd C.1 C.2.1 hd (k l p e RR s m args below meth c H locs cells slots D cT ad A QQ lsr C K Wd S N Lo Rt)
theorem Ex_isub (pc' : Nat) {x y : Int32} (hd : decode M.2.1 pc = .ok (.isub, 1)) (hp : pc + 1 = pc') (k : Ex d kc ks M n sh R L I pc' ls (.int (x - y) :: st) Q) : Ex d kc ks M n sh R L I pc ls (.int y :: .int x :: st) Q := by
  subst hp
  intro l p e RR s m args below meth c H locs cells slots D cT ad A QQ lsr C K Wd S N Lo Rt
  exact lv_isub C.1 C.2.1 hd (k l p e RR s m args below meth c H locs cells slots D cT ad A QQ lsr C K Wd S N Lo Rt)
theorem Ex_imul (pc' : Nat) {x y : Int32} (hd : decode M.2.1 pc = .ok (.imul, 1)) (hp : pc + 1 = pc') (k : Ex d kc ks M n sh R L I pc' ls (.int (x * y) :: st) Q) : Ex d kc ks M n sh R L I pc ls (.int y :: .int x :: st) Q := by
  subst hp
  intro l p e RR s m args below meth c H locs cells slots D cT ad A QQ lsr C K Wd S N Lo Rt
  exact lv_imul C.1 C.2.1 hd (k l p e RR s m args below meth c H locs cells slots D cT ad A QQ lsr C K Wd S N Lo Rt)
theorem Ex_iand (pc' : Nat) {x y : Int32} (hd : decode M.2.1 pc = .ok (.iand, 1)) (hp : pc + 1 = pc') (k : Ex d kc ks M n sh R L I pc' ls (.int (x &&& y) :: st) Q) : Ex d kc ks M n sh R L I pc ls (.int y :: .int x :: st) Q := by
  subst hp
  intro l p e RR s m args below meth c H locs cells slots D cT ad A QQ lsr C K Wd S N Lo Rt
  exact lv_iand C.1 C.2.1 hd (k l p e RR s m args below meth c H locs cells slots D cT ad A QQ lsr C K Wd S N Lo Rt)
theorem Ex_ior (pc' : Nat) {x y : Int32} (hd : decode M.2.1 pc = .ok (.ior, 1)) (hp : pc + 1 = pc') (k : Ex d kc ks M n sh R L I pc' ls (.int (x ||| y) :: st) Q) : Ex d kc ks M n sh R L I pc ls (.int y :: .int x :: st) Q := by
  subst hp
  intro l p e RR s m args below meth c H locs cells slots D cT ad A QQ lsr C K Wd S N Lo Rt
  exact lv_ior C.1 C.2.1 hd (k l p e RR s m args below meth c H locs cells slots D cT ad A QQ lsr C K Wd S N Lo Rt)
theorem Ex_ixor (pc' : Nat) {x y : Int32} (hd : decode M.2.1 pc = .ok (.ixor, 1)) (hp : pc + 1 = pc') (k : Ex d kc ks M n sh R L I pc' ls (.int (x ^^^ y) :: st) Q) : Ex d kc ks M n sh R L I pc ls (.int y :: .int x :: st) Q := by
  subst hp
  intro l p e RR s m args below meth c H locs cells slots D cT ad A QQ lsr C K Wd S N Lo Rt
  exact lv_ixor C.1 C.2.1 hd (k l p e RR s m args below meth c H locs cells slots D cT ad A QQ lsr C K Wd S N Lo Rt)
theorem Ex_ishl (pc' : Nat) {x y : Int32} (hd : decode M.2.1 pc = .ok (.ishl, 1)) (hp : pc + 1 = pc') (k : Ex d kc ks M n sh R L I pc' ls (.int (x <<< (y &&& 31)) :: st) Q) : Ex d kc ks M n sh R L I pc ls (.int y :: .int x :: st) Q := by
  subst hp
  intro l p e RR s m args below meth c H locs cells slots D cT ad A QQ lsr C K Wd S N Lo Rt
  exact lv_ishl C.1 C.2.1 hd (k l p e RR s m args below meth c H locs cells slots D cT ad A QQ lsr C K Wd S N Lo Rt)
theorem Ex_ishr (pc' : Nat) {x y : Int32} (hd : decode M.2.1 pc = .ok (.ishr, 1)) (hp : pc + 1 = pc') (k : Ex d kc ks M n sh R L I pc' ls (.int (x >>> (y &&& 31)) :: st) Q) : Ex d kc ks M n sh R L I pc ls (.int y :: .int x :: st) Q := by
  subst hp
  intro l p e RR s m args below meth c H locs cells slots D cT ad A QQ lsr C K Wd S N Lo Rt
  exact lv_ishr C.1 C.2.1 hd (k l p e RR s m args below meth c H locs cells slots D cT ad A QQ lsr C K Wd S N Lo Rt)
theorem Ex_idiv (pc' : Nat) {x y : Int32} (hd : decode M.2.1 pc = .ok (.idiv, 1)) (hne : ¬ y = 0) (hp : pc + 1 = pc') (k : Ex d kc ks M n sh R L I pc' ls (.int (x / y) :: st) Q) : Ex d kc ks M n sh R L I pc ls (.int y :: .int x :: st) Q := by
  subst hp
  intro l p e RR s m args below meth c H locs cells slots D cT ad A QQ lsr C K Wd S N Lo Rt
  exact lv_idiv C.1 C.2.1 hd hne (k l p e RR s m args below meth c H locs cells slots D cT ad A QQ lsr C K Wd S N Lo Rt)
theorem Ex_irem (pc' : Nat) {x y : Int32} (hd : decode M.2.1 pc = .ok (.irem, 1)) (hne : ¬ y = 0) (hp : pc + 1 = pc') (k : Ex d kc ks M n sh R L I pc' ls (.int (x - x / y * y) :: st) Q) : Ex d kc ks M n sh R L I pc ls (.int y :: .int x :: st) Q := by
  subst hp
  intro l p e RR s m args below meth c H locs cells slots D cT ad A QQ lsr C K Wd S N Lo Rt
  exact lv_irem C.1 C.2.1 hd hne (k l p e RR s m args below meth c H locs cells slots D cT ad A QQ lsr C K Wd S N Lo Rt)
theorem Ex_ladd (pc' : Nat) {x y : Int64} (hd : decode M.2.1 pc = .ok (.ladd, 1)) (hp : pc + 1 = pc') (k : Ex d kc ks M n sh R L I pc' ls (.long (x + y) :: st) Q) : Ex d kc ks M n sh R L I pc ls (.long y :: .long x :: st) Q := by
  subst hp
  intro l p e RR s m args below meth c H locs cells slots D cT ad A QQ lsr C K Wd S N Lo Rt
  exact lv_ladd C.1 C.2.1 hd (k l p e RR s m args below meth c H locs cells slots D cT ad A QQ lsr C K Wd S N Lo Rt)
theorem Ex_lsub (pc' : Nat) {x y : Int64} (hd : decode M.2.1 pc = .ok (.lsub, 1)) (hp : pc + 1 = pc') (k : Ex d kc ks M n sh R L I pc' ls (.long (x - y) :: st) Q) : Ex d kc ks M n sh R L I pc ls (.long y :: .long x :: st) Q := by
  subst hp
  intro l p e RR s m args below meth c H locs cells slots D cT ad A QQ lsr C K Wd S N Lo Rt
  exact lv_lsub C.1 C.2.1 hd (k l p e RR s m args below meth c H locs cells slots D cT ad A QQ lsr C K Wd S N Lo Rt)
theorem Ex_lmul (pc' : Nat) {x y : Int64} (hd : decode M.2.1 pc = .ok (.lmul, 1)) (hp : pc + 1 = pc') (k : Ex d kc ks M n sh R L I pc' ls (.long (x * y) :: st) Q) : Ex d kc ks M n sh R L I pc ls (.long y :: .long x :: st) Q := by
  subst hp
  intro l p e RR s m args below meth c H locs cells slots D cT ad A QQ lsr C K Wd S N Lo Rt
  exact lv_lmul C.1 C.2.1 hd (k l p e RR s m args below meth c H locs cells slots D cT ad A QQ lsr C K Wd S N Lo Rt)
theorem Ex_land (pc' : Nat) {x y : Int64} (hd : decode M.2.1 pc = .ok (.land, 1)) (hp : pc + 1 = pc') (k : Ex d kc ks M n sh R L I pc' ls (.long (x &&& y) :: st) Q) : Ex d kc ks M n sh R L I pc ls (.long y :: .long x :: st) Q := by
  subst hp
  intro l p e RR s m args below meth c H locs cells slots D cT ad A QQ lsr C K Wd S N Lo Rt
  exact lv_land C.1 C.2.1 hd (k l p e RR s m args below meth c H locs cells slots D cT ad A QQ lsr C K Wd S N Lo Rt)
theorem Ex_lor (pc' : Nat) {x y : Int64} (hd : decode M.2.1 pc = .ok (.lor, 1)) (hp : pc + 1 = pc') (k : Ex d kc ks M n sh R L I pc' ls (.long (x ||| y) :: st) Q) : Ex d kc ks M n sh R L I pc ls (.long y :: .long x :: st) Q := by
  subst hp
  intro l p e RR s m args below meth c H locs cells slots D cT ad A QQ lsr C K Wd S N Lo Rt
  exact lv_lor C.1 C.2.1 hd (k l p e RR s m args below meth c H locs cells slots D cT ad A QQ lsr C K Wd S N Lo Rt)
theorem Ex_ldiv (pc' : Nat) {x y : Int64} (hd : decode M.2.1 pc = .ok (.ldiv, 1)) (hne : ¬ y = 0) (hp : pc + 1 = pc') (k : Ex d kc ks M n sh R L I pc' ls (.long (x / y) :: st) Q) : Ex d kc ks M n sh R L I pc ls (.long y :: .long x :: st) Q := by
  subst hp
  intro l p e RR s m args below meth c H locs cells slots D cT ad A QQ lsr C K Wd S N Lo Rt
  exact lv_ldiv C.1 C.2.1 hd hne (k l p e RR s m args below meth c H locs cells slots D cT ad A QQ lsr C K Wd S N Lo Rt)
theorem Ex_lrem (pc' : Nat) {x y : Int64} (hd : decode M.2.1 pc = .ok (.lrem, 1)) (hne : ¬ y = 0) (hp : pc + 1 = pc') (k : Ex d kc ks M n sh R L I pc' ls (.long (x - x / y * y) :: st) Q) : Ex d kc ks M n sh R L I pc ls (.long y :: .long x :: st) Q := by
  subst hp
  intro l p e RR s m args below meth c H locs cells slots D cT ad A QQ lsr C K Wd S N Lo Rt
  exact lv_lrem C.1 C.2.1 hd hne (k l p e RR s m args below meth c H locs cells slots D cT ad A QQ lsr C K Wd S N Lo Rt)
theorem Ex_lshl (pc' : Nat) {x : Int64} {y : Int32} (hd : decode M.2.1 pc = .ok (.lshl, 1)) (hp : pc + 1 = pc') (k : Ex d kc ks M n sh R L I pc' ls (.long (x <<< (y.toInt64 &&& 63)) :: st) Q) : Ex d kc ks M n sh R L I pc ls (.int y :: .long x :: st) Q := by
  subst hp
  intro l p e RR s m args below meth c H locs cells slots D cT ad A QQ lsr C K Wd S N Lo Rt
  exact lv_lshl C.1 C.2.1 hd rfl (k l p e RR s m args below meth c H locs cells slots D cT ad A QQ lsr C K Wd S N Lo Rt)
theorem Ex_lushr (pc' : Nat) {x : Int64} {y : Int32} (hd : decode M.2.1 pc = .ok (.lushr, 1)) (hp : pc + 1 = pc') (k : Ex d kc ks M n sh R L I pc' ls (.long (x.toUInt64 >>> (y.toInt64.toUInt64 &&& Int64.toUInt64 63)).toInt64 :: st) Q) : Ex d kc ks M n sh R L I pc ls (.int y :: .long x :: st) Q := by
  subst hp
  intro l p e RR s m args below meth c H locs cells slots D cT ad A QQ lsr C K Wd S N Lo Rt
  exact lv_lushr C.1 C.2.1 hd rfl (k l p e RR s m args below meth c H locs cells slots D cT ad A QQ lsr C K Wd S N Lo Rt)
theorem Ex_iushr (pc' : Nat) {x y : Int32} (hd : decode M.2.1 pc = .ok (.iushr, 1)) (hp : pc + 1 = pc') (k : Ex d kc ks M n sh R L I pc' ls (.int (x.toUInt32 >>> (y.toUInt32 &&& Int32.toUInt32 31)).toInt32 :: st) Q) : Ex d kc ks M n sh R L I pc ls (.int y :: .int x :: st) Q := by
  subst hp
  intro l p e RR s m args below meth c H locs cells slots D cT ad A QQ lsr C K Wd S N Lo Rt
  exact lv_iushr C.1 C.2.1 hd rfl (k l p e RR s m args below meth c H locs cells slots D cT ad A QQ lsr C K Wd S N Lo Rt)
theorem Ex_i2l (pc' : Nat) {x : Int32} (hd : decode M.2.1 pc = .ok (.i2l, 1)) (hp : pc + 1 = pc') (k : Ex d kc ks M n sh R L I pc' ls (.long x.toInt64 :: st) Q) : Ex d kc ks M n sh R L I pc ls (.int x :: st) Q := by
  subst hp
  intro l p e RR s m args below meth c H locs cells slots D cT ad A QQ lsr C K Wd S N Lo Rt
  exact lv_i2l C.1 C.2.1 hd rfl (k l p e RR s m args below meth c H locs cells slots D cT ad A QQ lsr C K Wd S N Lo Rt)
theorem Ex_l2i (pc' : Nat) {x : Int64} (hd : decode M.2.1 pc = .ok (.l2i, 1)) (hp : pc + 1 = pc') (k : Ex d kc ks M n sh R L I pc' ls (.int x.toInt32 :: st) Q) : Ex d kc ks M n sh R L I pc ls (.long x :: st) Q := by
  subst hp
  intro l p e RR s m args below meth c H locs cells slots D cT ad A QQ lsr C K Wd S N Lo Rt
  exact lv_l2i C.1 C.2.1 hd rfl (k l p e RR s m args below meth c H locs cells slots D cT ad A QQ lsr C K Wd S N Lo Rt)
theorem Ex_i2b (pc' : Nat) {x : Int32} (hd : decode M.2.1 pc = .ok (.i2b, 1)) (hp : pc + 1 = pc') (k : Ex d kc ks M n sh R L I pc' ls (.int x.toInt8.toInt32 :: st) Q) : Ex d kc ks M n sh R L I pc ls (.int x :: st) Q := by
  subst hp
  intro l p e RR s m args below meth c H locs cells slots D cT ad A QQ lsr C K Wd S N Lo Rt
  exact lv_i2b C.1 C.2.1 hd rfl (k l p e RR s m args below meth c H locs cells slots D cT ad A QQ lsr C K Wd S N Lo Rt)
theorem Ex_i2c (pc' : Nat) {x : Int32} (hd : decode M.2.1 pc = .ok (.i2c, 1)) (hp : pc + 1 = pc') (k : Ex d kc ks M n sh R L I pc' ls (.int (x.toUInt32 % 65536).toInt32 :: st) Q) : Ex d kc ks M n sh R L I pc ls (.int x :: st) Q := by
  subst hp
  intro l p e RR s m args below meth c H locs cells slots D cT ad A QQ lsr C K Wd S N Lo Rt
  exact lv_i2c C.1 C.2.1 hd rfl (k l p e RR s m args below meth c H locs cells slots D cT ad A QQ lsr C K Wd S N Lo Rt)
theorem Ex_lcmp (pc' : Nat) {x y : Int64} (hd : decode M.2.1 pc = .ok (.lcmp, 1)) (hp : pc + 1 = pc') (k : Ex d kc ks M n sh R L I pc' ls (.int (lg_cmp x y) :: st) Q) : Ex d kc ks M n sh R L I pc ls (.long y :: .long x :: st) Q := by
  subst hp
  intro l p e RR s m args below meth c H locs cells slots D cT ad A QQ lsr C K Wd S N Lo Rt
  exact W.lcmp C.1 C.2.1 hd (k l p e RR s m args below meth c H locs cells slots D cT ad A QQ lsr C K Wd S N Lo Rt)
theorem Ex_dup (pc' : Nat) {va : Value} (hd : decode M.2.1 pc = .ok (.dup, 1)) (h1 : va.category = 1) (hp : pc + 1 = pc') (k : Ex d kc ks M n sh R L I pc' ls (va :: va :: st) Q) : Ex d kc ks M n sh R L I pc ls (va :: st) Q := by
  subst hp
  intro l p e RR s m args below meth c H locs cells slots D cT ad A QQ lsr C K Wd S N Lo Rt
  exact lv_dup C.1 C.2.1 hd h1 (k l p e RR s m args below meth c H locs cells slots D cT ad A QQ lsr C K Wd S N Lo Rt)
theorem Ex_pop (pc' : Nat) {va : Value} (hd : decode M.2.1 pc = .ok (.pop, 1)) (h1 : va.category = 1) (hp : pc + 1 = pc') (k : Ex d kc ks M n sh R L I pc' ls st Q) : Ex d kc ks M n sh R L I pc ls (va :: st) Q := by
  subst hp
  intro l p e RR s m args below meth c H locs cells slots D cT ad A QQ lsr C K Wd S N Lo Rt
  exact lv_pop C.1 C.2.1 hd h1 (k l p e RR s m args below meth c H locs cells slots D cT ad A QQ lsr C K Wd S N Lo Rt)
theorem Ex_dup_x1 (pc' : Nat) {va vb : Value} (hd : decode M.2.1 pc = .ok (.dup_x1, 1)) (h1 : va.category = 1) (h2 : vb.category = 1) (hp : pc + 1 = pc') (k : Ex d kc ks M n sh R L I pc' ls (va :: vb :: va :: st) Q) : Ex d kc ks M n sh R L I pc ls (va :: vb :: st) Q := by
  subst hp
  intro l p e RR s m args below meth c H locs cells slots D cT ad A QQ lsr C K Wd S N Lo Rt
  exact lv_dup_x1 C.1 C.2.1 hd h1 h2 (k l p e RR s m args below meth c H locs cells slots D cT ad A QQ lsr C K Wd S N Lo Rt)
theorem Ex_dup2 (pc' : Nat) {va vb : Value} (hd : decode M.2.1 pc = .ok (.dup2, 1)) (h1 : va.category = 1) (h2 : vb.category = 1) (hp : pc + 1 = pc') (k : Ex d kc ks M n sh R L I pc' ls (va :: vb :: va :: vb :: st) Q) : Ex d kc ks M n sh R L I pc ls (va :: vb :: st) Q := by
  subst hp
  intro l p e RR s m args below meth c H locs cells slots D cT ad A QQ lsr C K Wd S N Lo Rt
  exact lv_dup2_11 C.1 C.2.1 hd h1 h2 (k l p e RR s m args below meth c H locs cells slots D cT ad A QQ lsr C K Wd S N Lo Rt)
theorem Ex_if_eq (pc' tgt : Nat) {x : Int32} {off : Int} (hd : decode M.2.1 pc = .ok (.ifCond .eq off, 3)) (ht : (pc : Int) + off = (tgt : Int)) (hp : pc + 3 = pc') (kt : x = 0 → Ex d kc ks M n sh R L I tgt ls st Q) (kf : ¬ x = 0 → Ex d kc ks M n sh R L I pc' ls st Q) : Ex d kc ks M n sh R L I pc ls (.int x :: st) Q := by
  subst hp
  intro l p e RR s m args below meth c H locs cells slots D cT ad A QQ lsr C K Wd S N Lo Rt
  exact lv_if_eq C.1 C.2.1 hd ht (fun cc => kt cc l p e RR s m args below meth c H locs cells slots D cT ad A QQ lsr C K Wd S N Lo Rt) (fun cc => kf cc l p e RR s m args below meth c H locs cells slots D cT ad A QQ lsr C K Wd S N Lo Rt)
theorem Ex_icmp_eq (pc' tgt : Nat) {x y : Int32} {off : Int} (hd : decode M.2.1 pc = .ok (.if_icmp .eq off, 3)) (ht : (pc : Int) + off = (tgt : Int)) (hp : pc + 3 = pc') (kt : x = y → Ex d kc ks M n sh R L I tgt ls st Q) (kf : ¬ x = y → Ex d kc ks M n sh R L I pc' ls st Q) : Ex d kc ks M n sh R L I pc ls (.int y :: .int x :: st) Q := by
  subst hp
  intro l p e RR s m args below meth c H locs cells slots D cT ad A QQ lsr C K Wd S N Lo Rt
  exact lv_icmp_eq C.1 C.2.1 hd ht (fun cc => kt cc l p e RR s m args below meth c H locs cells slots D cT ad A QQ lsr C K Wd S N Lo Rt) (fun cc => kf cc l p e RR s m args below meth c H locs cells slots D cT ad A QQ lsr C K Wd S N Lo Rt)
theorem Ex_if_ne (pc' tgt : Nat) {x : Int32} {off : Int} (hd : decode M.2.1 pc = .ok (.ifCond .ne off, 3)) (ht : (pc : Int) + off = (tgt : Int)) (hp : pc + 3 = pc') (kt : ¬ x = 0 → Ex d kc ks M n sh R L I tgt ls st Q) (kf : x = 0 → Ex d kc ks M n sh R L I pc' ls st Q) : Ex d kc ks M n sh R L I pc ls (.int x :: st) Q := by
  subst hp
  intro l p e RR s m args below meth c H locs cells slots D cT ad A QQ lsr C K Wd S N Lo Rt
  exact lv_if_ne C.1 C.2.1 hd ht (fun cc => kt cc l p e RR s m args below meth c H locs cells slots D cT ad A QQ lsr C K Wd S N Lo Rt) (fun cc => kf cc l p e RR s m args below meth c H locs cells slots D cT ad A QQ lsr C K Wd S N Lo Rt)
theorem Ex_icmp_ne (pc' tgt : Nat) {x y : Int32} {off : Int} (hd : decode M.2.1 pc = .ok (.if_icmp .ne off, 3)) (ht : (pc : Int) + off = (tgt : Int)) (hp : pc + 3 = pc') (kt : ¬ x = y → Ex d kc ks M n sh R L I tgt ls st Q) (kf : x = y → Ex d kc ks M n sh R L I pc' ls st Q) : Ex d kc ks M n sh R L I pc ls (.int y :: .int x :: st) Q := by
  subst hp
  intro l p e RR s m args below meth c H locs cells slots D cT ad A QQ lsr C K Wd S N Lo Rt
  exact lv_icmp_ne C.1 C.2.1 hd ht (fun cc => kt cc l p e RR s m args below meth c H locs cells slots D cT ad A QQ lsr C K Wd S N Lo Rt) (fun cc => kf cc l p e RR s m args below meth c H locs cells slots D cT ad A QQ lsr C K Wd S N Lo Rt)
theorem Ex_if_lt (pc' tgt : Nat) {x : Int32} {off : Int} (hd : decode M.2.1 pc = .ok (.ifCond .lt off, 3)) (ht : (pc : Int) + off = (tgt : Int)) (hp : pc + 3 = pc') (kt : x < 0 → Ex d kc ks M n sh R L I tgt ls st Q) (kf : ¬ x < 0 → Ex d kc ks M n sh R L I pc' ls st Q) : Ex d kc ks M n sh R L I pc ls (.int x :: st) Q := by
  subst hp
  intro l p e RR s m args below meth c H locs cells slots D cT ad A QQ lsr C K Wd S N Lo Rt
  exact lv_if_lt C.1 C.2.1 hd ht (fun cc => kt cc l p e RR s m args below meth c H locs cells slots D cT ad A QQ lsr C K Wd S N Lo Rt) (fun cc => kf cc l p e RR s m args below meth c H locs cells slots D cT ad A QQ lsr C K Wd S N Lo Rt)
theorem Ex_icmp_lt (pc' tgt : Nat) {x y : Int32} {off : Int} (hd : decode M.2.1 pc = .ok (.if_icmp .lt off, 3)) (ht : (pc : Int) + off = (tgt : Int)) (hp : pc + 3 = pc') (kt : x < y → Ex d kc ks M n sh R L I tgt ls st Q) (kf : ¬ x < y → Ex d kc ks M n sh R L I pc' ls st Q) : Ex d kc ks M n sh R L I pc ls (.int y :: .int x :: st) Q := by
  subst hp
  intro l p e RR s m args below meth c H locs cells slots D cT ad A QQ lsr C K Wd S N Lo Rt
  exact lv_icmp_lt C.1 C.2.1 hd ht (fun cc => kt cc l p e RR s m args below meth c H locs cells slots D cT ad A QQ lsr C K Wd S N Lo Rt) (fun cc => kf cc l p e RR s m args below meth c H locs cells slots D cT ad A QQ lsr C K Wd S N Lo Rt)
theorem Ex_if_ge (pc' tgt : Nat) {x : Int32} {off : Int} (hd : decode M.2.1 pc = .ok (.ifCond .ge off, 3)) (ht : (pc : Int) + off = (tgt : Int)) (hp : pc + 3 = pc') (kt : 0 ≤ x → Ex d kc ks M n sh R L I tgt ls st Q) (kf : ¬ 0 ≤ x → Ex d kc ks M n sh R L I pc' ls st Q) : Ex d kc ks M n sh R L I pc ls (.int x :: st) Q := by
  subst hp
  intro l p e RR s m args below meth c H locs cells slots D cT ad A QQ lsr C K Wd S N Lo Rt
  exact lv_if_ge C.1 C.2.1 hd ht (fun cc => kt cc l p e RR s m args below meth c H locs cells slots D cT ad A QQ lsr C K Wd S N Lo Rt) (fun cc => kf cc l p e RR s m args below meth c H locs cells slots D cT ad A QQ lsr C K Wd S N Lo Rt)
theorem Ex_icmp_ge (pc' tgt : Nat) {x y : Int32} {off : Int} (hd : decode M.2.1 pc = .ok (.if_icmp .ge off, 3)) (ht : (pc : Int) + off = (tgt : Int)) (hp : pc + 3 = pc') (kt : y ≤ x → Ex d kc ks M n sh R L I tgt ls st Q) (kf : ¬ y ≤ x → Ex d kc ks M n sh R L I pc' ls st Q) : Ex d kc ks M n sh R L I pc ls (.int y :: .int x :: st) Q := by
  subst hp
  intro l p e RR s m args below meth c H locs cells slots D cT ad A QQ lsr C K Wd S N Lo Rt
  exact lv_icmp_ge C.1 C.2.1 hd ht (fun cc => kt cc l p e RR s m args below meth c H locs cells slots D cT ad A QQ lsr C K Wd S N Lo Rt) (fun cc => kf cc l p e RR s m args below meth c H locs cells slots D cT ad A QQ lsr C K Wd S N Lo Rt)
theorem Ex_if_gt (pc' tgt : Nat) {x : Int32} {off : Int} (hd : decode M.2.1 pc = .ok (.ifCond .gt off, 3)) (ht : (pc : Int) + off = (tgt : Int)) (hp : pc + 3 = pc') (kt : 0 < x → Ex d kc ks M n sh R L I tgt ls st Q) (kf : ¬ 0 < x → Ex d kc ks M n sh R L I pc' ls st Q) : Ex d kc ks M n sh R L I pc ls (.int x :: st) Q := by
  subst hp
  intro l p e RR s m args below meth c H locs cells slots D cT ad A QQ lsr C K Wd S N Lo Rt
  exact lv_if_gt C.1 C.2.1 hd ht (fun cc => kt cc l p e RR s m args below meth c H locs cells slots D cT ad A QQ lsr C K Wd S N Lo Rt) (fun cc => kf cc l p e RR s m args below meth c H locs cells slots D cT ad A QQ lsr C K Wd S N Lo Rt)
theorem Ex_icmp_gt (pc' tgt : Nat) {x y : Int32} {off : Int} (hd : decode M.2.1 pc = .ok (.if_icmp .gt off, 3)) (ht : (pc : Int) + off = (tgt : Int)) (hp : pc + 3 = pc') (kt : y < x → Ex d kc ks M n sh R L I tgt ls st Q) (kf : ¬ y < x → Ex d kc ks M n sh R L I pc' ls st Q) : Ex d kc ks M n sh R L I pc ls (.int y :: .int x :: st) Q := by
  subst hp
  intro l p e RR s m args below meth c H locs cells slots D cT ad A QQ lsr C K Wd S N Lo Rt
  exact lv_icmp_gt C.1 C.2.1 hd ht (fun cc => kt cc l p e RR s m args below meth c H locs cells slots D cT ad A QQ lsr C K Wd S N Lo Rt) (fun cc => kf cc l p e RR s m args below meth c H locs cells slots D cT ad A QQ lsr C K Wd S N Lo Rt)
theorem Ex_if_le (pc' tgt : Nat) {x : Int32} {off : Int} (hd : decode M.2.1 pc = .ok (.ifCond .le off, 3)) (ht : (pc : Int) + off = (tgt : Int)) (hp : pc + 3 = pc') (kt : x ≤ 0 → Ex d kc ks M n sh R L I tgt ls st Q) (kf : ¬ x ≤ 0 → Ex d kc ks M n sh R L I pc' ls st Q) : Ex d kc ks M n sh R L I pc ls (.int x :: st) Q := by
  subst hp
  intro l p e RR s m args below meth c H locs cells slots D cT ad A QQ lsr C K Wd S N Lo Rt
  exact lv_if_le C.1 C.2.1 hd ht (fun cc => kt cc l p e RR s m args below meth c H locs cells slots D cT ad A QQ lsr C K Wd S N Lo Rt) (fun cc => kf cc l p e RR s m args below meth c H locs cells slots D cT ad A QQ lsr C K Wd S N Lo Rt)
theorem Ex_icmp_le (pc' tgt : Nat) {x y : Int32} {off : Int} (hd : decode M.2.1 pc = .ok (.if_icmp .le off, 3)) (ht : (pc : Int) + off = (tgt : Int)) (hp : pc + 3 = pc') (kt : x ≤ y → Ex d kc ks M n sh R L I tgt ls st Q) (kf : ¬ x ≤ y → Ex d kc ks M n sh R L I pc' ls st Q) : Ex d kc ks M n sh R L I pc ls (.int y :: .int x :: st) Q := by
  subst hp
  intro l p e RR s m args below meth c H locs cells slots D cT ad A QQ lsr C K Wd S N Lo Rt
  exact lv_icmp_le C.1 C.2.1 hd ht (fun cc => kt cc l p e RR s m args below meth c H locs cells slots D cT ad A QQ lsr C K Wd S N Lo Rt) (fun cc => kf cc l p e RR s m args below meth c H locs cells slots D cT ad A QQ lsr C K Wd S N Lo Rt)
theorem Ex_goto (tgt : Nat) {off : Int} (hd : decode M.2.1 pc = .ok (.goto off, 3)) (ht : (pc : Int) + off = (tgt : Int)) (k : Ex d kc ks M n sh R L I tgt ls st Q) : Ex d kc ks M n sh R L I pc ls st Q := by
  intro l p e RR s m args below meth c H locs cells slots D cT ad A QQ lsr C K Wd S N Lo Rt
  exact lv_goto C.1 C.2.1 hd ht (k l p e RR s m args below meth c H locs cells slots D cT ad A QQ lsr C K Wd S N Lo Rt)
theorem Ex_tableIn (tgt : Nat) {x : Int32} {dflt lo hi off : Int} {offs : Array Int} {len : Nat} (hd : decode M.2.1 pc = .ok (.tableswitch dflt lo hi offs, len)) (h1 : ¬ x.toInt < lo) (h2 : ¬ hi < x.toInt) (ho : offs[(x.toInt - lo).toNat]? = some off) (ht : (pc : Int) + off = (tgt : Int)) (k : Ex d kc ks M n sh R L I tgt ls st Q) : Ex d kc ks M n sh R L I pc ls (.int x :: st) Q := by
  intro l p e RR s m args below meth c H locs cells slots D cT ad A QQ lsr C K Wd S N Lo Rt
  exact lv_tableIn C.1 C.2.1 hd h1 h2 ho ht (k l p e RR s m args below meth c H locs cells slots D cT ad A QQ lsr C K Wd S N Lo Rt)
theorem Ex_tableOut (tgt : Nat) {x : Int32} {dflt lo hi : Int} {offs : Array Int} {len : Nat} (hd : decode M.2.1 pc = .ok (.tableswitch dflt lo hi offs, len)) (h : x.toInt < lo ∨ hi < x.toInt) (ht : (pc : Int) + dflt = (tgt : Int)) (k : Ex d kc ks M n sh R L I tgt ls st Q) : Ex d kc ks M n sh R L I pc ls (.int x :: st) Q := by
  intro l p e RR s m args below meth c H locs cells slots D cT ad A QQ lsr C K Wd S N Lo Rt
  exact lv_tableOut C.1 C.2.1 hd h ht (k l p e RR s m args below meth c H locs cells slots D cT ad A QQ lsr C K Wd S N Lo Rt)
theorem Ex_ldc (pc' : Nat) {i : Nat} {v : Int32} (hd : decode M.2.1 pc = .ok (.ldc i, 2)) (hw : Cond.constant M.1.cls i v ∈ lw_good) (hp : pc + 2 = pc') (k : Ex d kc ks M n sh R L I pc' ls (.int v :: st) Q) : Ex d kc ks M n sh R L I pc ls st Q := by
  subst hp
  intro l p e RR s m args below meth c H locs cells slots D cT ad A QQ lsr C K Wd S N Lo Rt
  exact lv_ldc C.1 C.2.1 C.2.2.2.1 (C.2.2.2.2.1 _ hw) hd (k l p e RR s m args below meth c H locs cells slots D cT ad A QQ lsr C K Wd S N Lo Rt)
theorem Ex_ldc2 (pc' : Nat) {i : Nat} {v : Int64} (hd : decode M.2.1 pc = .ok (.ldc2_w i, 3)) (hw : Cond.constantLong M.1.cls i v ∈ lw_good) (hp : pc + 3 = pc') (k : Ex d kc ks M n sh R L I pc' ls (.long v :: st) Q) : Ex d kc ks M n sh R L I pc ls st Q := by
  subst hp
  intro l p e RR s m args below meth c H locs cells slots D cT ad A QQ lsr C K Wd S N Lo Rt
  exact lv_ldc2 C.1 C.2.1 C.2.2.2.1 (C.2.2.2.2.1 _ hw) hd (k l p e RR s m args below meth c H locs cells slots D cT ad A QQ lsr C K Wd S N Lo Rt)
end EX
