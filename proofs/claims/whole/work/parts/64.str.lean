section EXS
variable {d kc ks kc1 ks1 n pc sq sv : Nat} {M M' : xM} {sh : xSh} {R : xR} {L : xL} {I : xI} {ls : List (Option Value)} {st rest : List Value} {Q Q' : xQ}
/-- as Ex, the String constant lying at sq, its bytes at sv -/
def ExS (sq sv : Nat) (d kc ks : Nat) (M : xM) (n : Nat) (sh : xSh) (R : xR) (L : xL) (I : xI) (pc : Nat) (ls : List (Option Value)) (st : List Value) (Q : xQ) : Prop :=
  ∀ (l : Launch) (p : Program) (e : Env) (RR : Room) (s : State) (m : MethodId) (args : Array Value) (below : List Frame) (meth : Method) (c : Code) (H : Heap) (locs : List Loc) (cells slots : Nat) (D : va_G) (cT : FieldType → ClassId) (ad : (Nat → Nat) × (Nat → Nat)) (A : Nat → Prop) (QQ : State → Prop) (lsr : Array Slot),
    xCx d kc ks M l p RR s m args meth c cells slots A → xKs D cT ad A s s.heap → (ad.1 0 = sq ∧ ad.2 0 = sv) → xWd D cT A H sh R L I → va_S A s.heap H locs → xNn n s cells sh → xLs lsr M.2.2.1 ls →
    xRet M Q l p e RR s m args below meth c D cT A QQ (cells + kc) (slots + ks) →
    W p l e RR s m args below meth c H locs cells slots QQ (F0 m pc lsr st)
theorem Es_w (h : Ex d kc ks M n sh R L I pc ls st Q) : ExS sq sv d kc ks M n sh R L I pc ls st Q := by
  intro l p e RR s m args below meth c H locs cells slots D cT ad A QQ lsr C K E Wd S N Lo Rt
  exact h l p e RR s m args below meth c H locs cells slots D cT ad A QQ lsr C K Wd S N Lo Rt
theorem Ex_S (h : ∀ sq sv, ExS sq sv d kc ks M n sh R L I pc ls st Q) : Ex d kc ks M n sh R L I pc ls st Q := by
  intro l p e RR s m args below meth c H locs cells slots D cT ad A QQ lsr C K Wd S N Lo Rt
  exact h (ad.1 0) (ad.2 0) l p e RR s m args below meth c H locs cells slots D cT ad A QQ lsr C K ⟨rfl, rfl⟩ Wd S N Lo Rt
theorem Es_iconst (pc' : Nat) {i : Int} {v : Int32} (hd : decode M.2.1 pc = .ok (.iconst i, 1)) (hv : Int32.ofInt i = v) (hp : pc + 1 = pc') (k : ExS sq sv d kc ks M n sh R L I pc' ls (.int v :: st) Q) : ExS sq sv d kc ks M n sh R L I pc ls st Q := by
  subst hp
  intro l p e RR s m args below meth c H locs cells slots D cT ad A QQ lsr C K E Wd S N Lo Rt
  exact lv_iconst C.1 C.2.1 hd hv (k l p e RR s m args below meth c H locs cells slots D cT ad A QQ lsr C K E Wd S N Lo Rt)
theorem Es_sipush (pc' : Nat) {i : Int} {v : Int32} (hd : decode M.2.1 pc = .ok (.sipush i, 3)) (hv : (Int16.ofInt i).toInt32 = v) (hp : pc + 3 = pc') (k : ExS sq sv d kc ks M n sh R L I pc' ls (.int v :: st) Q) : ExS sq sv d kc ks M n sh R L I pc ls st Q := by
  subst hp
  intro l p e RR s m args below meth c H locs cells slots D cT ad A QQ lsr C K E Wd S N Lo Rt
  exact lv_sipush C.1 C.2.1 hd hv (k l p e RR s m args below meth c H locs cells slots D cT ad A QQ lsr C K E Wd S N Lo Rt)
theorem Es_iload_n (pc' : Nat) {j : Fin 4} {i : Nat} {x : Int32} (hd : decode M.2.1 pc = .ok (.iload_n j, 1)) (hi : (j : Nat) = i) (hl : ls[i]? = some (some (.int x))) (hp : pc + 1 = pc') (k : ExS sq sv d kc ks M n sh R L I pc' ls (.int x :: st) Q) : ExS sq sv d kc ks M n sh R L I pc ls st Q := by
  subst hp
  intro l p e RR s m args below meth c H locs cells slots D cT ad A QQ lsr C K E Wd S N Lo Rt
  exact lv_iload_n C.1 C.2.1 hd hi (xLs_get Lo hl) (k l p e RR s m args below meth c H locs cells slots D cT ad A QQ lsr C K E Wd S N Lo Rt)
theorem Es_iload (pc' : Nat) {i : Nat} {x : Int32} (hd : decode M.2.1 pc = .ok (.iload i, 2)) (hl : ls[i]? = some (some (.int x))) (hp : pc + 2 = pc') (k : ExS sq sv d kc ks M n sh R L I pc' ls (.int x :: st) Q) : ExS sq sv d kc ks M n sh R L I pc ls st Q := by
  subst hp
  intro l p e RR s m args below meth c H locs cells slots D cT ad A QQ lsr C K E Wd S N Lo Rt
  exact lv_iload C.1 C.2.1 hd (xLs_get Lo hl) (k l p e RR s m args below meth c H locs cells slots D cT ad A QQ lsr C K E Wd S N Lo Rt)
theorem Es_aload_n (pc' : Nat) {j : Fin 4} {i : Nat} {x : Nat} (hd : decode M.2.1 pc = .ok (.aload_n j, 1)) (hi : (j : Nat) = i) (hl : ls[i]? = some (some (.ref x))) (hp : pc + 1 = pc') (k : ExS sq sv d kc ks M n sh R L I pc' ls (.ref x :: st) Q) : ExS sq sv d kc ks M n sh R L I pc ls st Q := by
  subst hp
  intro l p e RR s m args below meth c H locs cells slots D cT ad A QQ lsr C K E Wd S N Lo Rt
  exact lv_aload_n C.1 C.2.1 hd hi (xLs_get Lo hl) (k l p e RR s m args below meth c H locs cells slots D cT ad A QQ lsr C K E Wd S N Lo Rt)
theorem Es_istore_n (pc' : Nat) {ls' : List (Option Value)} {j : Fin 4} {i : Nat} {x : Int32} (hd : decode M.2.1 pc = .ok (.istore_n j, 1)) (hi : (j : Nat) = i) (hn : i < M.2.2.1) (hok : xok ls i = true) (hl : (ls.set i (some (.int x))) = ls') (hp : pc + 1 = pc') (k : ExS sq sv d kc ks M n sh R L I pc' ls' st Q) : ExS sq sv d kc ks M n sh R L I pc ls (.int x :: st) Q := by
  subst hp
  subst hl
  intro l p e RR s m args below meth c H locs cells slots D cT ad A QQ lsr C K E Wd S N Lo Rt
  exact lv_istore_n C.1 C.2.1 hd hi Lo hn rfl (fun lsr' hh => k l p e RR s m args below meth c H locs cells slots D cT ad A QQ lsr' C K E Wd S N (xLs_set1 hok hh) Rt)
theorem Es_istore (pc' : Nat) {ls' : List (Option Value)} {i : Nat} {x : Int32} (hd : decode M.2.1 pc = .ok (.istore i, 2)) (hn : i < M.2.2.1) (hok : xok ls i = true) (hl : (ls.set i (some (.int x))) = ls') (hp : pc + 2 = pc') (k : ExS sq sv d kc ks M n sh R L I pc' ls' st Q) : ExS sq sv d kc ks M n sh R L I pc ls (.int x :: st) Q := by
  subst hp
  subst hl
  intro l p e RR s m args below meth c H locs cells slots D cT ad A QQ lsr C K E Wd S N Lo Rt
  exact lv_istore C.1 C.2.1 hd Lo hn rfl (fun lsr' hh => k l p e RR s m args below meth c H locs cells slots D cT ad A QQ lsr' C K E Wd S N (xLs_set1 hok hh) Rt)
theorem Es_iinc (pc' : Nat) {ls' : List (Option Value)} {i : Nat} {z : Int} {x v : Int32} (hd : decode M.2.1 pc = .ok (.iinc i z, 3)) (hx : ls[i]? = some (some (.int x))) (hv : x + Int32.ofInt z = v) (hn : i < M.2.2.1) (hok : xok ls i = true) (hl : ls.set i (some (.int v)) = ls') (hp : pc + 3 = pc') (k : ExS sq sv d kc ks M n sh R L I pc' ls' st Q) : ExS sq sv d kc ks M n sh R L I pc ls st Q := by
  subst hp
  subst hl
  intro l p e RR s m args below meth c H locs cells slots D cT ad A QQ lsr C K E Wd S N Lo Rt
  obtain ⟨q, hq⟩ := List.getElem?_of_mem ((xpr_mem ls 0 i (.int x)).mpr ⟨i, by omega, hx⟩)
  exact lv_iinc C.1 C.2.1 hd Lo hq hv hn rfl (fun lsr' hh => k l p e RR s m args below meth c H locs cells slots D cT ad A QQ lsr' C K E Wd S N (xLs_set1 hok hh) Rt)
theorem Es_ishr (pc' : Nat) {x y : Int32} (hd : decode M.2.1 pc = .ok (.ishr, 1)) (hp : pc + 1 = pc') (k : ExS sq sv d kc ks M n sh R L I pc' ls (.int (x >>> (y &&& 31)) :: st) Q) : ExS sq sv d kc ks M n sh R L I pc ls (.int y :: .int x :: st) Q := by
  subst hp
  intro l p e RR s m args below meth c H locs cells slots D cT ad A QQ lsr C K E Wd S N Lo Rt
  exact lv_ishr C.1 C.2.1 hd (k l p e RR s m args below meth c H locs cells slots D cT ad A QQ lsr C K E Wd S N Lo Rt)
theorem Es_l2i (pc' : Nat) {x : Int64} (hd : decode M.2.1 pc = .ok (.l2i, 1)) (hp : pc + 1 = pc') (k : ExS sq sv d kc ks M n sh R L I pc' ls (.int x.toInt32 :: st) Q) : ExS sq sv d kc ks M n sh R L I pc ls (.long x :: st) Q := by
  subst hp
  intro l p e RR s m args below meth c H locs cells slots D cT ad A QQ lsr C K E Wd S N Lo Rt
  exact lv_l2i C.1 C.2.1 hd rfl (k l p e RR s m args below meth c H locs cells slots D cT ad A QQ lsr C K E Wd S N Lo Rt)
theorem Es_i2c (pc' : Nat) {x : Int32} (hd : decode M.2.1 pc = .ok (.i2c, 1)) (hp : pc + 1 = pc') (k : ExS sq sv d kc ks M n sh R L I pc' ls (.int (x.toUInt32 % 65536).toInt32 :: st) Q) : ExS sq sv d kc ks M n sh R L I pc ls (.int x :: st) Q := by
  subst hp
  intro l p e RR s m args below meth c H locs cells slots D cT ad A QQ lsr C K E Wd S N Lo Rt
  exact lv_i2c C.1 C.2.1 hd rfl (k l p e RR s m args below meth c H locs cells slots D cT ad A QQ lsr C K E Wd S N Lo Rt)
theorem Es_i2b (pc' : Nat) {x : Int32} (hd : decode M.2.1 pc = .ok (.i2b, 1)) (hp : pc + 1 = pc') (k : ExS sq sv d kc ks M n sh R L I pc' ls (.int x.toInt8.toInt32 :: st) Q) : ExS sq sv d kc ks M n sh R L I pc ls (.int x :: st) Q := by
  subst hp
  intro l p e RR s m args below meth c H locs cells slots D cT ad A QQ lsr C K E Wd S N Lo Rt
  exact lv_i2b C.1 C.2.1 hd rfl (k l p e RR s m args below meth c H locs cells slots D cT ad A QQ lsr C K E Wd S N Lo Rt)
theorem Es_if_eq (pc' tgt : Nat) {x : Int32} {off : Int} (hd : decode M.2.1 pc = .ok (.ifCond .eq off, 3)) (ht : (pc : Int) + off = (tgt : Int)) (hp : pc + 3 = pc') (kt : x = 0 → ExS sq sv d kc ks M n sh R L I tgt ls st Q) (kf : ¬ x = 0 → ExS sq sv d kc ks M n sh R L I pc' ls st Q) : ExS sq sv d kc ks M n sh R L I pc ls (.int x :: st) Q := by
  subst hp
  intro l p e RR s m args below meth c H locs cells slots D cT ad A QQ lsr C K E Wd S N Lo Rt
  exact lv_if_eq C.1 C.2.1 hd ht (fun cc => kt cc l p e RR s m args below meth c H locs cells slots D cT ad A QQ lsr C K E Wd S N Lo Rt) (fun cc => kf cc l p e RR s m args below meth c H locs cells slots D cT ad A QQ lsr C K E Wd S N Lo Rt)
theorem Es_if_ne (pc' tgt : Nat) {x : Int32} {off : Int} (hd : decode M.2.1 pc = .ok (.ifCond .ne off, 3)) (ht : (pc : Int) + off = (tgt : Int)) (hp : pc + 3 = pc') (kt : ¬ x = 0 → ExS sq sv d kc ks M n sh R L I tgt ls st Q) (kf : x = 0 → ExS sq sv d kc ks M n sh R L I pc' ls st Q) : ExS sq sv d kc ks M n sh R L I pc ls (.int x :: st) Q := by
  subst hp
  intro l p e RR s m args below meth c H locs cells slots D cT ad A QQ lsr C K E Wd S N Lo Rt
  exact lv_if_ne C.1 C.2.1 hd ht (fun cc => kt cc l p e RR s m args below meth c H locs cells slots D cT ad A QQ lsr C K E Wd S N Lo Rt) (fun cc => kf cc l p e RR s m args below meth c H locs cells slots D cT ad A QQ lsr C K E Wd S N Lo Rt)
theorem Es_if_lt (pc' tgt : Nat) {x : Int32} {off : Int} (hd : decode M.2.1 pc = .ok (.ifCond .lt off, 3)) (ht : (pc : Int) + off = (tgt : Int)) (hp : pc + 3 = pc') (kt : x < 0 → ExS sq sv d kc ks M n sh R L I tgt ls st Q) (kf : ¬ x < 0 → ExS sq sv d kc ks M n sh R L I pc' ls st Q) : ExS sq sv d kc ks M n sh R L I pc ls (.int x :: st) Q := by
  subst hp
  intro l p e RR s m args below meth c H locs cells slots D cT ad A QQ lsr C K E Wd S N Lo Rt
  exact lv_if_lt C.1 C.2.1 hd ht (fun cc => kt cc l p e RR s m args below meth c H locs cells slots D cT ad A QQ lsr C K E Wd S N Lo Rt) (fun cc => kf cc l p e RR s m args below meth c H locs cells slots D cT ad A QQ lsr C K E Wd S N Lo Rt)
theorem Es_icmp_lt (pc' tgt : Nat) {x y : Int32} {off : Int} (hd : decode M.2.1 pc = .ok (.if_icmp .lt off, 3)) (ht : (pc : Int) + off = (tgt : Int)) (hp : pc + 3 = pc') (kt : x < y → ExS sq sv d kc ks M n sh R L I tgt ls st Q) (kf : ¬ x < y → ExS sq sv d kc ks M n sh R L I pc' ls st Q) : ExS sq sv d kc ks M n sh R L I pc ls (.int y :: .int x :: st) Q := by
  subst hp
  intro l p e RR s m args below meth c H locs cells slots D cT ad A QQ lsr C K E Wd S N Lo Rt
  exact lv_icmp_lt C.1 C.2.1 hd ht (fun cc => kt cc l p e RR s m args below meth c H locs cells slots D cT ad A QQ lsr C K E Wd S N Lo Rt) (fun cc => kf cc l p e RR s m args below meth c H locs cells slots D cT ad A QQ lsr C K E Wd S N Lo Rt)
theorem Es_icmp_ge (pc' tgt : Nat) {x y : Int32} {off : Int} (hd : decode M.2.1 pc = .ok (.if_icmp .ge off, 3)) (ht : (pc : Int) + off = (tgt : Int)) (hp : pc + 3 = pc') (kt : y ≤ x → ExS sq sv d kc ks M n sh R L I tgt ls st Q) (kf : ¬ y ≤ x → ExS sq sv d kc ks M n sh R L I pc' ls st Q) : ExS sq sv d kc ks M n sh R L I pc ls (.int y :: .int x :: st) Q := by
  subst hp
  intro l p e RR s m args below meth c H locs cells slots D cT ad A QQ lsr C K E Wd S N Lo Rt
  exact lv_icmp_ge C.1 C.2.1 hd ht (fun cc => kt cc l p e RR s m args below meth c H locs cells slots D cT ad A QQ lsr C K E Wd S N Lo Rt) (fun cc => kf cc l p e RR s m args below meth c H locs cells slots D cT ad A QQ lsr C K E Wd S N Lo Rt)
theorem Es_icmp_gt (pc' tgt : Nat) {x y : Int32} {off : Int} (hd : decode M.2.1 pc = .ok (.if_icmp .gt off, 3)) (ht : (pc : Int) + off = (tgt : Int)) (hp : pc + 3 = pc') (kt : y < x → ExS sq sv d kc ks M n sh R L I tgt ls st Q) (kf : ¬ y < x → ExS sq sv d kc ks M n sh R L I pc' ls st Q) : ExS sq sv d kc ks M n sh R L I pc ls (.int y :: .int x :: st) Q := by
  subst hp
  intro l p e RR s m args below meth c H locs cells slots D cT ad A QQ lsr C K E Wd S N Lo Rt
  exact lv_icmp_gt C.1 C.2.1 hd ht (fun cc => kt cc l p e RR s m args below meth c H locs cells slots D cT ad A QQ lsr C K E Wd S N Lo Rt) (fun cc => kf cc l p e RR s m args below meth c H locs cells slots D cT ad A QQ lsr C K E Wd S N Lo Rt)
theorem Es_icmp_ne (pc' tgt : Nat) {x y : Int32} {off : Int} (hd : decode M.2.1 pc = .ok (.if_icmp .ne off, 3)) (ht : (pc : Int) + off = (tgt : Int)) (hp : pc + 3 = pc') (kt : ¬ x = y → ExS sq sv d kc ks M n sh R L I tgt ls st Q) (kf : x = y → ExS sq sv d kc ks M n sh R L I pc' ls st Q) : ExS sq sv d kc ks M n sh R L I pc ls (.int y :: .int x :: st) Q := by
  subst hp
  intro l p e RR s m args below meth c H locs cells slots D cT ad A QQ lsr C K E Wd S N Lo Rt
  exact lv_icmp_ne C.1 C.2.1 hd ht (fun cc => kt cc l p e RR s m args below meth c H locs cells slots D cT ad A QQ lsr C K E Wd S N Lo Rt) (fun cc => kf cc l p e RR s m args below meth c H locs cells slots D cT ad A QQ lsr C K E Wd S N Lo Rt)
theorem Es_goto (tgt : Nat) {off : Int} (hd : decode M.2.1 pc = .ok (.goto off, 3)) (ht : (pc : Int) + off = (tgt : Int)) (k : ExS sq sv d kc ks M n sh R L I tgt ls st Q) : ExS sq sv d kc ks M n sh R L I pc ls st Q := by
  intro l p e RR s m args below meth c H locs cells slots D cT ad A QQ lsr C K E Wd S N Lo Rt
  exact lv_goto C.1 C.2.1 hd ht (k l p e RR s m args below meth c H locs cells slots D cT ad A QQ lsr C K E Wd S N Lo Rt)
theorem Es_iret {v : Int32} {ty : FieldType} (hd : decode M.2.1 pc = .ok (.ireturn, 1)) (hr : M.2.2.2 = some ty) (hv : narrow ty (.int v) = .int v) (hn : n = 0 ∨ kc = 0) (hQ : Q (some (.int v)) n sh R L I) : ExS sq sv d kc ks M n sh R L I pc ls [.int v] Q := by
  intro l p e RR s m args below meth c H locs cells slots D cT ad A QQ lsr C K E Wd S N Lo Rt
  exact Rt (some (.int v)) n sh R L I H locs cells slots pc lsr hQ Wd S (by omega) (by omega) (fun h => ⟨by rcases hn with h0 | h0 <;> omega, N h⟩) ⟨hd, ty, hr, hv⟩
theorem Es_get (pc' : Nat) {i ci k a : Nat} {ty : FieldType} {v : Value} (hd : decode M.2.1 pc = .ok (.getfield i, 3)) (hf : xFd M.1.cls i ci k ty) (hs : sh a = some (.inl ci)) (hv : xfv R L I a k ty = v) (hp : pc + 3 = pc') (kk : ExS sq sv d kc ks M n sh R L I pc' ls (v :: st) Q) : ExS sq sv d kc ks M n sh R L I pc ls (.ref a :: st) Q := by
  subst hp
  intro l p e RR s m args below meth c H locs cells slots D cT ad A QQ lsr C K E Wd S N Lo Rt
  obtain ⟨Ls, h1, hP, hD⟩ := id Wd
  obtain ⟨f1, f2, f3, f4, f5⟩ := hf
  obtain ⟨q0, hq⟩ := xpl_get (f := xcell cT sh R L I) ((h1 a).mpr (by rw [hs]; simp))
  rw [xcell_obj hs] at hq
  exact va_get C.1 C.2.1 C.2.2.2.2.1 f3 C.2.2.2.1 K.1 hP q0 hq (xC_at f1) k f2 (C.2.2.2.2.1 _ f4) (fun _ h => h) (v := v) (by rw [xfs_at f2, f5, hv]) hd (kk l p e RR s m args below meth c H locs cells slots D cT ad A QQ lsr C K E Wd S N Lo Rt)
theorem Es_getL (pc' : Nat) {i ci k a : Nat} (hd : decode M.2.1 pc = .ok (.getfield i, 3)) (hf : xFd M.1.cls i ci k .long) (hs : sh a = some (.inl ci)) (hp : pc + 3 = pc') (kk : ExS sq sv d kc ks M n sh R L I pc' ls (.long (L a k) :: st) Q) : ExS sq sv d kc ks M n sh R L I pc ls (.ref a :: st) Q := Es_get pc' hd hf hs rfl hp kk
theorem Es_gL (pc' : Nat) {i ci k a : Nat} (v : Int64) (hd : decode M.2.1 pc = .ok (.getfield i, 3)) (hf : xFd M.1.cls i ci k .long) (hs : sh a = some (.inl ci)) (hv : L a k = v) (hp : pc + 3 = pc') (kk : ExS sq sv d kc ks M n sh R L I pc' ls (.long v :: st) Q) : ExS sq sv d kc ks M n sh R L I pc ls (.ref a :: st) Q := Es_get pc' hd hf hs (congrArg Value.long hv) hp kk
theorem Es_max (pc' : Nat) {i : Nat} {x y : Int32} (hd : decode M.2.1 pc = .ok (.invokestatic i, 3)) (hl : Cond.methodLink M.1.cls i Lib.Math.max.name ∈ lw_good) (hcat : (st.map fun v => v.category).sum ≤ 8) (hp : pc + 3 = pc') (k : ExS sq sv (d + 1) kc ks M n sh R L I pc' ls (.int (if x < y then y else x) :: st) Q) : ExS sq sv (d + 1) kc ks M n sh R L I pc ls (.int y :: .int x :: st) Q := by
  subst hp
  intro l p e RR s m args below meth c H locs cells slots D cT ad A QQ lsr C K E Wd S N Lo Rt
  obtain ⟨c1, c2, c3, c4, c5, c6, c7, c8, c9, c10, c11, c12, c13, c14⟩ := id C
  exact va_mmax c1 c2 (by rw [c3]; exact Lo.1.symm) c4 (c5 _ hl) (c5 _ xm_max_s) (c5 _ xi_RJ9) (c5 _ xm_max_c) (by omega) (by omega) (by omega) (by omega) hd (k l p e RR s m args below meth c H locs cells slots D cT ad A QQ lsr C K E Wd S N Lo Rt)
theorem Es_min (pc' : Nat) {i : Nat} {x y : Int32} (hd : decode M.2.1 pc = .ok (.invokestatic i, 3)) (hl : Cond.methodLink M.1.cls i Lib.Math.min.name ∈ lw_good) (hcat : (st.map fun v => v.category).sum ≤ 8) (hp : pc + 3 = pc') (k : ExS sq sv (d + 1) kc ks M n sh R L I pc' ls (.int (if y < x then y else x) :: st) Q) : ExS sq sv (d + 1) kc ks M n sh R L I pc ls (.int y :: .int x :: st) Q := by
  subst hp
  intro l p e RR s m args below meth c H locs cells slots D cT ad A QQ lsr C K E Wd S N Lo Rt
  obtain ⟨c1, c2, c3, c4, c5, c6, c7, c8, c9, c10, c11, c12, c13, c14⟩ := id C
  exact va_mmin c1 c2 (by rw [c3]; exact Lo.1.symm) c4 (c5 _ hl) (c5 _ xm_min_s) (c5 _ xi_RJ9) (c5 _ xm_min_c) (by omega) (by omega) (by omega) (by omega) hd (k l p e RR s m args below meth c H locs cells slots D cT ad A QQ lsr C K E Wd S N Lo Rt)
theorem Es_ldcS (pc' : Nat) (hd : decode M.2.1 pc = .ok (.ldc 48, 2)) (hc : M.1.cls = RX7) (hp : pc + 2 = pc') (k : ExS sq sv d kc ks M n sh R L I pc' ls (.ref sq :: st) Q) : ExS sq sv d kc ks M n sh R L I pc ls st Q := by
  subst hp
  intro l p e RR s m args below meth c H locs cells slots D cT ad A QQ lsr C K E Wd S N Lo Rt
  have hz := K.2.2.2.2.1
  rw [E.1] at hz
  exact va_ldcS C.1 C.2.1 (hc ▸ C.2.2.2.1) hz hd (k l p e RR s m args below meth c H locs cells slots D cT ad A QQ lsr C K E Wd S N Lo Rt)
theorem Es_getV (pc' : Nat) (hd : decode M.2.1 pc = .ok (.getfield 9, 3)) (hc : M.1.cls = RJ0) (hp : pc + 3 = pc') (k : ExS sq sv d kc ks M n sh R L I pc' ls (.ref sv :: st) Q) : ExS sq sv d kc ks M n sh R L I pc ls (.ref sq :: st) Q := by
  subst hp
  intro l p e RR s m args below meth c H locs cells slots D cT ad A QQ lsr C K E Wd S N Lo Rt
  have hz := (K.2.2.2.2.2.1.1 0 (by decide)).2.2.1
  rw [E.1, E.2] at hz
  exact vk_getf C.1 C.2.1 hz S (hc ▸ C.2.2.2.1) (C.2.2.2.2.1 _ (show Cond.fieldLink RJ0 9 "java/lang/String" "value" "[B" ∈ lw_good from xt 1639 (by decide +kernel) rfl)) (fun _ h => h) hd (k l p e RR s m args below meth c H locs cells slots D cT ad A QQ lsr C K E Wd S N Lo Rt)
theorem Es_getC (pc' : Nat) (hd : decode M.2.1 pc = .ok (.getfield 15, 3)) (hc : M.1.cls = RJ0) (hp : pc + 3 = pc') (k : ExS sq sv d kc ks M n sh R L I pc' ls (.int 0 :: st) Q) : ExS sq sv d kc ks M n sh R L I pc ls (.ref sq :: st) Q := by
  subst hp
  intro l p e RR s m args below meth c H locs cells slots D cT ad A QQ lsr C K E Wd S N Lo Rt
  have hz := (K.2.2.2.2.2.1.1 0 (by decide)).2.1
  rw [E.1] at hz
  exact vk_getf C.1 C.2.1 hz S (hc ▸ C.2.2.2.1) (C.2.2.2.2.1 _ (show Cond.fieldLink RJ0 15 "java/lang/String" "coder" "B" ∈ lw_good from xt 1638 (by decide +kernel) rfl)) (fun _ h => h) hd (k l p e RR s m args below meth c H locs cells slots D cT ad A QQ lsr C K E Wd S N Lo Rt)
theorem Es_gets (pc' : Nat) (hd : decode M.2.1 pc = .ok (.getstatic 38, 3)) (hc : M.1.cls = RJ0) (hp : pc + 3 = pc') (k : ExS sq sv d kc ks M n sh R L I pc' ls (.int 1 :: st) Q) : ExS sq sv d kc ks M n sh R L I pc ls st Q := by
  subst hp
  intro l p e RR s m args below meth c H locs cells slots D cT ad A QQ lsr C K E Wd S N Lo Rt
  exact va_gets C.1 C.2.1 K.2.2.2.2.2.2 S (hc ▸ C.2.2.2.1) (C.2.2.2.2.1 _ (show Cond.fieldLink RJ0 38 "java/lang/String" "COMPACT_STRINGS" "Z" ∈ lw_good from xt 380 (by decide +kernel) rfl)) (fun _ h => h) hd (k l p e RR s m args below meth c H locs cells slots D cT ad A QQ lsr C K E Wd S N Lo Rt)
def xsBy (j : Nat) : Int32 := ([40, 41, 60, 61, 43, 45, 42, 59] : List Int32).getD j 0
theorem Es_tb (pc' j : Nat) (hd : decode M.2.1 pc = .ok (.baload, 1)) (hj : j < 8) (hp : pc + 1 = pc') (k : ExS sq sv d kc ks M n sh R L I pc' ls (.int (xsBy j) :: st) Q) : ExS sq sv d kc ks M n sh R L I pc ls (.int (nI j) :: .ref sv :: st) Q := by
  subst hp
  intro l p e RR s m args below meth c H locs cells slots D cT ad A QQ lsr C K E Wd S N Lo Rt
  have hz := (K.2.2.2.2.2.1.1 0 (by decide)).2.2.2
  rw [E.2] at hz
  exact va_tb C.1 C.2.1 hz S (vp_in_nI hj (by decide)) (by rw [nI_clamp (by omega)]; rfl) hd (k l p e RR s m args below meth c H locs cells slots D cT ad A QQ lsr C K E Wd S N Lo Rt)
theorem Es_tlen (pc' : Nat) (hd : decode M.2.1 pc = .ok (.arraylength, 1)) (hp : pc + 1 = pc') (k : ExS sq sv d kc ks M n sh R L I pc' ls (.int 8 :: st) Q) : ExS sq sv d kc ks M n sh R L I pc ls (.ref sv :: st) Q := by
  subst hp
  intro l p e RR s m args below meth c H locs cells slots D cT ad A QQ lsr C K E Wd S N Lo Rt
  have hz := (K.2.2.2.2.2.1.1 0 (by decide)).2.2.2
  rw [E.2] at hz
  exact va_tlen C.1 C.2.1 hz S rfl hd (k l p e RR s m args below meth c H locs cells slots D cT ad A QQ lsr C K E Wd S N Lo Rt)
theorem xMetS {sq sv d kc ks n : Nat} {M : xM} {sh : xSh} {R : xR} {L : xL} {I : xI} {Q : xQ} {As : List Value} {sz : Nat} (hy : Jvm.plainName M.1.cls = true) (hlen : (lg_sl As).length ≤ M.2.2.1) (hn : n ≠ 0 → n = sz) (hE : ExS sq sv d kc ks M n sh R L I 0 (xen As M.2.2.1) [] Q) (l : Launch) (hl : l.stackTraces = false) (D : va_G) (cT : FieldType → ClassId) (ad : (Nat → Nat) × (Nat → Nat)) (E : ad.1 0 = sq ∧ ad.2 0 = sv) :
    Met l M.1 (xws M) (xrm d kc ks) (xPc As D cT ad sz sh R L I) (xQc kc D cT sz sh Q) kc ks (xA sh sz) := by
  refine Met.ofW (cc := M.2.1) (maxL := M.2.2.1) (ret := M.2.2.2) hy rfl ?_
  intro p e s m args below meth c s₁ B hml hv
  obtain ⟨rfl, hsz, hW, hK⟩ := hv
  have hts := atoms_spec (ws := xws M) B.pre
  have hown : s.vm.findClass M.1.cls = some m.cls := findClass_of_methodNamed B.named
  have hin : meth.name = M.1.name := (name_of_methodNamed B.named B.method).1
  have hlk := B.notSynchronized
  subst hsz
  have h1 := lv_entry As (n := M.2.2.1) hlen
  rw [lg_entry_eq]
  refine hE l p e _ s m As.toArray below meth c s.heap [] 0 0 D cT ad (xA sh s.heap.size) _ _ ⟨B.exec, B.bytes, hml, hown, fun w hw => hts w (List.mem_cons_of_mem _ hw), fun q hq => Or.inr hq, hin, hl, Nat.le_refl d, Nat.le_refl (100 * d), by show 0 + kc ≤ kc; omega, by show 0 + ks ≤ ks; omega, B.returns, hlk⟩ hK E hW va_S.rf (fun h => ⟨by rw [hn h]; rfl, fun x h2 h3 => by rw [hn h] at h3; omega⟩) ?_ ?_
  · unfold xLs xen
    rw [xpr_xe]
    exact h1
  · intro r n' sh' R' L' I' H' locs' cells' slots' pc' lsr' hq hw hS hc hs hn' hret
    refine W.widen (k := kc) (n := ks) (by omega) (by omega) ?_
    have key : ∀ t : State, t.heap = H' → xQc kc D cT s.heap.size sh Q As.toArray s (.returned r) t := fun t ht => ⟨⟨r, n', sh', R', L', I', rfl, hq, by rw [ht]; exact hw, fun h => ⟨by obtain ⟨g1, g2, -⟩ := hn' h; omega, (hn' h).2.2⟩⟩, hS.F ht⟩
    cases r with
    | none => exact W.vret B.exec B.bytes (B.returns.trans hret.2) (fun t ht _ => key t ht) hS.2.2 hret.1
    | some v =>
      cases v with
      | int v =>
        obtain ⟨hd, ty, ht1, ht2⟩ := hret
        exact W.zret B.exec B.bytes (B.returns.trans ht1) ht2 (fun t ht _ => key t ht) hS.2.2 hd
      | long v => exact W.lret B.exec B.bytes (B.returns.trans hret.2) (fun t ht _ => key t ht) hS.2.2 hret.1
      | float v => exact absurd hret id
      | double v => exact absurd hret id
      | null => exact absurd hret id
      | ref v => exact absurd hret id
      | retAddr v => exact absurd hret id
variable {l : Launch} {p : Program} {e : Env} {RR : Room} {s : State} {m : MethodId} {args : Array Value} {below : List Frame} {meth : Method} {c : Code} {H : Heap} {locs : List Loc} {cells slots : Nat} {D : va_G} {cT : FieldType → ClassId} {ad : (Nat → Nat) × (Nat → Nat)} {A : Nat → Prop} {QQ : State → Prop} {lsr : Array Slot}
theorem xgoS {st0 : List Value} {a : Array Value} {n2 : Nat → Nat} (C : xCx (d + 1) (kc1 + kc) (ks1 + ks) M l p RR s m args meth c cells slots A) (K : xKs D cT ad A s s.heap) (E : ad.1 0 = sq ∧ ad.2 0 = sv) (Wd : xWd D cT A H sh R L I) (S : va_S A s.heap H locs) (N : xNn n s cells sh) (Lo : xLs lsr M.2.2.1 ls) (Rt : xRet M Q l p e RR s m args below meth c D cT A QQ (cells + (kc1 + kc)) (slots + (ks1 + ks)))
    (hr : H.size ≤ s.heap.size + cells → va_Run p l e RR s m args below meth c H locs cells slots kc1 ks1 (F0 m pc lsr st0) rest (xQc kc1 D cT H.size sh Q' a) (xA sh H.size))
    (hn2 : ∀ n', n2 n' ≠ 0 → n ≠ 0 ∧ n2 n' = n') (hmono : n ≠ 0 → ∀ r n' sh' R' L' I', Q' r n' sh' R' L' I' → ∀ x, sh x ≠ none → sh' x ≠ none)
    (kk : ∀ r n' sh' R' L' I', Q' r n' sh' R' L' I' → ExS sq sv (d + 1) kc ks M (n2 n') sh' R' L' I' (pc + 3) ls (r.toList ++ rest) Q) : W p l e RR s m args below meth c H locs cells slots QQ (F0 m pc lsr st0) := by
  intro T hT X
  have hsz : H.size ≤ s.heap.size + cells := by rw [← hT]; exact X.heapSize
  obtain ⟨v, st₀, t, T', Lc, h0, X', hL, e1, e2, ⟨⟨r, n', sh', R', L', I', hv, hq, hw, hn'⟩, hz, hk⟩, stp⟩ := hr hsz T hT X
  cases hv
  rw [h0] at hz hk
  have hAA := xA_in C Wd S
  obtain ⟨c1, c2, c3, c4, c5, c6, c7, c8, c9, c10, c11, c12, c13, c14⟩ := id C
  obtain ⟨t2, a1, b1⟩ := kk v n' sh' R' L' I' hq l p e RR s m args below meth c T'.heap (locs ++ Lc) (cells + kc1) (slots + ks1) D cT ad A QQ lsr ⟨c1, c2, c3, c4, c5, c6, c7, c8, c9, c10, by omega, by omega, c13, c14⟩ K E (by rw [e1]; exact hw.mono hAA)
    ⟨Nat.le_trans S.1 (by rw [e1]; exact hz), fun q h1 h2 => by rw [e1, hk q (Nat.lt_of_lt_of_le h1 S.1) (fun z => h2 (hAA q z))]; exact S.2.1 q h1 h2, fun q hq => by
      rcases List.mem_append.mp hq with h | h
      · exact S.2.2 q h
      · exact hAA _ (hL q h)⟩
    (fun h => by
      obtain ⟨g1, g2⟩ := hn2 n' h
      rw [g2] at h ⊢
      obtain ⟨g3, g4⟩ := hn' h
      obtain ⟨g5, g6⟩ := N g1
      have hle : n ≤ H.size := by
        by_cases hns : n ≤ s.heap.size
        · exact Nat.le_trans hns S.1
        · have := (Wd.inA (g6 (n - 1) (by omega) (by omega))).2
          omega
      refine ⟨by omega, fun x hx1 hx2 => ?_⟩
      by_cases hxs : H.size ≤ x
      · exact g4 x hxs hx2
      · exact hmono g1 _ _ _ _ _ _ hq x (g6 x hx1 (by omega))) Lo (by rw [Nat.add_assoc, Nat.add_assoc]; exact Rt) T' rfl X'
  exact ⟨t2, stp t2 a1, b1⟩
def xMVs (M : xM) (na : Nat) : Prop := xMt M na ∧ Cond.instanceMethod M.1 ∈ lw_good ∧ Cond.selects RJ0 M.1 M.1 ∈ lw_good
theorem Es_callS (pc' : Nat) {i na : Nat} (As : List Value) {st : List Value} (hd : decode M.2.1 pc = .ok (.invokestatic i, 3)) (hl : Cond.methodLink M.1.cls i M'.1 ∈ lw_good) (hm : xMS M' na) (hst : st = As.reverse ++ rest) (hna : As.length = na) (hlen : (lg_sl As).length ≤ M'.2.2.1) (hcat : (rest.map fun v => v.category).sum ≤ 8) (hp : pc + 3 = pc')
    (hE : ExS sq sv d 0 0 M' 0 sh R L I 0 (xen As M'.2.2.1) [] (fun r _ sh' R' L' I' => ExS sq sv (d + 1) kc ks M 0 sh' R' L' I' pc' ls (r.toList ++ rest) Q)) : ExS sq sv (d + 1) kc ks M 0 sh R L I pc ls st Q := by
  subst hp
  subst hst
  intro l p e RR s m args below meth c H locs cells slots D cT ad A QQ lsr C K E Wd S N Lo Rt
  obtain ⟨m1, m2⟩ := hm
  have hC0 : xCx (d + 1) (0 + kc) (0 + ks) M l p RR s m args meth c cells slots A := by rw [Nat.zero_add, Nat.zero_add]; exact C
  refine xgoS (rest := rest) (Q' := fun r _ sh' R' L' I' => ExS sq sv (d + 1) kc ks M 0 sh' R' L' I' (pc + 3) ls (r.toList ++ rest) Q) (kc1 := 0) (ks1 := 0) (n2 := fun _ => 0) (a := As.toArray) hC0 K E Wd S N Lo (by rw [Nat.zero_add, Nat.zero_add]; exact Rt) (fun _ => ?_) (fun _ h => absurd rfl h) (fun h => absurd rfl h) (fun r n' sh' R' L' I' h => h)
  exact va_runS (Ts := lw_good) (As := As) (rest := rest) ⟨C.1, C.2.1, C.2.2.1, C.2.2.2.1, C.2.2.2.2.1⟩ (xMetS (sz := H.size) m1.2.2.1 hlen (fun h => absurd rfl h) hE l C.2.2.2.2.2.2.2.1 D cT ad E) ⟨xCB C m1 hl, C.2.2.2.2.1 _ m2⟩ ⟨xblind, xpre C K Wd S⟩ rfl hna Lo.1 rfl (lv_room hcat) hd ⟨by have := C.2.2.2.2.2.2.2.2.2.2.1; omega, by have := C.2.2.2.2.2.2.2.2.2.2.2.1; omega⟩
/-- a constructor of one's own class, or of a class that isn't private -/
theorem Es_callT (pc' : Nat) {i na : Nat} (As : List Value) {st : List Value} (hd : decode M.2.1 pc = .ok (.invokevirtual i, 3)) (hl : Cond.methodLink M.1.cls i M'.1 ∈ lw_good) (hm : xMVs M' na) (hst : st = As.reverse ++ .ref sq :: rest) (hna : As.length = na) (hlen : (lg_sl (.ref sq :: As)).length ≤ M'.2.2.1) (hcat : (rest.map fun v => v.category).sum ≤ 8) (hp : pc + 3 = pc')
    (hE : ExS sq sv d 0 0 M' 0 sh R L I 0 (xen (.ref sq :: As) M'.2.2.1) [] (fun r _ sh' R' L' I' => ExS sq sv (d + 1) kc ks M 0 sh' R' L' I' pc' ls (r.toList ++ rest) Q)) : ExS sq sv (d + 1) kc ks M 0 sh R L I pc ls st Q := by
  subst hp
  subst hst
  intro l p e RR s m args below meth c H locs cells slots D cT ad A QQ lsr C K E Wd S N Lo Rt
  obtain ⟨m1, m2, m3⟩ := hm
  have hC0 : xCx (d + 1) (0 + kc) (0 + ks) M l p RR s m args meth c cells slots A := by rw [Nat.zero_add, Nat.zero_add]; exact C
  refine xgoS (rest := rest) (Q' := fun r _ sh' R' L' I' => ExS sq sv (d + 1) kc ks M 0 sh' R' L' I' (pc + 3) ls (r.toList ++ rest) Q) (kc1 := 0) (ks1 := 0) (n2 := fun _ => 0) (a := (Value.ref sq :: As).toArray) hC0 K E Wd S N Lo (by rw [Nat.zero_add, Nat.zero_add]; exact Rt) (fun _ => ?_) (fun _ h => absurd rfl h) (fun h => absurd rfl h) (fun r n' sh' R' L' I' h => h)
  have hz := vk_recv K.2.2.2.2.2.1 (i := 0) (by decide) S
  rw [E.1] at hz
  exact va_runV (Ts := lw_good) (C := RJ0) (As := As) (rest := rest) ⟨C.1, C.2.1, C.2.2.1, C.2.2.2.1, C.2.2.2.2.1⟩ (xMetS (sz := H.size) m1.2.2.1 hlen (fun h => absurd rfl h) hE l C.2.2.2.2.2.2.2.1 D cT ad E) ⟨xCB C m1 hl, C.2.2.2.2.1 _ m2, C.2.2.2.2.1 _ m3⟩ ⟨xblind, hz, xpre C K Wd S⟩ rfl hna Lo.1 rfl (lv_room hcat) hd ⟨by have := C.2.2.2.2.2.2.2.2.2.2.1; omega, by have := C.2.2.2.2.2.2.2.2.2.2.2.1; omega⟩
theorem mJ0_indexOf_0f7a4 : xMVs MJ0_indexOf_0f7a4 1 := ⟨mtJ0_indexOf_0f7a4, xt 369 (by decide +kernel) rfl, xt 370 (by decide +kernel) rfl⟩
theorem mJ0_indexOf_7cf53 : xMVs MJ0_indexOf_7cf53 2 := ⟨mtJ0_indexOf_7cf53, xt 373 (by decide +kernel) rfl, xt 374 (by decide +kernel) rfl⟩
theorem mJ0_isLatin1_aae02 : xMVs MJ0_isLatin1_aae02 0 := ⟨mtJ0_isLatin1_aae02, xt 377 (by decide +kernel) rfl, xt 378 (by decide +kernel) rfl⟩
theorem mJ0_length_8abf5 : xMVs MJ0_length_8abf5 0 := ⟨mtJ0_length_8abf5, xt 383 (by decide +kernel) rfl, xt 384 (by decide +kernel) rfl⟩
theorem mJ0_coder_7d493 : xMVs MJ0_coder_7d493 0 := ⟨mtJ0_coder_7d493, xt 387 (by decide +kernel) rfl, xt 388 (by decide +kernel) rfl⟩
end EXS
