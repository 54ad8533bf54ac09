/-! Ey: as Ex, with one thing more that is given -/
abbrev xXt : Type := Launch → Program → Env → Room → State → MethodId → Array Value → List Frame → Method → Code → va_G → (FieldType → ClassId) → ((Nat → Nat) × (Nat → Nat)) → (Nat → Prop) → (State → Prop) → Nat → Nat → Prop
def Ey (X : xXt) (d kc ks : Nat) (M : xM) (n : Nat) (sh : xSh) (R : xR) (L : xL) (I : xI) (pc : Nat) (ls : List (Option Value)) (st : List Value) (Q : xQ) : Prop :=
  ∀ (l : Launch) (p : Program) (e : Env) (RR : Room) (s : State) (m : MethodId) (args : Array Value) (below : List Frame) (meth : Method) (c : Code) (H : Heap) (locs : List Loc) (cells slots : Nat) (D : va_G) (cT : FieldType → ClassId) (ad : (Nat → Nat) × (Nat → Nat)) (A : Nat → Prop) (QQ : State → Prop) (lsr : Array Slot),
    xCx d kc ks M l p RR s m args meth c cells slots A → xKs D cT ad A s s.heap → xWd D cT A H sh R L I → va_S A s.heap H locs → xNn n s cells sh → xLs lsr M.2.2.1 ls →
    xRet M Q l p e RR s m args below meth c D cT A QQ (cells + kc) (slots + ks) → X l p e RR s m args below meth c D cT ad A QQ (cells + kc) (slots + ks) →
    W p l e RR s m args below meth c H locs cells slots QQ (F0 m pc lsr st)
section EYA
variable {X : xXt} {d kc ks n pc : Nat} {M : xM} {sh : xSh} {R : xR} {L : xL} {I : xI} {ls : List (Option Value)} {st : List Value} {Q : xQ}
theorem Ey_x (k : Ex d kc ks M n sh R L I pc ls st Q) : Ey X d kc ks M n sh R L I pc ls st Q := by
  intro l p e RR s m args below meth c H locs cells slots D cT ad A QQ lsr C K Wd S N Lo Rt Xh
  exact k l p e RR s m args below meth c H locs cells slots D cT ad A QQ lsr C K Wd S N Lo Rt
theorem Ey_ls {ls' : List (Option Value)} (h : ∀ (i : Nat) (v : Value), ls'[i]? = some (some v) → ls[i]? = some (some v)) (k : Ey X d kc ks M n sh R L I pc ls' st Q) : Ey X d kc ks M n sh R L I pc ls st Q := by
  intro l p e RR s m args below meth c H locs cells slots D cT ad A QQ lsr C K Wd S N Lo Rt Xh
  refine k l p e RR s m args below meth c H locs cells slots D cT ad A QQ lsr C K Wd S N ⟨Lo.1, Lo.2.1, fun q hq => ?_⟩ Rt Xh
  obtain ⟨j, u⟩ := q
  obtain ⟨k, rfl, hk⟩ := (xpr_mem _ 0 j u).mp hq
  rw [Nat.zero_add]
  exact xLs_get Lo (h k u hk)
theorem Ey_iconst (pc' : Nat) {i : Int} {v : Int32} (hd : decode M.2.1 pc = .ok (.iconst i, 1)) (hv : Int32.ofInt i = v) (hp : pc + 1 = pc') (k : Ey X d kc ks M n sh R L I pc' ls (.int v :: st) Q) : Ey X d kc ks M n sh R L I pc ls st Q := by
  subst hp
  intro l p e RR s m args below meth c H locs cells slots D cT ad A QQ lsr C K Wd S N Lo Rt Xh
  exact lv_iconst C.1 C.2.1 hd hv (k l p e RR s m args below meth c H locs cells slots D cT ad A QQ lsr C K Wd S N Lo Rt Xh)
theorem Ey_bipush (pc' : Nat) {i : Int} {v : Int32} (hd : decode M.2.1 pc = .ok (.bipush i, 2)) (hv : (Int8.ofInt i).toInt32 = v) (hp : pc + 2 = pc') (k : Ey X d kc ks M n sh R L I pc' ls (.int v :: st) Q) : Ey X d kc ks M n sh R L I pc ls st Q := by
  subst hp
  intro l p e RR s m args below meth c H locs cells slots D cT ad A QQ lsr C K Wd S N Lo Rt Xh
  exact lv_bipush C.1 C.2.1 hd hv (k l p e RR s m args below meth c H locs cells slots D cT ad A QQ lsr C K Wd S N Lo Rt Xh)
theorem Ey_sipush (pc' : Nat) {i : Int} {v : Int32} (hd : decode M.2.1 pc = .ok (.sipush i, 3)) (hv : (Int16.ofInt i).toInt32 = v) (hp : pc + 3 = pc') (k : Ey X d kc ks M n sh R L I pc' ls (.int v :: st) Q) : Ey X d kc ks M n sh R L I pc ls st Q := by
  subst hp
  intro l p e RR s m args below meth c H locs cells slots D cT ad A QQ lsr C K Wd S N Lo Rt Xh
  exact lv_sipush C.1 C.2.1 hd hv (k l p e RR s m args below meth c H locs cells slots D cT ad A QQ lsr C K Wd S N Lo Rt Xh)
theorem Ey_iload_n (pc' : Nat) {j : Fin 4} {i : Nat} {x : Int32} (hd : decode M.2.1 pc = .ok (.iload_n j, 1)) (hi : (j : Nat) = i) (hl : ls[i]? = some (some (.int x))) (hp : pc + 1 = pc') (k : Ey X d kc ks M n sh R L I pc' ls (.int x :: st) Q) : Ey X d kc ks M n sh R L I pc ls st Q := by
  subst hp
  intro l p e RR s m args below meth c H locs cells slots D cT ad A QQ lsr C K Wd S N Lo Rt Xh
  exact lv_iload_n C.1 C.2.1 hd hi (xLs_get Lo hl) (k l p e RR s m args below meth c H locs cells slots D cT ad A QQ lsr C K Wd S N Lo Rt Xh)
theorem Ey_iload (pc' : Nat) {i : Nat} {x : Int32} (hd : decode M.2.1 pc = .ok (.iload i, 2)) (hl : ls[i]? = some (some (.int x))) (hp : pc + 2 = pc') (k : Ey X d kc ks M n sh R L I pc' ls (.int x :: st) Q) : Ey X d kc ks M n sh R L I pc ls st Q := by
  subst hp
  intro l p e RR s m args below meth c H locs cells slots D cT ad A QQ lsr C K Wd S N Lo Rt Xh
  exact lv_iload C.1 C.2.1 hd (xLs_get Lo hl) (k l p e RR s m args below meth c H locs cells slots D cT ad A QQ lsr C K Wd S N Lo Rt Xh)
theorem Ey_aload_n (pc' : Nat) {j : Fin 4} {i : Nat} {x : Nat} (hd : decode M.2.1 pc = .ok (.aload_n j, 1)) (hi : (j : Nat) = i) (hl : ls[i]? = some (some (.ref x))) (hp : pc + 1 = pc') (k : Ey X d kc ks M n sh R L I pc' ls (.ref x :: st) Q) : Ey X d kc ks M n sh R L I pc ls st Q := by
  subst hp
  intro l p e RR s m args below meth c H locs cells slots D cT ad A QQ lsr C K Wd S N Lo Rt Xh
  exact lv_aload_n C.1 C.2.1 hd hi (xLs_get Lo hl) (k l p e RR s m args below meth c H locs cells slots D cT ad A QQ lsr C K Wd S N Lo Rt Xh)
theorem Ey_aload (pc' : Nat) {i : Nat} {x : Nat} (hd : decode M.2.1 pc = .ok (.aload i, 2)) (hl : ls[i]? = some (some (.ref x))) (hp : pc + 2 = pc') (k : Ey X d kc ks M n sh R L I pc' ls (.ref x :: st) Q) : Ey X d kc ks M n sh R L I pc ls st Q := by
  subst hp
  intro l p e RR s m args below meth c H locs cells slots D cT ad A QQ lsr C K Wd S N Lo Rt Xh
  exact lv_aload C.1 C.2.1 hd (xLs_get Lo hl) (k l p e RR s m args below meth c H locs cells slots D cT ad A QQ lsr C K Wd S N Lo Rt Xh)
theorem Ey_istore_n (pc' : Nat) {ls' : List (Option Value)} {j : Fin 4} {i : Nat} {x : Int32} (hd : decode M.2.1 pc = .ok (.istore_n j, 1)) (hi : (j : Nat) = i) (hn : i < M.2.2.1) (hok : xok ls i = true) (hl : (ls.set i (some (.int x))) = ls') (hp : pc + 1 = pc') (k : Ey X d kc ks M n sh R L I pc' ls' st Q) : Ey X d kc ks M n sh R L I pc ls (.int x :: st) Q := by
  subst hp
  subst hl
  intro l p e RR s m args below meth c H locs cells slots D cT ad A QQ lsr C K Wd S N Lo Rt Xh
  exact lv_istore_n C.1 C.2.1 hd hi Lo hn rfl (fun lsr' hh => k l p e RR s m args below meth c H locs cells slots D cT ad A QQ lsr' C K Wd S N (xLs_set1 hok hh) Rt Xh)
theorem Ey_istore (pc' : Nat) {ls' : List (Option Value)} {i : Nat} {x : Int32} (hd : decode M.2.1 pc = .ok (.istore i, 2)) (hn : i < M.2.2.1) (hok : xok ls i = true) (hl : (ls.set i (some (.int x))) = ls') (hp : pc + 2 = pc') (k : Ey X d kc ks M n sh R L I pc' ls' st Q) : Ey X d kc ks M n sh R L I pc ls (.int x :: st) Q := by
  subst hp
  subst hl
  intro l p e RR s m args below meth c H locs cells slots D cT ad A QQ lsr C K Wd S N Lo Rt Xh
  exact lv_istore C.1 C.2.1 hd Lo hn rfl (fun lsr' hh => k l p e RR s m args below meth c H locs cells slots D cT ad A QQ lsr' C K Wd S N (xLs_set1 hok hh) Rt Xh)
theorem Ey_astore_n (pc' : Nat) {ls' : List (Option Value)} {j : Fin 4} {i : Nat} {x : Nat} (hd : decode M.2.1 pc = .ok (.astore_n j, 1)) (hi : (j : Nat) = i) (hn : i < M.2.2.1) (hok : xok ls i = true) (hl : (ls.set i (some (.ref x))) = ls') (hp : pc + 1 = pc') (k : Ey X d kc ks M n sh R L I pc' ls' st Q) : Ey X d kc ks M n sh R L I pc ls (.ref x :: st) Q := by
  subst hp
  subst hl
  intro l p e RR s m args below meth c H locs cells slots D cT ad A QQ lsr C K Wd S N Lo Rt Xh
  exact lv_astore_n C.1 C.2.1 hd hi Lo hn rfl (fun lsr' hh => k l p e RR s m args below meth c H locs cells slots D cT ad A QQ lsr' C K Wd S N (xLs_set1 hok hh) Rt Xh)
theorem Ey_astore (pc' : Nat) {ls' : List (Option Value)} {i : Nat} {x : Nat} (hd : decode M.2.1 pc = .ok (.astore i, 2)) (hn : i < M.2.2.1) (hok : xok ls i = true) (hl : (ls.set i (some (.ref x))) = ls') (hp : pc + 2 = pc') (k : Ey X d kc ks M n sh R L I pc' ls' st Q) : Ey X d kc ks M n sh R L I pc ls (.ref x :: st) Q := by
  subst hp
  subst hl
  intro l p e RR s m args below meth c H locs cells slots D cT ad A QQ lsr C K Wd S N Lo Rt Xh
  exact lv_astore C.1 C.2.1 hd Lo hn rfl (fun lsr' hh => k l p e RR s m args below meth c H locs cells slots D cT ad A QQ lsr' C K Wd S N (xLs_set1 hok hh) Rt Xh)
theorem Ey_iinc (pc' : Nat) {ls' : List (Option Value)} {i : Nat} {z : Int} {x v : Int32} (hd : decode M.2.1 pc = .ok (.iinc i z, 3)) (hx : ls[i]? = some (some (.int x))) (hv : x + Int32.ofInt z = v) (hn : i < M.2.2.1) (hok : xok ls i = true) (hl : ls.set i (some (.int v)) = ls') (hp : pc + 3 = pc') (k : Ey X d kc ks M n sh R L I pc' ls' st Q) : Ey X d kc ks M n sh R L I pc ls st Q := by
  subst hp
  subst hl
  intro l p e RR s m args below meth c H locs cells slots D cT ad A QQ lsr C K Wd S N Lo Rt Xh
  obtain ⟨q, hq⟩ := List.getElem?_of_mem ((xpr_mem ls 0 i (.int x)).mpr ⟨i, by omega, hx⟩)
  exact lv_iinc C.1 C.2.1 hd Lo hq hv hn rfl (fun lsr' hh => k l p e RR s m args below meth c H locs cells slots D cT ad A QQ lsr' C K Wd S N (xLs_set1 hok hh) Rt Xh)
theorem Ey_iadd (pc' : Nat) {x y : Int32} (hd : decode M.2.1 pc = .ok (.iadd, 1)) (hp : pc + 1 = pc') (k : Ey X d kc ks M n sh R L I pc' ls (.int (x + y) :: st) Q) : Ey X d kc ks M n sh R L I pc ls (.int y :: .int x :: st) Q := by
  subst hp
  intro l p e RR s m args below meth c H locs cells slots D cT ad A QQ lsr C K Wd S N Lo Rt Xh
  exact lv_iadd C.1 C.2.1 hd (k l p e RR s m args below meth c H locs cells slots D cT ad A QQ lsr C K Wd S N Lo Rt Xh)
theorem Ey_isub (pc' : Nat) {x y : Int32} (hd : decode M.2.1 pc = .ok (.isub, 1)) (hp : pc + 1 = pc') (k : Ey X d kc ks M n sh R L I pc' ls (.int (x - y) :: st) Q) : Ey X d kc ks M n sh R L I pc ls (.int y :: .int x :: st) Q := by
  subst hp
  intro l p e RR s m args below meth c H locs cells slots D cT ad A QQ lsr C K Wd S N Lo Rt Xh
  exact lv_isub C.1 C.2.1 hd (k l p e RR s m args below meth c H locs cells slots D cT ad A QQ lsr C K Wd S N Lo Rt Xh)
theorem Ey_iand (pc' : Nat) {x y : Int32} (hd : decode M.2.1 pc = .ok (.iand, 1)) (hp : pc + 1 = pc') (k : Ey X d kc ks M n sh R L I pc' ls (.int (x &&& y) :: st) Q) : Ey X d kc ks M n sh R L I pc ls (.int y :: .int x :: st) Q := by
  subst hp
  intro l p e RR s m args below meth c H locs cells slots D cT ad A QQ lsr C K Wd S N Lo Rt Xh
  exact lv_iand C.1 C.2.1 hd (k l p e RR s m args below meth c H locs cells slots D cT ad A QQ lsr C K Wd S N Lo Rt Xh)
theorem Ey_ior (pc' : Nat) {x y : Int32} (hd : decode M.2.1 pc = .ok (.ior, 1)) (hp : pc + 1 = pc') (k : Ey X d kc ks M n sh R L I pc' ls (.int (x ||| y) :: st) Q) : Ey X d kc ks M n sh R L I pc ls (.int y :: .int x :: st) Q := by
  subst hp
  intro l p e RR s m args below meth c H locs cells slots D cT ad A QQ lsr C K Wd S N Lo Rt Xh
  exact lv_ior C.1 C.2.1 hd (k l p e RR s m args below meth c H locs cells slots D cT ad A QQ lsr C K Wd S N Lo Rt Xh)
theorem Ey_ishl (pc' : Nat) {x y : Int32} (hd : decode M.2.1 pc = .ok (.ishl, 1)) (hp : pc + 1 = pc') (k : Ey X d kc ks M n sh R L I pc' ls (.int (x <<< (y &&& 31)) :: st) Q) : Ey X d kc ks M n sh R L I pc ls (.int y :: .int x :: st) Q := by
  subst hp
  intro l p e RR s m args below meth c H locs cells slots D cT ad A QQ lsr C K Wd S N Lo Rt Xh
  exact lv_ishl C.1 C.2.1 hd (k l p e RR s m args below meth c H locs cells slots D cT ad A QQ lsr C K Wd S N Lo Rt Xh)
theorem Ey_ishr (pc' : Nat) {x y : Int32} (hd : decode M.2.1 pc = .ok (.ishr, 1)) (hp : pc + 1 = pc') (k : Ey X d kc ks M n sh R L I pc' ls (.int (x >>> (y &&& 31)) :: st) Q) : Ey X d kc ks M n sh R L I pc ls (.int y :: .int x :: st) Q := by
  subst hp
  intro l p e RR s m args below meth c H locs cells slots D cT ad A QQ lsr C K Wd S N Lo Rt Xh
  exact lv_ishr C.1 C.2.1 hd (k l p e RR s m args below meth c H locs cells slots D cT ad A QQ lsr C K Wd S N Lo Rt Xh)
theorem Ey_land (pc' : Nat) {x y : Int64} (hd : decode M.2.1 pc = .ok (.land, 1)) (hp : pc + 1 = pc') (k : Ey X d kc ks M n sh R L I pc' ls (.long (x &&& y) :: st) Q) : Ey X d kc ks M n sh R L I pc ls (.long y :: .long x :: st) Q := by
  subst hp
  intro l p e RR s m args below meth c H locs cells slots D cT ad A QQ lsr C K Wd S N Lo Rt Xh
  exact lv_land C.1 C.2.1 hd (k l p e RR s m args below meth c H locs cells slots D cT ad A QQ lsr C K Wd S N Lo Rt Xh)
theorem Ey_lor (pc' : Nat) {x y : Int64} (hd : decode M.2.1 pc = .ok (.lor, 1)) (hp : pc + 1 = pc') (k : Ey X d kc ks M n sh R L I pc' ls (.long (x ||| y) :: st) Q) : Ey X d kc ks M n sh R L I pc ls (.long y :: .long x :: st) Q := by
  subst hp
  intro l p e RR s m args below meth c H locs cells slots D cT ad A QQ lsr C K Wd S N Lo Rt Xh
  exact lv_lor C.1 C.2.1 hd (k l p e RR s m args below meth c H locs cells slots D cT ad A QQ lsr C K Wd S N Lo Rt Xh)
theorem Ey_lshl (pc' : Nat) {x : Int64} {y : Int32} (hd : decode M.2.1 pc = .ok (.lshl, 1)) (hp : pc + 1 = pc') (k : Ey X d kc ks M n sh R L I pc' ls (.long (x <<< (y.toInt64 &&& 63)) :: st) Q) : Ey X d kc ks M n sh R L I pc ls (.int y :: .long x :: st) Q := by
  subst hp
  intro l p e RR s m args below meth c H locs cells slots D cT ad A QQ lsr C K Wd S N Lo Rt Xh
  exact lv_lshl C.1 C.2.1 hd rfl (k l p e RR s m args below meth c H locs cells slots D cT ad A QQ lsr C K Wd S N Lo Rt Xh)
theorem Ey_i2l (pc' : Nat) {x : Int32} (hd : decode M.2.1 pc = .ok (.i2l, 1)) (hp : pc + 1 = pc') (k : Ey X d kc ks M n sh R L I pc' ls (.long x.toInt64 :: st) Q) : Ey X d kc ks M n sh R L I pc ls (.int x :: st) Q := by
  subst hp
  intro l p e RR s m args below meth c H locs cells slots D cT ad A QQ lsr C K Wd S N Lo Rt Xh
  exact lv_i2l C.1 C.2.1 hd rfl (k l p e RR s m args below meth c H locs cells slots D cT ad A QQ lsr C K Wd S N Lo Rt Xh)
theorem Ey_lcmp (pc' : Nat) {x y : Int64} (hd : decode M.2.1 pc = .ok (.lcmp, 1)) (hp : pc + 1 = pc') (k : Ey X d kc ks M n sh R L I pc' ls (.int (lg_cmp x y) :: st) Q) : Ey X d kc ks M n sh R L I pc ls (.long y :: .long x :: st) Q := by
  subst hp
  intro l p e RR s m args below meth c H locs cells slots D cT ad A QQ lsr C K Wd S N Lo Rt Xh
  exact W.lcmp C.1 C.2.1 hd (k l p e RR s m args below meth c H locs cells slots D cT ad A QQ lsr C K Wd S N Lo Rt Xh)
theorem Ey_dup (pc' : Nat) {va : Value} (hd : decode M.2.1 pc = .ok (.dup, 1)) (h1 : va.category = 1) (hp : pc + 1 = pc') (k : Ey X d kc ks M n sh R L I pc' ls (va :: va :: st) Q) : Ey X d kc ks M n sh R L I pc ls (va :: st) Q := by
  subst hp
  intro l p e RR s m args below meth c H locs cells slots D cT ad A QQ lsr C K Wd S N Lo Rt Xh
  exact lv_dup C.1 C.2.1 hd h1 (k l p e RR s m args below meth c H locs cells slots D cT ad A QQ lsr C K Wd S N Lo Rt Xh)
theorem Ey_pop (pc' : Nat) {va : Value} (hd : decode M.2.1 pc = .ok (.pop, 1)) (h1 : va.category = 1) (hp : pc + 1 = pc') (k : Ey X d kc ks M n sh R L I pc' ls st Q) : Ey X d kc ks M n sh R L I pc ls (va :: st) Q := by
  subst hp
  intro l p e RR s m args below meth c H locs cells slots D cT ad A QQ lsr C K Wd S N Lo Rt Xh
  exact lv_pop C.1 C.2.1 hd h1 (k l p e RR s m args below meth c H locs cells slots D cT ad A QQ lsr C K Wd S N Lo Rt Xh)
theorem Ey_if_eq (pc' tgt : Nat) {x : Int32} {off : Int} (hd : decode M.2.1 pc = .ok (.ifCond .eq off, 3)) (ht : (pc : Int) + off = (tgt : Int)) (hp : pc + 3 = pc') (kt : x = 0 → Ey X d kc ks M n sh R L I tgt ls st Q) (kf : ¬ x = 0 → Ey X d kc ks M n sh R L I pc' ls st Q) : Ey X d kc ks M n sh R L I pc ls (.int x :: st) Q := by
  subst hp
  intro l p e RR s m args below meth c H locs cells slots D cT ad A QQ lsr C K Wd S N Lo Rt Xh
  exact lv_if_eq C.1 C.2.1 hd ht (fun cc => kt cc l p e RR s m args below meth c H locs cells slots D cT ad A QQ lsr C K Wd S N Lo Rt Xh) (fun cc => kf cc l p e RR s m args below meth c H locs cells slots D cT ad A QQ lsr C K Wd S N Lo Rt Xh)
theorem Ey_icmp_eq (pc' tgt : Nat) {x y : Int32} {off : Int} (hd : decode M.2.1 pc = .ok (.if_icmp .eq off, 3)) (ht : (pc : Int) + off = (tgt : Int)) (hp : pc + 3 = pc') (kt : x = y → Ey X d kc ks M n sh R L I tgt ls st Q) (kf : ¬ x = y → Ey X d kc ks M n sh R L I pc' ls st Q) : Ey X d kc ks M n sh R L I pc ls (.int y :: .int x :: st) Q := by
  subst hp
  intro l p e RR s m args below meth c H locs cells slots D cT ad A QQ lsr C K Wd S N Lo Rt Xh
  exact lv_icmp_eq C.1 C.2.1 hd ht (fun cc => kt cc l p e RR s m args below meth c H locs cells slots D cT ad A QQ lsr C K Wd S N Lo Rt Xh) (fun cc => kf cc l p e RR s m args below meth c H locs cells slots D cT ad A QQ lsr C K Wd S N Lo Rt Xh)
theorem Ey_if_ne (pc' tgt : Nat) {x : Int32} {off : Int} (hd : decode M.2.1 pc = .ok (.ifCond .ne off, 3)) (ht : (pc : Int) + off = (tgt : Int)) (hp : pc + 3 = pc') (kt : ¬ x = 0 → Ey X d kc ks M n sh R L I tgt ls st Q) (kf : x = 0 → Ey X d kc ks M n sh R L I pc' ls st Q) : Ey X d kc ks M n sh R L I pc ls (.int x :: st) Q := by
  subst hp
  intro l p e RR s m args below meth c H locs cells slots D cT ad A QQ lsr C K Wd S N Lo Rt Xh
  exact lv_if_ne C.1 C.2.1 hd ht (fun cc => kt cc l p e RR s m args below meth c H locs cells slots D cT ad A QQ lsr C K Wd S N Lo Rt Xh) (fun cc => kf cc l p e RR s m args below meth c H locs cells slots D cT ad A QQ lsr C K Wd S N Lo Rt Xh)
theorem Ey_icmp_ne (pc' tgt : Nat) {x y : Int32} {off : Int} (hd : decode M.2.1 pc = .ok (.if_icmp .ne off, 3)) (ht : (pc : Int) + off = (tgt : Int)) (hp : pc + 3 = pc') (kt : ¬ x = y → Ey X d kc ks M n sh R L I tgt ls st Q) (kf : x = y → Ey X d kc ks M n sh R L I pc' ls st Q) : Ey X d kc ks M n sh R L I pc ls (.int y :: .int x :: st) Q := by
  subst hp
  intro l p e RR s m args below meth c H locs cells slots D cT ad A QQ lsr C K Wd S N Lo Rt Xh
  exact lv_icmp_ne C.1 C.2.1 hd ht (fun cc => kt cc l p e RR s m args below meth c H locs cells slots D cT ad A QQ lsr C K Wd S N Lo Rt Xh) (fun cc => kf cc l p e RR s m args below meth c H locs cells slots D cT ad A QQ lsr C K Wd S N Lo Rt Xh)
theorem Ey_if_lt (pc' tgt : Nat) {x : Int32} {off : Int} (hd : decode M.2.1 pc = .ok (.ifCond .lt off, 3)) (ht : (pc : Int) + off = (tgt : Int)) (hp : pc + 3 = pc') (kt : x < 0 → Ey X d kc ks M n sh R L I tgt ls st Q) (kf : ¬ x < 0 → Ey X d kc ks M n sh R L I pc' ls st Q) : Ey X d kc ks M n sh R L I pc ls (.int x :: st) Q := by
  subst hp
  intro l p e RR s m args below meth c H locs cells slots D cT ad A QQ lsr C K Wd S N Lo Rt Xh
  exact lv_if_lt C.1 C.2.1 hd ht (fun cc => kt cc l p e RR s m args below meth c H locs cells slots D cT ad A QQ lsr C K Wd S N Lo Rt Xh) (fun cc => kf cc l p e RR s m args below meth c H locs cells slots D cT ad A QQ lsr C K Wd S N Lo Rt Xh)
theorem Ey_icmp_lt (pc' tgt : Nat) {x y : Int32} {off : Int} (hd : decode M.2.1 pc = .ok (.if_icmp .lt off, 3)) (ht : (pc : Int) + off = (tgt : Int)) (hp : pc + 3 = pc') (kt : x < y → Ey X d kc ks M n sh R L I tgt ls st Q) (kf : ¬ x < y → Ey X d kc ks M n sh R L I pc' ls st Q) : Ey X d kc ks M n sh R L I pc ls (.int y :: .int x :: st) Q := by
  subst hp
  intro l p e RR s m args below meth c H locs cells slots D cT ad A QQ lsr C K Wd S N Lo Rt Xh
  exact lv_icmp_lt C.1 C.2.1 hd ht (fun cc => kt cc l p e RR s m args below meth c H locs cells slots D cT ad A QQ lsr C K Wd S N Lo Rt Xh) (fun cc => kf cc l p e RR s m args below meth c H locs cells slots D cT ad A QQ lsr C K Wd S N Lo Rt Xh)
theorem Ey_if_ge (pc' tgt : Nat) {x : Int32} {off : Int} (hd : decode M.2.1 pc = .ok (.ifCond .ge off, 3)) (ht : (pc : Int) + off = (tgt : Int)) (hp : pc + 3 = pc') (kt : 0 ≤ x → Ey X d kc ks M n sh R L I tgt ls st Q) (kf : ¬ 0 ≤ x → Ey X d kc ks M n sh R L I pc' ls st Q) : Ey X d kc ks M n sh R L I pc ls (.int x :: st) Q := by
  subst hp
  intro l p e RR s m args below meth c H locs cells slots D cT ad A QQ lsr C K Wd S N Lo Rt Xh
  exact lv_if_ge C.1 C.2.1 hd ht (fun cc => kt cc l p e RR s m args below meth c H locs cells slots D cT ad A QQ lsr C K Wd S N Lo Rt Xh) (fun cc => kf cc l p e RR s m args below meth c H locs cells slots D cT ad A QQ lsr C K Wd S N Lo Rt Xh)
theorem Ey_icmp_ge (pc' tgt : Nat) {x y : Int32} {off : Int} (hd : decode M.2.1 pc = .ok (.if_icmp .ge off, 3)) (ht : (pc : Int) + off = (tgt : Int)) (hp : pc + 3 = pc') (kt : y ≤ x → Ey X d kc ks M n sh R L I tgt ls st Q) (kf : ¬ y ≤ x → Ey X d kc ks M n sh R L I pc' ls st Q) : Ey X d kc ks M n sh R L I pc ls (.int y :: .int x :: st) Q := by
  subst hp
  intro l p e RR s m args below meth c H locs cells slots D cT ad A QQ lsr C K Wd S N Lo Rt Xh
  exact lv_icmp_ge C.1 C.2.1 hd ht (fun cc => kt cc l p e RR s m args below meth c H locs cells slots D cT ad A QQ lsr C K Wd S N Lo Rt Xh) (fun cc => kf cc l p e RR s m args below meth c H locs cells slots D cT ad A QQ lsr C K Wd S N Lo Rt Xh)
theorem Ey_if_gt (pc' tgt : Nat) {x : Int32} {off : Int} (hd : decode M.2.1 pc = .ok (.ifCond .gt off, 3)) (ht : (pc : Int) + off = (tgt : Int)) (hp : pc + 3 = pc') (kt : 0 < x → Ey X d kc ks M n sh R L I tgt ls st Q) (kf : ¬ 0 < x → Ey X d kc ks M n sh R L I pc' ls st Q) : Ey X d kc ks M n sh R L I pc ls (.int x :: st) Q := by
  subst hp
  intro l p e RR s m args below meth c H locs cells slots D cT ad A QQ lsr C K Wd S N Lo Rt Xh
  exact lv_if_gt C.1 C.2.1 hd ht (fun cc => kt cc l p e RR s m args below meth c H locs cells slots D cT ad A QQ lsr C K Wd S N Lo Rt Xh) (fun cc => kf cc l p e RR s m args below meth c H locs cells slots D cT ad A QQ lsr C K Wd S N Lo Rt Xh)
theorem Ey_icmp_gt (pc' tgt : Nat) {x y : Int32} {off : Int} (hd : decode M.2.1 pc = .ok (.if_icmp .gt off, 3)) (ht : (pc : Int) + off = (tgt : Int)) (hp : pc + 3 = pc') (kt : y < x → Ey X d kc ks M n sh R L I tgt ls st Q) (kf : ¬ y < x → Ey X d kc ks M n sh R L I pc' ls st Q) : Ey X d kc ks M n sh R L I pc ls (.int y :: .int x :: st) Q := by
  subst hp
  intro l p e RR s m args below meth c H locs cells slots D cT ad A QQ lsr C K Wd S N Lo Rt Xh
  exact lv_icmp_gt C.1 C.2.1 hd ht (fun cc => kt cc l p e RR s m args below meth c H locs cells slots D cT ad A QQ lsr C K Wd S N Lo Rt Xh) (fun cc => kf cc l p e RR s m args below meth c H locs cells slots D cT ad A QQ lsr C K Wd S N Lo Rt Xh)
theorem Ey_if_le (pc' tgt : Nat) {x : Int32} {off : Int} (hd : decode M.2.1 pc = .ok (.ifCond .le off, 3)) (ht : (pc : Int) + off = (tgt : Int)) (hp : pc + 3 = pc') (kt : x ≤ 0 → Ey X d kc ks M n sh R L I tgt ls st Q) (kf : ¬ x ≤ 0 → Ey X d kc ks M n sh R L I pc' ls st Q) : Ey X d kc ks M n sh R L I pc ls (.int x :: st) Q := by
  subst hp
  intro l p e RR s m args below meth c H locs cells slots D cT ad A QQ lsr C K Wd S N Lo Rt Xh
  exact lv_if_le C.1 C.2.1 hd ht (fun cc => kt cc l p e RR s m args below meth c H locs cells slots D cT ad A QQ lsr C K Wd S N Lo Rt Xh) (fun cc => kf cc l p e RR s m args below meth c H locs cells slots D cT ad A QQ lsr C K Wd S N Lo Rt Xh)
theorem Ey_icmp_le (pc' tgt : Nat) {x y : Int32} {off : Int} (hd : decode M.2.1 pc = .ok (.if_icmp .le off, 3)) (ht : (pc : Int) + off = (tgt : Int)) (hp : pc + 3 = pc') (kt : x ≤ y → Ey X d kc ks M n sh R L I tgt ls st Q) (kf : ¬ x ≤ y → Ey X d kc ks M n sh R L I pc' ls st Q) : Ey X d kc ks M n sh R L I pc ls (.int y :: .int x :: st) Q := by
  subst hp
  intro l p e RR s m args below meth c H locs cells slots D cT ad A QQ lsr C K Wd S N Lo Rt Xh
  exact lv_icmp_le C.1 C.2.1 hd ht (fun cc => kt cc l p e RR s m args below meth c H locs cells slots D cT ad A QQ lsr C K Wd S N Lo Rt Xh) (fun cc => kf cc l p e RR s m args below meth c H locs cells slots D cT ad A QQ lsr C K Wd S N Lo Rt Xh)
theorem Ey_goto (tgt : Nat) {off : Int} (hd : decode M.2.1 pc = .ok (.goto off, 3)) (ht : (pc : Int) + off = (tgt : Int)) (k : Ey X d kc ks M n sh R L I tgt ls st Q) : Ey X d kc ks M n sh R L I pc ls st Q := by
  intro l p e RR s m args below meth c H locs cells slots D cT ad A QQ lsr C K Wd S N Lo Rt Xh
  exact lv_goto C.1 C.2.1 hd ht (k l p e RR s m args below meth c H locs cells slots D cT ad A QQ lsr C K Wd S N Lo Rt Xh)
theorem Ey_tableIn (tgt : Nat) {x : Int32} {dflt lo hi off : Int} {offs : Array Int} {len : Nat} (hd : decode M.2.1 pc = .ok (.tableswitch dflt lo hi offs, len)) (h1 : ¬ x.toInt < lo) (h2 : ¬ hi < x.toInt) (ho : offs[(x.toInt - lo).toNat]? = some off) (ht : (pc : Int) + off = (tgt : Int)) (k : Ey X d kc ks M n sh R L I tgt ls st Q) : Ey X d kc ks M n sh R L I pc ls (.int x :: st) Q := by
  intro l p e RR s m args below meth c H locs cells slots D cT ad A QQ lsr C K Wd S N Lo Rt Xh
  exact lv_tableIn C.1 C.2.1 hd h1 h2 ho ht (k l p e RR s m args below meth c H locs cells slots D cT ad A QQ lsr C K Wd S N Lo Rt Xh)
theorem Ey_tableOut (tgt : Nat) {x : Int32} {dflt lo hi : Int} {offs : Array Int} {len : Nat} (hd : decode M.2.1 pc = .ok (.tableswitch dflt lo hi offs, len)) (h : x.toInt < lo ∨ hi < x.toInt) (ht : (pc : Int) + dflt = (tgt : Int)) (k : Ey X d kc ks M n sh R L I tgt ls st Q) : Ey X d kc ks M n sh R L I pc ls (.int x :: st) Q := by
  intro l p e RR s m args below meth c H locs cells slots D cT ad A QQ lsr C K Wd S N Lo Rt Xh
  exact lv_tableOut C.1 C.2.1 hd h ht (k l p e RR s m args below meth c H locs cells slots D cT ad A QQ lsr C K Wd S N Lo Rt Xh)
theorem Ey_ldc2 (pc' : Nat) {i : Nat} {v : Int64} (hd : decode M.2.1 pc = .ok (.ldc2_w i, 3)) (hw : Cond.constantLong M.1.cls i v ∈ lw_good) (hp : pc + 3 = pc') (k : Ey X d kc ks M n sh R L I pc' ls (.long v :: st) Q) : Ey X d kc ks M n sh R L I pc ls st Q := by
  subst hp
  intro l p e RR s m args below meth c H locs cells slots D cT ad A QQ lsr C K Wd S N Lo Rt Xh
  exact lv_ldc2 C.1 C.2.1 C.2.2.2.1 (C.2.2.2.2.1 _ hw) hd (k l p e RR s m args below meth c H locs cells slots D cT ad A QQ lsr C K Wd S N Lo Rt Xh)
theorem Ey_lald (pc' : Nat) {i : Int32} {a N : Nat} (j : Nat) (hd : decode M.2.1 pc = .ok (.laload, 1)) (hs : sh a = some (.inr (.long, N))) (hi : i = nI j) (hj : j < N) (hN : N < 2 ^ 31) (hp : pc + 1 = pc') (kk : Ey X d kc ks M n sh R L I pc' ls (.long (L a j) :: st) Q) : Ey X d kc ks M n sh R L I pc ls (.int i :: .ref a :: st) Q := by
  subst hp
  intro l p e RR s m args below meth c H locs cells slots D cT ad A QQ lsr C K Wd S N0 Lo Rt Xh
  obtain ⟨Ls, h1, hP, hD⟩ := id Wd
  obtain ⟨q0, hq⟩ := xpl_get (f := xcell cT sh R L I) ((h1 a).mpr (by rw [hs]; simp))
  rw [xcell_arr hs] at hq
  obtain ⟨g1, g2⟩ := x_in hi hj hN
  refine va_lald C.1 C.2.1 K.1 hP q0 1 hq rfl g1 hd ?_
  rw [g2]
  exact kk l p e RR s m args below meth c H locs cells slots D cT ad A QQ lsr C K Wd S N0 Lo Rt Xh
theorem Ey_last (pc' : Nat) {i : Int32} {x : Int64} {a N : Nat} (j : Nat) (hd : decode M.2.1 pc = .ok (.lastore, 1)) (hs : sh a = some (.inr (.long, N))) (hi : i = nI j) (hj : j < N) (hN : N < 2 ^ 31) (hp : pc + 1 = pc') (kk : Ey X d kc ks M n sh R (va_up L a (va_up (L a) j x)) I pc' ls st Q) : Ey X d kc ks M n sh R L I pc ls (.long x :: .int i :: .ref a :: st) Q := by
  subst hp
  intro l p e RR s m args below meth c H locs cells slots D cT ad A QQ lsr C K Wd S N0 Lo Rt Xh
  obtain ⟨Ls, h1, hP, hD⟩ := id Wd
  have ha : a ∈ Ls := (h1 a).mpr (by rw [hs]; simp)
  obtain ⟨q0, hq⟩ := xpl_get (f := xcell cT sh R L I) ha
  have hq2 := hq
  rw [xcell_arr hs] at hq
  obtain ⟨g1, g2⟩ := x_in hi hj hN
  refine va_last C.1 C.2.1 K.1 hP hD S q0 1 hq rfl g1 hd (fun H1 locs1 hP1 hD1 hS1 => ?_)
  refine kk l p e RR s m args below meth c H1 locs1 cells slots D cT ad A QQ lsr C K (xWd_set h1 ha hD hq2 (fun _ _ => rfl) (fun y hy => va_up_ne _ _ hy) (fun _ _ => rfl) ?_ hP1 hD1) hS1 N0 Lo Rt Xh
  rw [xcell_arr hs, g2]
  simp only [xar, va_up_self]
  rfl
theorem Ey_iret {v : Int32} {ty : FieldType} (hd : decode M.2.1 pc = .ok (.ireturn, 1)) (hr : M.2.2.2 = some ty) (hv : narrow ty (.int v) = .int v) (hn : n = 0 ∨ kc = 0) (hQ : Q (some (.int v)) n sh R L I) : Ey X d kc ks M n sh R L I pc ls [.int v] Q := by
  intro l p e RR s m args below meth c H locs cells slots D cT ad A QQ lsr C K Wd S N Lo Rt Xh
  exact Rt (some (.int v)) n sh R L I H locs cells slots pc lsr hQ Wd S (by omega) (by omega) (fun h => ⟨by rcases hn with h0 | h0 <;> omega, N h⟩) ⟨hd, ty, hr, hv⟩
theorem Ey_n0 (kk : Ey X d kc ks M 0 sh R L I pc ls st Q) : Ey X d kc ks M n sh R L I pc ls st Q := by
  intro l p e RR s m args below meth c H locs cells slots D cT ad A QQ lsr C K Wd S N Lo Rt Xh
  exact kk l p e RR s m args below meth c H locs cells slots D cT ad A QQ lsr C K Wd S (fun h => absurd rfl h) Lo Rt Xh
theorem Ey_I {I' : xI} (h : I = I') (k : Ey X d kc ks M n sh R L I' pc ls st Q) : Ey X d kc ks M n sh R L I pc ls st Q := by
  subst h
  exact k
theorem Ey_L {L' : xL} (h : L = L') (k : Ey X d kc ks M n sh R L' I pc ls st Q) : Ey X d kc ks M n sh R L I pc ls st Q := by
  subst h
  exact k
theorem Ey_st {st' : List Value} (h : st = st') (k : Ey X d kc ks M n sh R L I pc ls st' Q) : Ey X d kc ks M n sh R L I pc ls st Q := by
  subst h
  exact k
theorem Ey_l {ls' : List (Option Value)} (h : ls = ls') (k : Ey X d kc ks M n sh R L I pc ls' st Q) : Ey X d kc ks M n sh R L I pc ls st Q := by
  subst h
  exact k
theorem Ey_aL (pc' : Nat) {i : Int32} {a N : Nat} (j : Nat) (v : Int64) (hd : decode M.2.1 pc = .ok (.laload, 1)) (hs : sh a = some (.inr (.long, N))) (hi : i = nI j) (hj : j < N) (hN : N < 2 ^ 31) (hv : L a j = v) (hp : pc + 1 = pc') (kk : Ey X d kc ks M n sh R L I pc' ls (.long v :: st) Q) : Ey X d kc ks M n sh R L I pc ls (.int i :: .ref a :: st) Q := by
  subst hv
  exact Ey_lald pc' j hd hs hi hj hN hp kk
theorem Ey_sL (pc' : Nat) {i : Int32} {x : Int64} {a N : Nat} (j : Nat) (row : Nat → Int64) (L' : xL) (hd : decode M.2.1 pc = .ok (.lastore, 1)) (hs : sh a = some (.inr (.long, N))) (hi : i = nI j) (hj : j < N) (hN : N < 2 ^ 31) (hrow : L a = row) (hI : va_up L a (va_up row j x) = L') (hp : pc + 1 = pc') (kk : Ey X d kc ks M n sh R L' I pc' ls st Q) : Ey X d kc ks M n sh R L I pc ls (.long x :: .int i :: .ref a :: st) Q := by
  subst hrow
  subst hI
  exact Ey_last pc' j hd hs hi hj hN hp kk
theorem Ey_new (pc' : Nat) {i ci : Nat} (hn : n ≠ 0) (hd : decode M.2.1 pc = .ok (.new i, 3)) (hci : ci < 10) (hin : ∀ w ∈ u_ws (xC ci).1 (xC ci).2.1 (xC ci).2.2, w ∈ lw_good) (hl : Cond.classLink M.1.cls i (xC ci).1 ∈ lw_good) (hi : Cond.instantiable (xC ci).1 (xC ci).2.2 ∈ lw_good) (hini : Cond.initialized (xC ci).1 ∈ lw_good) (hnf : ∀ k, k < (xC ci).2.2 → xty ci k ≠ .float ∧ xty ci k ≠ .double) (hp : pc + 3 = pc')
    (kk : Ey X d kc ks M (n + 1) (va_up sh n (some (.inl ci))) (va_up R n (fun _ => none)) (va_up L n (fun _ => 0)) (va_up I n (fun _ => 0)) pc' ls (.ref n :: st) Q) : Ey X d (1 + kc) ((xC ci).2.2 + ks) M n sh R L I pc ls st Q := by
  subst hp
  intro l p e RR s m args below meth c H locs cells slots D cT ad A QQ lsr C K Wd S N Lo Rt Xh T hT X
  obtain ⟨c1, c2, c3, c4, c5, c6, c7, c8, c9, c10, c11, c12, c13, c14⟩ := id C
  have hsz : H.size = n := xsz (d := d) (kc := kc) (ks := ks) (l := l) (p := p) (RR := RR) (m := m) (args := args) (meth := meth) (c := c) (slots := slots) hn Wd S N (by rw [← hT]; exact X.heapSize)
  have hKn := K.1.1 ci _ (xC_at hci)
  revert X
  revert hT
  revert T
  refine W.newcK c1 c2 c4 (c5 _ hl) (c5 _ hi) (c5 _ hini) rfl hd (by omega) (by omega) hKn.2.1 hsz fun H1 kC hkC e1 z1 o1 => ?_
  refine kk l p e RR s m args below meth c H1 locs (cells + 1) (slots + (xC ci).2.2) D cT ad A QQ lsr ⟨c1, c2, c3, c4, c5, c6, c7, c8, c9, c10, by omega, by omega, c13, c14⟩ K (xWd_new Wd hsz (c6 _ (by have := S.1; omega)) o1 ?_) ⟨Nat.le_trans S.1 (by omega), fun x h1 h2 => (o1 x (by have := S.1; omega)).trans (S.2.1 x h1 h2), S.2.2⟩ (fun _ => ?_) Lo (by rw [Nat.add_assoc, Nat.add_assoc]; exact Rt) (by rw [Nat.add_assoc, Nat.add_assoc]; exact Xh)
  · rw [xcell_obj (ci := ci) (va_up_self _ _ _)]
    refine ⟨_, xC_at hci, (u_born (xty ci) c5 hin hKn hkC e1 (xty_ok hci)).to (fun k hk => ?_)⟩
    simp only [vp_V, List.getD_eq_getElem?_getD, xfs_at hk, Option.getD_some]
    rcases xdef (xty ci k) with h | h | h
    · rw [h]
      simp only [xfv, va_up_self]
    · exact absurd h (hnf k hk).1
    · exact absurd h (hnf k hk).2
  · obtain ⟨g1, g2⟩ := N hn
    refine ⟨by omega, fun x hx1 hx2 => ?_⟩
    by_cases hx : x = n
    · subst hx
      rw [va_up_self]
      simp
    · rw [va_up_ne _ _ hx]
      exact g2 x hx1 (by omega)
theorem Ey_newa (pc' : Nat) {x : Int32} {t0 N' : Nat} {at' : ArrayType} {ty : FieldType} (hn : n ≠ 0) (hd : decode M.2.1 pc = .ok (.newarray at', 2)) (hty : newarray.typeOf at' = ty) (ha : Cond.arrayClass ty ∈ lw_good) (ht : ∀ cT, (xtys cT)[t0]? = some (cT ty, ty)) (hno : ∀ C, ty ≠ .object C) (hdf : ∀ cA, vp_cell cA (N', xar (fun _ _ => none) (fun _ _ => 0) (fun _ _ => 0) 0 ty) = arrV cA N' (fun _ => defaultValue ty)) (hx : x = nI N') (hN : N' < 1000000) (hb : N' * componentBytes ty ≤ 536870912) (hp : pc + 2 = pc')
    (kk : Ey X d kc ks M (n + 1) (va_up sh n (some (.inr (ty, N')))) (va_up R n (fun _ => none)) (va_up L n (fun _ => 0)) (va_up I n (fun _ => 0)) pc' ls (.ref n :: st) Q) : Ey X d (1 + kc) (N' + ks) M n sh R L I pc ls (.int x :: st) Q := by
  subst hp
  subst hty
  intro l p e RR s m args below meth c H locs cells slots D cT ad A QQ lsr C K Wd S N Lo Rt Xh T hT X
  obtain ⟨c1, c2, c3, c4, c5, c6, c7, c8, c9, c10, c11, c12, c13, c14⟩ := id C
  have hsz : H.size = n := xsz (d := d) (kc := kc) (ks := ks) (l := l) (p := p) (RR := RR) (m := m) (args := args) (meth := meth) (c := c) (slots := slots) hn Wd S N (by rw [← hT]; exact X.heapSize)
  revert X
  revert hT
  revert T
  refine va_newaK c1 c2 (c5 _ ha) rfl hd rfl (by rw [hx]; exact nI_pos (by omega)) (by rw [hx]; exact nI_clamp (by omega)) hb (by omega) (by omega) hsz fun H1 cA e1 z1 o1 hAr hNm => ?_
  have hcA : cA = cT (newarray.typeOf at') := by
    have h1 := (K.1.2 t0 _ (ht cT)).2
    have h2 : s.vm.findClass ("[" ++ (newarray.typeOf at').toString) = some (cT (newarray.typeOf at')) := by
      revert h1
      cases at' <;> exact id
    rw [hNm] at h2
    exact Option.some.inj h2
  refine kk l p e RR s m args below meth c H1 locs (cells + 1) (slots + N') D cT ad A QQ lsr ⟨c1, c2, c3, c4, c5, c6, c7, c8, c9, c10, by omega, by omega, c13, c14⟩ K (xWd_new Wd hsz (c6 _ (by have := S.1; omega)) o1 ?_) ⟨Nat.le_trans S.1 (by omega), fun x h1 h2 => (o1 x (by have := S.1; omega)).trans (S.2.1 x h1 h2), S.2.2⟩ (fun _ => ?_) Lo (by rw [Nat.add_assoc, Nat.add_assoc]; exact Rt) (by rw [Nat.add_assoc, Nat.add_assoc]; exact Xh)
  · rw [xcell_arr (ty := newarray.typeOf at') (n := N') (va_up_self _ _ _)]
    show H1[n]? = some (vp_cell _ _)
    rw [e1, hcA, ← hdf]
    congr 2
    have : xar (va_up R n (fun _ => none)) (va_up L n (fun _ => 0)) (va_up I n (fun _ => 0)) n (newarray.typeOf at') = xar (fun _ _ => none) (fun _ _ => 0) (fun _ _ => 0) 0 (newarray.typeOf at') := by
      simp only [xar, va_up_self]
    rw [this]
  · obtain ⟨g1, g2⟩ := N hn
    refine ⟨by omega, fun x hx1 hx2 => ?_⟩
    by_cases hx : x = n
    · subst hx
      rw [va_up_self]
      simp
    · rw [va_up_ne _ _ hx]
      exact g2 x hx1 (by omega)
end EYA
section EYC
variable {X : xXt} {d kc ks kc1 ks1 n pc : Nat} {M M' : xM} {sh : xSh} {R : xR} {L : xL} {I : xI} {ls : List (Option Value)} {rest : List Value} {Q Q' : xQ}
variable {l : Launch} {p : Program} {e : Env} {RR : Room} {s : State} {m : MethodId} {args : Array Value} {below : List Frame} {meth : Method} {c : Code} {H : Heap} {locs : List Loc} {cells slots : Nat} {D : va_G} {cT : FieldType → ClassId} {ad : (Nat → Nat) × (Nat → Nat)} {A : Nat → Prop} {QQ : State → Prop} {lsr : Array Slot}
theorem xgoY {st0 : List Value} {a : Array Value} {n2 : Nat → Nat} (C : xCx (d + 1) (kc1 + kc) (ks1 + ks) M l p RR s m args meth c cells slots A) (K : xKs D cT ad A s s.heap) (Wd : xWd D cT A H sh R L I) (S : va_S A s.heap H locs) (N : xNn n s cells sh) (Lo : xLs lsr M.2.2.1 ls) (Rt : xRet M Q l p e RR s m args below meth c D cT A QQ (cells + (kc1 + kc)) (slots + (ks1 + ks))) (Xh : X l p e RR s m args below meth c D cT ad A QQ (cells + (kc1 + kc)) (slots + (ks1 + ks)))
    (hr : H.size ≤ s.heap.size + cells → va_Run p l e RR s m args below meth c H locs cells slots kc1 ks1 (F0 m pc lsr st0) rest (xQc kc1 D cT H.size sh Q' a) (xA sh H.size))
    (hn2 : ∀ n', n2 n' ≠ 0 → n ≠ 0 ∧ n2 n' = n') (hmono : n ≠ 0 → ∀ r n' sh' R' L' I', Q' r n' sh' R' L' I' → ∀ x, sh x ≠ none → sh' x ≠ none)
    (kk : ∀ r n' sh' R' L' I', Q' r n' sh' R' L' I' → Ey X (d + 1) kc ks M (n2 n') sh' R' L' I' (pc + 3) ls (r.toList ++ rest) Q) : W p l e RR s m args below meth c H locs cells slots QQ (F0 m pc lsr st0) := by
  intro T hT X
  have hsz : H.size ≤ s.heap.size + cells := by rw [← hT]; exact X.heapSize
  obtain ⟨v, st₀, t, T', Lc, h0, X', hL, e1, e2, ⟨⟨r, n', sh', R', L', I', hv, hq, hw, hn'⟩, hz, hk⟩, stp⟩ := hr hsz T hT X
  cases hv
  rw [h0] at hz hk
  have hAA := xA_in C Wd S
  obtain ⟨c1, c2, c3, c4, c5, c6, c7, c8, c9, c10, c11, c12, c13, c14⟩ := id C
  obtain ⟨t2, a1, b1⟩ := kk v n' sh' R' L' I' hq l p e RR s m args below meth c T'.heap (locs ++ Lc) (cells + kc1) (slots + ks1) D cT ad A QQ lsr ⟨c1, c2, c3, c4, c5, c6, c7, c8, c9, c10, by omega, by omega, c13, c14⟩ K (by rw [e1]; exact hw.mono hAA)
    ⟨Nat.le_trans S.1 (by rw [e1]; exact hz), fun q h1 h2 => by rw [e1, hk q (Nat.lt_of_lt_of_le h1 S.1) (fun z => h2 (hAA q z))]; exact S.2.1 q h1 h2, fun q hq => by
      rcases List.mem_append.mp hq with h | h
      · exact S.2.2 q h
      · exact hAA _ (hL q h)⟩
    (fun h => by
      obtain ⟨g1, g2⟩ := hn2 n' h
      rw [g2] at h ⊢
      obtain ⟨g3, g4⟩ := hn' h
      obtain ⟨g5, g6⟩ := N g1
      have hle : n ≤ H.size := by
        by_cases hns : n ≤ s.heap.size
        · exact Nat.le_trans hns S.1
        · have := (Wd.inA (g6 (n - 1) (by omega) (by omega))).2
          omega
      refine ⟨by omega, fun x hx1 hx2 => ?_⟩
      by_cases hxs : H.size ≤ x
      · exact g4 x hxs hx2
      · exact hmono g1 _ _ _ _ _ _ hq x (g6 x hx1 (by omega))) Lo (by rw [Nat.add_assoc, Nat.add_assoc]; exact Rt) (by rw [Nat.add_assoc, Nat.add_assoc]; exact Xh) T' rfl X'
  exact ⟨t2, stp t2 a1, b1⟩
theorem Ey_callV (pc' : Nat) {i ci b na : Nat} (As : List Value) {st : List Value} (hd : decode M.2.1 pc = .ok (.invokevirtual i, 3)) (hl : Cond.methodLink M.1.cls i M'.1 ∈ lw_good) (hm : xMV M' ci na) (hst : st = As.reverse ++ .ref b :: rest) (hs : sh b = some (.inl ci)) (hna : As.length = na) (hlen : (lg_sl (.ref b :: As)).length ≤ M'.2.2.1) (hcat : (rest.map fun v => v.category).sum ≤ 8) (hp : pc + 3 = pc')
    (hE : Ex d 0 0 M' 0 sh R L I 0 (xen (.ref b :: As) M'.2.2.1) [] (fun r _ sh' R' L' I' => Ey X (d + 1) kc ks M 0 sh' R' L' I' pc' ls (r.toList ++ rest) Q)) : Ey X (d + 1) kc ks M 0 sh R L I pc ls st Q := by
  subst hp
  subst hst
  intro l p e RR s m args below meth c H locs cells slots D cT ad A QQ lsr C K Wd S N Lo Rt Xh
  obtain ⟨m1, m2, m3, m4⟩ := hm
  have hC0 : xCx (d + 1) (0 + kc) (0 + ks) M l p RR s m args meth c cells slots A := by rw [Nat.zero_add, Nat.zero_add]; exact C
  refine xgoY (rest := rest) (Q' := fun r _ sh' R' L' I' => Ey X (d + 1) kc ks M 0 sh' R' L' I' (pc + 3) ls (r.toList ++ rest) Q) (kc1 := 0) (ks1 := 0) (n2 := fun _ => 0) (a := (Value.ref b :: As).toArray) hC0 K Wd S N Lo (by rw [Nat.zero_add, Nat.zero_add]; exact Rt) (by rw [Nat.zero_add, Nat.zero_add]; exact Xh) (fun _ => ?_) (fun _ h => absurd rfl h) (fun h => absurd rfl h) (fun r n' sh' R' L' I' h => h)
  obtain ⟨Ls, w1, w2, w3⟩ := id Wd
  obtain ⟨q0, hq⟩ := xpl_get (f := xcell cT sh R L I) ((w1 b).mpr (by rw [hs]; simp))
  rw [xcell_obj hs] at hq
  exact va_runV (Ts := lw_good) (C := (xC ci).1) (As := As) (rest := rest) ⟨C.1, C.2.1, C.2.2.1, C.2.2.2.1, C.2.2.2.2.1⟩ (xMet (sz := H.size) m1.2.2.1 hlen (fun h => absurd rfl h) hE l C.2.2.2.2.2.2.2.1 D cT ad) ⟨xCB C m1 hl, C.2.2.2.2.1 _ m2, C.2.2.2.2.1 _ m3⟩ ⟨xblind, va_recv K.1 w2 (xC_at m4) hq, xpre C K Wd S⟩ rfl hna Lo.1 rfl (lv_room hcat) hd ⟨by have := C.2.2.2.2.2.2.2.2.2.2.1; omega, by have := C.2.2.2.2.2.2.2.2.2.2.2.1; omega⟩
theorem Ey_callS (pc' : Nat) {i na : Nat} (As : List Value) {st : List Value} (hd : decode M.2.1 pc = .ok (.invokestatic i, 3)) (hl : Cond.methodLink M.1.cls i M'.1 ∈ lw_good) (hm : xMS M' na) (hst : st = As.reverse ++ rest) (hna : As.length = na) (hlen : (lg_sl As).length ≤ M'.2.2.1) (hcat : (rest.map fun v => v.category).sum ≤ 8) (hp : pc + 3 = pc')
    (hE : Ex d 0 0 M' 0 sh R L I 0 (xen As M'.2.2.1) [] (fun r _ sh' R' L' I' => Ey X (d + 1) kc ks M 0 sh' R' L' I' pc' ls (r.toList ++ rest) Q)) : Ey X (d + 1) kc ks M 0 sh R L I pc ls st Q := by
  subst hp
  subst hst
  intro l p e RR s m args below meth c H locs cells slots D cT ad A QQ lsr C K Wd S N Lo Rt Xh
  obtain ⟨m1, m2⟩ := hm
  have hC0 : xCx (d + 1) (0 + kc) (0 + ks) M l p RR s m args meth c cells slots A := by rw [Nat.zero_add, Nat.zero_add]; exact C
  refine xgoY (rest := rest) (Q' := fun r _ sh' R' L' I' => Ey X (d + 1) kc ks M 0 sh' R' L' I' (pc + 3) ls (r.toList ++ rest) Q) (kc1 := 0) (ks1 := 0) (n2 := fun _ => 0) (a := As.toArray) hC0 K Wd S N Lo (by rw [Nat.zero_add, Nat.zero_add]; exact Rt) (by rw [Nat.zero_add, Nat.zero_add]; exact Xh) (fun _ => ?_) (fun _ h => absurd rfl h) (fun h => absurd rfl h) (fun r n' sh' R' L' I' h => h)
  exact va_runS (Ts := lw_good) (As := As) (rest := rest) ⟨C.1, C.2.1, C.2.2.1, C.2.2.2.1, C.2.2.2.2.1⟩ (xMet (sz := H.size) m1.2.2.1 hlen (fun h => absurd rfl h) hE l C.2.2.2.2.2.2.2.1 D cT ad) ⟨xCB C m1 hl, C.2.2.2.2.1 _ m2⟩ ⟨xblind, xpre C K Wd S⟩ rfl hna Lo.1 rfl (lv_room hcat) hd ⟨by have := C.2.2.2.2.2.2.2.2.2.2.1; omega, by have := C.2.2.2.2.2.2.2.2.2.2.2.1; omega⟩
theorem Ey_callI (pc' : Nat) {i b na : Nat} (As : List Value) {st : List Value} (hn : n ≠ 0) (hd : decode M.2.1 pc = .ok (.invokespecial i, 3)) (hl : Cond.methodLink M.1.cls i M'.1 ∈ lw_good) (hm : xMI M' na) (hst : st = As.reverse ++ .ref b :: rest) (hna : As.length = na) (hlen : (lg_sl (.ref b :: As)).length ≤ M'.2.2.1) (hcat : (rest.map fun v => v.category).sum ≤ 8) (hp : pc + 3 = pc')
    (hE : Ex d kc1 ks1 M' n sh R L I 0 (xen (.ref b :: As) M'.2.2.1) [] (fun r n' sh' R' L' I' => (∀ x, sh x ≠ none → sh' x ≠ none) ∧ Ey X (d + 1) kc ks M n' sh' R' L' I' pc' ls (r.toList ++ rest) Q)) : Ey X (d + 1) (kc1 + kc) (ks1 + ks) M n sh R L I pc ls st Q := by
  subst hp
  subst hst
  intro l p e RR s m args below meth c H locs cells slots D cT ad A QQ lsr C K Wd S N Lo Rt Xh
  obtain ⟨m1, m2, m3, m4⟩ := hm
  refine xgoY (rest := rest) (Q' := fun r n' sh' R' L' I' => (∀ x, sh x ≠ none → sh' x ≠ none) ∧ Ey X (d + 1) kc ks M n' sh' R' L' I' (pc + 3) ls (r.toList ++ rest) Q) (kc1 := kc1) (ks1 := ks1) (n2 := fun n' => n') (a := (Value.ref b :: As).toArray) C K Wd S N Lo Rt Xh (fun hsz => ?_) (fun _ h => ⟨hn, rfl⟩) (fun _ r n' sh' R' L' I' h => h.1) (fun r n' sh' R' L' I' h => h.2)
  have hsz2 : n = H.size := by
    obtain ⟨g5, g6⟩ := N hn
    have hle : n ≤ H.size := by
      by_cases hns : n ≤ s.heap.size
      · exact Nat.le_trans hns S.1
      · have := (Wd.inA (g6 (n - 1) (by omega) (by omega))).2
        omega
    omega
  have cb := xCB (kc1 := kc1) (ks1 := ks1) C m1 hl
  rw [m4] at cb
  exact va_runI (Ts := lw_good) (As := As) (rest := rest) ⟨C.1, C.2.1, C.2.2.1, C.2.2.2.1, C.2.2.2.2.1⟩ (xMet (sz := H.size) m1.2.2.1 hlen (fun _ => hsz2) hE l C.2.2.2.2.2.2.2.1 D cT ad) ⟨cb, m3, C.2.2.2.2.1 _ m2⟩ ⟨xblind, xpre C K Wd S⟩ rfl hna Lo.1 rfl (lv_room hcat) hd ⟨by have := C.2.2.2.2.2.2.2.2.2.2.1; omega, by have := C.2.2.2.2.2.2.2.2.2.2.2.1; omega⟩
end EYC
