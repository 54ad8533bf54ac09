/-! the class's rests may throw; the law's own rests catches it -/
def hmNSE : String := "java/util/NoSuchElementException"
def hmNSn : List String := ["java/lang/RuntimeException", "java/lang/Exception"]
def hmNXw : List Cond := [.castable hmNSE hmNSE, .declares (Bundle.init0 "java/lang/RuntimeException"), .declares (Bundle.init0 "java/lang/Exception"), .declares (Bundle.init0 Bundle.tN)]
theorem x_at0t : ∀ w ∈ vx_at0 RX8 259 hmNSE hmNSn, w ∈ lw_tbl := by decide +kernel
theorem x_at0g : (vx_at0 RX8 259 hmNSE hmNSn).all (fun w => goodWord w || decide (w ∈ hmNXw)) = true := by decide +kernel
theorem x_at0 : ∀ w ∈ vx_at0 RX8 259 hmNSE hmNSn, w ∈ lw_good ∨ w ∈ hmNXw := fun w hw => by
  have h := List.all_eq_true.mp x_at0g w hw
  rw [Bool.or_eq_true, decide_eq_true_eq] at h
  rcases h with h | h
  · exact Or.inl (List.mem_filter.mpr ⟨x_at0t w hw, h⟩)
  · exact Or.inr h
theorem x_atk : Cond.classLink RX8 257 hmNSE ∈ lw_good := xt 937 (by decide +kernel) rfl
theorem x_ati : Cond.initialized hmNSE ∈ lw_good := xt 22 (by decide +kernel) rfl
theorem x_atl : Cond.classLink RL 13 hmNSE ∈ lw_good := xt 929 (by decide +kernel) rfl
theorem x_atr : Cond.methodLink RL 153 yL_rests ∈ lw_good := xt 926 (by decide +kernel) rfl
theorem x_ats : Cond.static yL_rests ∈ lw_good := xt 927 (by decide +kernel) rfl
theorem x_atw : Cond.codeWith yL_rests cL_rests 7 (some .int) [(0, 14, 17, 13)] ∈ lw_good := xt 928 (by decide +kernel) rfl
theorem x_ato : ∀ w ∈ Cond.classLink RX8 257 hmNSE :: Cond.initialized hmNSE :: vx_at0 RX8 259 hmNSE hmNSn, vx_ot w = true := by decide +kernel
/-- the two statics that a throw reads -/
def xZq (A : Nat → Prop) (s : State) (H : Heap) : Prop := vx_Zq Bundle.tN "UNASSIGNED_STACK" Bundle.steD A s H ∧ vx_Zq Bundle.tN "SUPPRESSED_SENTINEL" Bundle.listD A s H ∧ ∀ w ∈ hmNXw, va_Nw w s
theorem hmNXw_mv {u U : State} (hv : u.vm.Alike U.vm) (h : ∀ w ∈ hmNXw, va_Nw w u) : ∀ w ∈ hmNXw, va_Nw w U := by
  intro w hw
  have h2 := h w hw
  simp only [hmNXw, List.mem_cons, List.not_mem_nil, or_false] at hw
  rcases hw with rfl | rfl | rfl | rfl
  · exact va_tabs rfl (rfl : (u.setVm U.vm).vm = U.vm) (by rw [Cond.castable_setVm hv]; exact h2)
  · exact va_tabs rfl (rfl : (u.setVm U.vm).vm = U.vm) (by rw [Cond.declares_setVm hv]; exact h2)
  · exact va_tabs rfl (rfl : (u.setVm U.vm).vm = U.vm) (by rw [Cond.declares_setVm hv]; exact h2)
  · exact va_tabs rfl (rfl : (u.setVm U.vm).vm = U.vm) (by rw [Cond.declares_setVm hv]; exact h2)
theorem hmNXw_at {args : Array Value} {s : State} (h : ∀ w ∈ hmNXw, va_Nw w s) : ∀ w ∈ hmNXw, w.before args s = true := by
  intro w hw
  have h2 := h w hw
  simp only [hmNXw, List.mem_cons, List.not_mem_nil, or_false] at hw
  rcases hw with rfl | rfl | rfl | rfl <;> exact va_tabs rfl (rfl : s.vm = s.vm) h2
theorem xZq.moved {A : Nat → Prop} {u U : State} {H : Heap} (hv : u.vm.Alike U.vm) (h : xZq A u H) : xZq A U H := ⟨h.1.moved hv, h.2.1.moved hv, hmNXw_mv hv h.2.2⟩
theorem xZq.kept {A : Nat → Prop} {u : State} {H H1 : Heap} (h : xZq A u H) (hq : ∀ a : Nat, a < H.size → ¬ A a → H1[a]? = H[a]?) : xZq A u H1 := ⟨h.1.kept hq, h.2.1.kept hq, h.2.2⟩
theorem xZq.narrow {A B : Nat → Prop} {u : State} {H : Heap} (h : xZq A u H) (hq : ∀ a, B a → A a) : xZq B u H := ⟨h.1.narrow hq, h.2.1.narrow hq, h.2.2⟩
theorem xWd.grown {D : va_G} {cT : FieldType → ClassId} {A : Nat → Prop} {H H1 : Heap} {sh : xSh} {R : xR} {L : xL} {I : xI} (h : xWd D cT A H sh R L I) (o1 : ∀ q : Nat, q < H.size → H1[q]? = H[q]?) : xWd D cT A H1 sh R L I := by
  obtain ⟨Ls, h1, hP, hD⟩ := h
  exact ⟨Ls, h1, hP.kept (fun k x hx => o1 x.1 (hP k x hx).lt), hD⟩
/-- what holds where it has thrown -/
def xXC (PP : Prop) (D : va_G) (cT : FieldType → ClassId) (sz : Nat) (sh : xSh) (R : xR) (L : xL) (I : xI) : String → State → State → Prop := fun E st t => PP ∧ E = hmNSE ∧ xWd D cT (xA sh sz) t.heap sh R L I ∧ va_F (xA sh sz) st t
def xPz (As : List Value) (D : va_G) (cT : FieldType → ClassId) (ad : (Nat → Nat) × (Nat → Nat)) (sz : Nat) (sh : xSh) (R : xR) (L : xL) (I : xI) : Array Value → State → Prop := fun a U => xPc As D cT ad sz sh R L I a U ∧ xZq (xA sh sz) U U.heap
set_option maxRecDepth 100000 in
set_option maxHeartbeats 4000000 in
theorem xMetX {d : Nat} {sh : xSh} {R : xR} {L : xL} {I : xI} {Q : xQ} {PP : Prop} {b : Nat} {p0 p1 p2 p3 : Int32} {sz : Nat} (hd : 6 ≤ d) (hE : Ey (xTX PP sh R L I) d 1 6 MX8_rests 0 sh R L I 0 (xen [.ref b, .int p0, .int p1, .int p2, .int p3] 11) [] Q) (l : Launch) (hl : l.stackTraces = false) (D : va_G) (cT : FieldType → ClassId) (ad : (Nat → Nat) × (Nat → Nat)) :
    vx_Met l MX8_rests.1 (xws MX8_rests) (xrm d 1 6) (xPz [.ref b, .int p0, .int p1, .int p2, .int p3] D cT ad sz sh R L I) (xQc 1 D cT sz sh Q) (xXC PP D cT sz sh R L I) 1 6 (xA sh sz) := by
  refine vx_ofW (cc := MX8_rests.2.1) (maxL := 11) (ret := some .int) mtX8_rests.2.2.1 rfl ?_
  intro p e s m args below meth c s₁ B hml htab hv
  obtain ⟨⟨rfl, hsz, hW, hK⟩, hZ⟩ := hv
  have hts := atoms_spec (ws := xws MX8_rests) B.pre
  have hgd : ∀ w ∈ lw_good, w.before _ s = true := fun w hw => hts w (List.mem_cons_of_mem _ hw)
  have hown : s.vm.findClass MX8_rests.1.cls = some m.cls := findClass_of_methodNamed B.named
  have hin : meth.name = MX8_rests.1.name := (name_of_methodNamed B.named B.method).1
  have hlk := B.notSynchronized
  subst hsz
  have h1 := lv_entry [Value.ref b, .int p0, .int p1, .int p2, .int p3] (n := 11) (Nat.le_of_ble_eq_true rfl)
  rw [lg_entry_eq]
  refine hE l p e _ s m _ below meth c s.heap [] 0 0 D cT ad (xA sh s.heap.size) _ _ ⟨B.exec, B.bytes, hml, hown, hgd, fun q hq => Or.inr hq, hin, hl, Nat.le_refl d, Nat.le_refl (100 * d), by show 0 + 1 ≤ 1; omega, by show 0 + 6 ≤ 6; omega, B.returns, hlk⟩ hK hW va_S.rf (fun h => absurd rfl h) ?_ ?_ ?_
  · unfold xLs xen
    rw [xpr_xe]
    exact h1
  · intro r n' sh' R' L' I' H' locs' cells' slots' pc' lsr' hq hw hS hc hs hn' hret
    refine vx_ret ?_
    refine W.widen (k := 1) (n := 6) (by omega) (by omega) ?_
    have key : ∀ t : State, t.heap = H' → xQc 1 D cT s.heap.size sh Q (([Value.ref b, .int p0, .int p1, .int p2, .int p3] : List Value).toArray) s (.returned r) t := fun t ht => ⟨⟨r, n', sh', R', L', I', rfl, hq, by rw [ht]; exact hw, fun h => ⟨by obtain ⟨g1, g2, -⟩ := hn' h; omega, (hn' h).2.2⟩⟩, hS.F ht⟩
    cases r with
    | none => exact absurd hret.2 (by simp)
    | some v =>
      cases v with
      | int v =>
        obtain ⟨hd, ty, ht1, ht2⟩ := hret
        exact W.zret B.exec B.bytes (B.returns.trans ht1) ht2 (fun t ht _ => key t ht) hS.2.2 hd
      | long v => exact absurd hret.2 (by simp)
      | float v => exact absurd hret id
      | double v => exact absurd hret id
      | null => exact absurd hret id
      | ref v => exact absurd hret id
      | retAddr v => exact absurd hret id
  · intro hP H' locs' cells' slots' pc' lsr' hpc hS hw hc hs hlz
    have hx : ∀ t : State, s.vm.Alike t.vm → H'.size ≤ t.heap.size → (∀ q : Nat, q < H'.size → t.heap[q]? = H'[q]?) → xXC PP D cT s.heap.size sh R L I hmNSE s t := fun t _ k1 k2 => ⟨hP, rfl, hw.grown k2, Nat.le_trans hS.1 k1, fun q g1 g2 => (k2 q (Nat.lt_of_lt_of_le g1 hS.1)).trans (hS.2.1 q g1 g2)⟩
    have hat : ∀ w ∈ vx_at0 RX8 259 hmNSE hmNSn, w.before _ s = true := fun w hw => by
      rcases x_at0 w hw with h | h
      · exact hgd w h
      · exact hmNXw_at hZ.2.2 w h
    rcases hpc with rfl | rfl
    · exact vx_throw0 (cc := MX8_rests.2.1) (names := hmNSn) B.exec B.bytes hl hown (by decide +kernel) (by decide +kernel) (hgd _ x_atk) (hgd _ x_ati) hat x_ato hZ.1 hZ.2.1 hS hlz dX8_rests_27 dX8_rests_30 dX8_rests_31 dX8_rests_34 (fun x hx => (htab x hx).elim) (by show 2 + 3 < d; omega) (by show 0 + (13 * (2 + 1) + 42) ≤ 100 * d; omega) (by show cells' + 1 ≤ 1; omega) (by show slots' + 6 ≤ 6; omega) hlk hx hS.2.2 (by omega) (by omega)
    · exact vx_throw0 (cc := MX8_rests.2.1) (names := hmNSn) B.exec B.bytes hl hown (by decide +kernel) (by decide +kernel) (hgd _ x_atk) (hgd _ x_ati) hat x_ato hZ.1 hZ.2.1 hS hlz dX8_rests_142 dX8_rests_145 dX8_rests_146 dX8_rests_149 (fun x hx => (htab x hx).elim) (by show 2 + 3 < d; omega) (by show 0 + (13 * (2 + 1) + 42) ≤ 100 * d; omega) (by show cells' + 1 ≤ 1; omega) (by show slots' + 6 ≤ 6; omega) hlk hx hS.2.2 (by omega) (by omega)
/-- the law's own rests: its table of handlers, the statics -/
abbrev MmL_rests : xM := (yL_rests, cL_rests, 7, some .int)
def xCX : xXt := fun _ _ _ _ s _ _ _ _ c _ _ _ A _ _ _ => c.exceptionTable.toList = tableOf [(0, 14, 17, 13)] ∧ xZq A s s.heap
theorem xpz {As : List Value} {d kc ks : Nat} {M : xM} {l : Launch} {p : Program} {RR : Room} {s : State} {m : MethodId} {args : Array Value} {meth : Method} {c : Code} {H : Heap} {locs : List Loc} {cells slots : Nat} {D : va_G} {cT : FieldType → ClassId} {ad : (Nat → Nat) × (Nat → Nat)} {A : Nat → Prop} {sh : xSh} {R : xR} {L : xL} {I : xI} (C : xCx d kc ks M l p RR s m args meth c cells slots A) (K : xKs D cT ad A s s.heap) (Wd : xWd D cT A H sh R L I) (S : va_S A s.heap H locs) (Z : xZq A s s.heap) : ∀ U : State, U.heap = H → s.WarmedH U.vm → xPz As D cT ad H.size sh R L I As.toArray U := by
  intro U hU hW
  refine ⟨xpre C K Wd S U hU hW, ?_⟩
  rw [hU]
  exact xZq.moved hW.alike ((Z.kept S.2.1).narrow (xA_in C Wd S))
theorem xblz {As : List Value} {D : va_G} {cT : FieldType → ClassId} {ad : (Nat → Nat) × (Nat → Nat)} {sz : Nat} {sh : xSh} {R : xR} {L : xL} {I : xI} : FrameBlind (xPz As D cT ad sz sh R L I) := by
  intro a U g mk q
  exact ⟨xblind a U g mk q.1, xZq.moved (u := U) (U := U.calling g mk a) (Vm.Alike.refl U.vm) q.2⟩
set_option maxRecDepth 100000 in
set_option maxHeartbeats 4000000 in
/-- x.rests within the law's own: it goes on, or is caught -/
theorem Ey_try {d kc ks : Nat} {sh : xSh} {R : xR} {L : xL} {I : xI} {ls : List (Option Value)} {rest : List Value} {Q : xQ} {b : Nat} {p0 p1 p2 p3 : Int32} (hs : sh b = some (.inl 8)) (hcat : (rest.map fun v => v.category).sum ≤ 8)
    (kN : ∀ v, spRests p0 p1 p2 p3 = some v → Ey xCX (d + 7) kc ks MmL_rests 0 sh R L I 12 ls (.int v :: rest) Q)
    (kX : spRests p0 p1 p2 p3 = none → ∀ q, Ey xCX (d + 7) kc ks MmL_rests 0 sh R L I 17 ls [.ref q] Q) : Ey xCX (d + 7) (1 + kc) (6 + ks) MmL_rests 0 sh R L I 9 ls (.int p3 :: .int p2 :: .int p1 :: .int p0 :: .ref b :: rest) Q := by
  intro l p e RR s m args below meth c H locs cells slots D cT ad A QQ lsr C K Wd S N Lo Rt Xh
  obtain ⟨htab, hZ⟩ := Xh
  obtain ⟨Ls, w1, w2, w3⟩ := id Wd
  obtain ⟨q0, hq⟩ := xpl_get (f := xcell cT sh R L I) ((w1 b).mpr (by rw [hs]; simp))
  rw [xcell_obj hs] at hq
  have hAA := xA_in C Wd S
  obtain ⟨c1, c2, c3, c4, c5, c6, c7, c8, c9, c10, c11, c12, c13, c14⟩ := id C
  obtain ⟨m1, m2, m3, m4⟩ := mX8_rests
  have hr := vx_runV (Ts := lw_good) (C := (xC 8).1) (As := [.int p0, .int p1, .int p2, .int p3]) (rest := rest) (g := F0 m 9 lsr (.int p3 :: .int p2 :: .int p1 :: .int p0 :: .ref b :: rest)) (H := H) (locs := locs) (cells := cells) (slots := slots) (l := l) (e := e) (below := below) (meth := meth) ⟨c1, c2, c3, c4, c5⟩ (xMetX (PP := spRests p0 p1 p2 p3 = none) (b := b) (p0 := p0) (p1 := p1) (p2 := p2) (p3 := p3) (sz := H.size) (d := d + 6) (by omega) (c_rests (Q := fun r _ sh' R' L' I' => ∃ v, r = some (.int v) ∧ spRests p0 p1 p2 p3 = some v ∧ sh' = sh ∧ R' = R ∧ L' = L ∧ I' = I) (fun v hv => ⟨v, rfl, hv, rfl, rfl, rfl, rfl⟩) id) l c8 D cT ad) ⟨xCB (kc1 := 1) (ks1 := 6) C m1 lL_7, c5 _ m2, c5 _ m3⟩ ⟨xblz, va_recv K.1 w2 (xC_at m4) hq, xpz C K Wd S hZ⟩ rfl rfl Lo.1 rfl (lv_room hcat) dL_rests_9 ⟨by omega, by omega⟩
  intro T hT X
  rcases hr T hT X with ⟨v, st₀, t, T', Lc, h0, X', hL, e1, e2, ⟨⟨r, n', sh', R', L', I', hv, hq', hw, hn'⟩, hF⟩, stp⟩ | ⟨q, st₀, t, T', Lc, E, ce, h0, X', hL, e1, e2, ⟨hP, rfl, hw, hF⟩, hce, hcv, hcl, stp⟩
  · cases hv
    obtain ⟨v2, rfl, hsp, rfl, rfl, rfl, rfl⟩ := hq'
    obtain ⟨k1, k2, k3⟩ := vx_keep (A0 := A) (H0 := s.heap) h0 e1 S (fun q _ h => hAA q h) hAA hL hF
    obtain ⟨t2, a1, b1⟩ := kN v2 hsp l p e RR s m args below meth c T'.heap (locs ++ Lc) (cells + 1) (slots + 6) D cT ad A QQ lsr ⟨c1, c2, c3, c4, c5, c6, c7, c8, c9, c10, by omega, by omega, c13, c14⟩ K (by rw [e1]; exact hw.mono hAA) k3 (fun h => absurd rfl h) Lo (by rw [Nat.add_assoc, Nat.add_assoc]; exact Rt) ⟨htab, hZ⟩ T' rfl X'
    exact ⟨t2, stp t2 a1, b1⟩
  · obtain ⟨k1, k2, k3⟩ := vx_keep (A0 := A) (H0 := s.heap) h0 e1 S (fun q _ h => hAA q h) hAA hL hF
    have hk := kX hP q l p e RR s m args below meth c T'.heap (locs ++ Lc) (cells + 1) (slots + 6) D cT ad A QQ lsr ⟨c1, c2, c3, c4, c5, c6, c7, c8, c9, c10, by omega, by omega, c13, c14⟩ K (by rw [e1]; exact hw.mono hAA) k3 (fun h => absurd rfl h) Lo (by rw [Nat.add_assoc, Nat.add_assoc]; exact Rt) ⟨htab, hZ⟩
    obtain ⟨t2, a1, b1⟩ := vx_catch (pc := 9) (rest := rest) (ls := lsr) (own := RL) (name := hmNSE) c4 [] ⟨0, 14, 17, 13⟩ [] (by rw [htab]; rfl) (fun z hz => absurd hz List.not_mem_nil) (by decide) (by decide) (c5 _ x_atl) (hmNXw_at hZ.2.2 _ (List.mem_cons_self ..)) (by rw [e1]; exact hce) hcv hcl hk T' rfl X'
    exact ⟨t2, stp.trans a1, b1⟩
set_option maxRecDepth 100000 in
set_option maxHeartbeats 4000000 in
theorem l_rests {d : Nat} {sh : xSh} {R : xR} {L : xL} {I : xI} {Q : xQ} {b o : Nat} {p0 p1 p2 p3 : Int32} (hs : sh b = some (.inl 8)) (ho : sh o = some (.inr (.long, 1)))
    (hN : ∀ v, spRests p0 p1 p2 p3 = some v → Q (some (.int 0)) 0 sh R (va_up L o (va_up (L o) 0 v.toInt64)) I) (hX : spRests p0 p1 p2 p3 = none → Q (some (.int 1)) 0 sh R L I) : Ey xCX (d + 7) 1 6 MmL_rests 0 sh R L I 0 [some (.ref b), some (.int p0), some (.int p1), some (.int p2), some (.int p3), some (.ref o), none] [] Q := by
  refine Ey_aload 2 dL_rests_0 rfl rfl ?_
  refine Ey_iconst 3 (v := 0) dL_rests_2 (by decide) rfl ?_
  refine Ey_aload_n 4 (i := 0) dL_rests_3 rfl rfl rfl ?_
  refine Ey_iload_n 5 (i := 1) dL_rests_4 rfl rfl rfl ?_
  refine Ey_iload_n 6 (i := 2) dL_rests_5 rfl rfl rfl ?_
  refine Ey_iload_n 7 (i := 3) dL_rests_6 rfl rfl rfl ?_
  refine Ey_iload 9 dL_rests_7 rfl rfl ?_
  refine Ey_try (kc := 0) (ks := 0) hs (by simp [Value.category]) (fun v hv => ?_) (fun hn q => ?_)
  · refine Ey_i2l 13 dL_rests_12 rfl ?_
    refine Ey_last 14 0 dL_rests_13 ho rfl (by decide) (by decide) rfl ?_
    refine Ey_goto 21 dL_rests_14 (by decide) ?_
    refine Ey_iconst 22 (v := 0) dL_rests_21 (by decide) rfl ?_
    refine Ey_iret dL_rests_22 rfl rfl (Or.inl rfl) ?_
    exact hN v hv
  · refine Ey_astore 19 (ls' := [some (.ref b), some (.int p0), some (.int p1), some (.int p2), some (.int p3), some (.ref o), some (.ref q)]) dL_rests_17 (Nat.le_of_ble_eq_true rfl) rfl rfl rfl ?_
    refine Ey_iconst 20 (v := 1) dL_rests_19 (by decide) rfl ?_
    refine Ey_iret dL_rests_20 rfl rfl (Or.inl rfl) ?_
    exact hX hn
