/-! rows of the law: the script, its own rests, room -/
def xLX (b Ln : Nat) (xs : Nat → Int32) : xXt := fun _ _ _ _ s _ _ _ _ _ _ _ _ A _ _ _ => va_X b Ln xs s s.heap ∧ b < s.heap.size ∧ ¬ A b ∧ xZq A s s.heap
abbrev Mlaw (nm : String) : xM := (⟨RL, nm, "([I)Z"⟩, cL_law, 7, some .boolean)
section EYL
variable {b Ln : Nat} {xs : Nat → Int32} {d kc ks n pc : Nat} {M : xM} {sh : xSh} {R : xR} {L : xL} {I : xI} {ls : List (Option Value)} {st rest : List Value} {Q : xQ}
theorem Ey_sld (pc' : Nat) {i : Int32} (j : Nat) (hd : decode M.2.1 pc = .ok (.iaload, 1)) (hi : i = nI j) (hj : j < Ln) (hL : Ln < 2 ^ 31) (hp : pc + 1 = pc') (k : Ey (xLX b Ln xs) d kc ks M n sh R L I pc' ls (.int (xs j) :: st) Q) : Ey (xLX b Ln xs) d kc ks M n sh R L I pc ls (.int i :: .ref b :: st) Q := by
  subst hp
  intro l p e RR s m args below meth c H locs cells slots D cT ad A QQ lsr C K Wd S N Lo Rt Xh
  obtain ⟨x1, x2, x3, x4⟩ := id Xh
  obtain ⟨g1, g2⟩ := x_in hi hj hL
  refine va_sld C.1 C.2.1 x1 x2 x3 S g1 hd ?_
  rw [g2]
  exact k l p e RR s m args below meth c H locs cells slots D cT ad A QQ lsr C K Wd S N Lo Rt Xh
theorem Ey_slen (pc' : Nat) (hd : decode M.2.1 pc = .ok (.arraylength, 1)) (hp : pc + 1 = pc') (k : Ey (xLX b Ln xs) d kc ks M n sh R L I pc' ls (.int (nI Ln) :: st) Q) : Ey (xLX b Ln xs) d kc ks M n sh R L I pc ls (.ref b :: st) Q := by
  subst hp
  intro l p e RR s m args below meth c H locs cells slots D cT ad A QQ lsr C K Wd S N Lo Rt Xh
  obtain ⟨x1, x2, x3, x4⟩ := id Xh
  exact va_slen C.1 C.2.1 x1 x2 x3 S hd (k l p e RR s m args below meth c H locs cells slots D cT ad A QQ lsr C K Wd S N Lo Rt Xh)
theorem Ey_wid {kc' ks' : Nat} (h1 : kc ≤ kc') (h2 : ks ≤ ks') (hQ : ∀ r n sh R L I, Q r n sh R L I → n = 0) (k : Ey (xLX b Ln xs) d kc ks M n sh R L I pc ls st Q) : Ey (xLX b Ln xs) d kc' ks' M n sh R L I pc ls st Q := by
  intro l p e RR s m args below meth c H locs cells slots D cT ad A QQ lsr C K Wd S N Lo Rt Xh
  obtain ⟨c1, c2, c3, c4, c5, c6, c7, c8, c9, c10, c11, c12, c13, c14⟩ := id C
  refine k l p e RR s m args below meth c H locs cells slots D cT ad A QQ lsr ⟨c1, c2, c3, c4, c5, c6, c7, c8, c9, c10, by omega, by omega, c13, c14⟩ K Wd S N Lo ?_ Xh
  intro r n' sh' R' L' I' H' locs' cells' slots' pc' lsr' hq hw hS hc hs hn' hret
  exact Rt r n' sh' R' L' I' H' locs' cells' slots' pc' lsr' hq hw hS (by omega) (by omega) (fun h => absurd (hQ _ _ _ _ _ _ hq) h) hret
def xwsW : List Cond := Cond.codeWith yL_rests cL_rests 7 (some .int) [(0, 14, 17, 13)] :: lw_good
set_option maxRecDepth 100000 in
set_option maxHeartbeats 4000000 in
theorem xMetR {x o : Nat} {p0 p1 p2 p3 : Int32} {sz : Nat} (hE : Ey xCX d 1 6 MmL_rests 0 sh R L I 0 (xen [.ref x, .int p0, .int p1, .int p2, .int p3, .ref o] 7) [] Q) (l : Launch) (hl : l.stackTraces = false) (D : va_G) (cT : FieldType → ClassId) (ad : (Nat → Nat) × (Nat → Nat)) :
    Met l yL_rests xwsW (xrm d 1 6) (xPz [.ref x, .int p0, .int p1, .int p2, .int p3, .ref o] D cT ad sz sh R L I) (xQc 1 D cT sz sh Q) 1 6 (xA sh sz) := by
  refine va_MetW (cc := cL_rests) (maxL := 7) (ret := some .int) (hh := [(0, 14, 17, 13)]) (by decide +kernel) rfl ?_
  intro p e s m args below meth c s₁ B hml hv
  obtain ⟨⟨rfl, hsz, hW, hK⟩, hZ⟩ := hv
  have hts := atoms_spec (ws := xwsW) B.pre
  have hgd : ∀ w ∈ lw_good, w.before _ s = true := fun w hw => hts w (List.mem_cons_of_mem _ hw)
  have hown : s.vm.findClass yL_rests.cls = some m.cls := findClass_of_methodNamed B.named
  have hin : meth.name = yL_rests.name := (name_of_methodNamed B.named B.method).1
  have hlk := B.notSynchronized
  have htab : c.exceptionTable.toList = tableOf [(0, 14, 17, 13)] := vx_table (x := yL_rests) B (hts _ (List.mem_cons_self ..))
  subst hsz
  have h1 := lv_entry [Value.ref x, .int p0, .int p1, .int p2, .int p3, .ref o] (n := 7) (Nat.le_of_ble_eq_true rfl)
  rw [lg_entry_eq]
  refine hE l p e _ s m _ below meth c s.heap [] 0 0 D cT ad (xA sh s.heap.size) _ _ ⟨B.exec, B.bytes, hml, hown, hgd, fun q hq => Or.inr hq, hin, hl, Nat.le_refl d, Nat.le_refl (100 * d), by show 0 + 1 ≤ 1; omega, by show 0 + 6 ≤ 6; omega, B.returns, hlk⟩ hK hW va_S.rf (fun h => absurd rfl h) ?_ ?_ ⟨htab, hZ⟩
  · unfold xLs xen
    rw [xpr_xe]
    exact h1
  · intro r n' sh' R' L' I' H' locs' cells' slots' pc' lsr' hq hw hS hc hs hn' hret
    refine W.widen (k := 1) (n := 6) (by omega) (by omega) ?_
    have key : ∀ t : State, t.heap = H' → xQc 1 D cT s.heap.size sh Q (([Value.ref x, .int p0, .int p1, .int p2, .int p3, .ref o] : List Value).toArray) s (.returned r) t := fun t ht => ⟨⟨r, n', sh', R', L', I', rfl, hq, by rw [ht]; exact hw, fun h => ⟨by obtain ⟨g1, g2, -⟩ := hn' h; omega, (hn' h).2.2⟩⟩, hS.F ht⟩
    cases r with
    | none => exact absurd hret.2 (by simp)
    | some v =>
      cases v with
      | int v =>
        obtain ⟨hd, ty, ht1, ht2⟩ := hret
        exact W.zret B.exec B.bytes (B.returns.trans ht1) ht2 (fun t ht _ => key t ht) hS.2.2 hd
      | long v => exact absurd hret.2 (by simp)
      | float v => exact absurd hret id
      | double v => exact absurd hret id
      | null => exact absurd hret id
      | ref v => exact absurd hret id
      | retAddr v => exact absurd hret id
theorem x_wsS : GoodIn lw_good (va_wsS RL 153 yL_rests xwsW) := by
  intro w hw
  refine lw_good_in w ?_
  simp only [va_wsS, xwsW, List.mem_append, List.mem_cons, List.not_mem_nil, or_false] at hw
  rcases hw with (h | h | h) | h | h
  · rw [h]; exact x_atr
  · rw [h]; exact x_ats
  · rw [h]; exact xi_RL
  · rw [h]; exact x_atw
  · exact h
set_option maxRecDepth 100000 in
set_option maxHeartbeats 4000000 in
theorem Ey_rests (pc' : Nat) {x o : Nat} {p0 p1 p2 p3 : Int32} (hd : decode M.2.1 pc = .ok (.invokestatic 153, 3)) (hcls : M.1.cls = RL) (hsx : sh x = some (.inl 8)) (hso : sh o = some (.inr (.long, 1))) (hcat : (rest.map fun v => v.category).sum ≤ 8) (hp : pc + 3 = pc')
    (kN : ∀ v, spRests p0 p1 p2 p3 = some v → Ey (xLX b Ln xs) (d + 8) kc ks M 0 sh R (va_up L o (va_up (L o) 0 v.toInt64)) I pc' ls (.int 0 :: rest) Q)
    (kX : spRests p0 p1 p2 p3 = none → Ey (xLX b Ln xs) (d + 8) kc ks M 0 sh R L I pc' ls (.int 1 :: rest) Q) : Ey (xLX b Ln xs) (d + 8) (1 + kc) (6 + ks) M 0 sh R L I pc ls (.ref o :: .int p3 :: .int p2 :: .int p1 :: .int p0 :: .ref x :: rest) Q := by
  subst hp
  intro l p e RR s m args below meth c H locs cells slots D cT ad A QQ lsr C K Wd S N Lo Rt Xh
  refine xgoY (d := d + 7) (rest := rest) (Q' := fun r _ sh' R' L' I' => Ey (xLX b Ln xs) (d + 8) kc ks M 0 sh' R' L' I' (pc + 3) ls (r.toList ++ rest) Q) (kc1 := 1) (ks1 := 6) (n2 := fun _ => 0) (a := ([Value.ref x, .int p0, .int p1, .int p2, .int p3, .ref o] : List Value).toArray) C K Wd S N Lo Rt Xh (fun _ => ?_) (fun _ h => absurd rfl h) (fun h => absurd rfl h) (fun r n' sh' R' L' I' h => h)
  obtain ⟨c1, c2, c3, c4, c5, c6, c7, c8, c9, c10, c11, c12, c13, c14⟩ := id C
  rw [hcls] at c4
  exact vx_runSW (Ts := lw_good) (own := RL) (bytes := cL_rests) (maxL := 7) (ret := some .int) (hh := [(0, 14, 17, 13)]) (ws := xwsW) (rm := xrm (d + 7) 1 6) (As := [.ref x, .int p0, .int p1, .int p2, .int p3, .ref o]) (rest := rest) ⟨c1, c2, c3, c4, c5⟩ (xMetR (sz := H.size) (l_rests hsx hso (fun v hv => kN v hv) (fun hv => kX hv)) l c8 D cT ad) (vx_cwSW 6 c5 x_wsS rfl rfl rfl ⟨by decide +kernel, by decide +kernel, by decide +kernel⟩ ⟨by show d + 7 + 1 ≤ RR.frames; omega, by show 8 + (7 + 11) + 100 * (d + 7) ≤ RR.locals; omega⟩) ⟨xblz, xpz C K Wd S Xh.2.2.2⟩ rfl rfl Lo.1 rfl (lv_room hcat) hd ⟨by omega, by omega⟩
end EYL
