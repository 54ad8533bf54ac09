theorem z_toks {T : List Nat} (h : T.length ≤ 1000) : ∃ t r, hmTsR T (t :: r) 0 ∧ (t :: r).length ≤ 1001 := by
  obtain ⟨h1, h2⟩ := hmTkl_ok T (T.length + 1) 0 (Nat.zero_le _) (by omega)
  cases hq : hmTkl T (T.length + 1) 0 with
  | nil =>
    rw [hq] at h1
    exact absurd h1 (by simp [hmTsR])
  | cons t r =>
    rw [hq] at h1 h2
    exact ⟨t, r, h1, by omega⟩
theorem z_nms {O : hmO} {N : Nat → List Nat} {i : Nat} (hi : i < hmN O) : ((List.range (hmN O)).map N).getD i [] = N i := by
  rw [List.getD_eq_getElem?_getD, List.getElem?_map, List.getElem?_range hi]
  rfl
theorem z_lgc (x : Int64) : lg_cmp x x = 0 := by
  simp [lg_cmp]
theorem z_dok {O : hmO} {N : Nat → List Nat} {D : hmDay} {ts : List hmTok} (h : hmRD ((List.range (hmN O)).map N) 1000 [] ts = .inr D) : hmDok O D := by
  intro x hx
  have h1 := hmRD_inr 1000 [] D ts h (fun x hx => absurd hx List.not_mem_nil) x hx
  rw [List.length_map, List.length_range] at h1
  exact h1
set_option maxHeartbeats 4000000 in
theorem lc_office {d kc ks b i s Ln h dk dd pl pd e : Nat} {nm : String} {xs : Nat → Int32} {sh : xSh} {R : xR} {L : xL} {I : xI} {Q : xQ} {Z : hmZ} (hc : zC sh R L I h dk dd pl pd e Z) (hr : zR sh R L I (h + 169) Z) (hz : zOk Z b) (hb : b + 1 ≤ 600) (hi : i + 7 ≤ Ln) (hLn : Ln ≤ 3584) (hK : ∀ (R' : xR) (L' : xL) (I' : xI) (dk' dd' pl' pd' e' : Nat) (Z' : hmZ), zC sh R' L' I' h dk' dd' pl' pd' e' Z' → zR sh R' L' I' (h + 169) Z' → zOk Z' (b + 1) → Ey (xLX s Ln xs) (d + 60) kc ks (Mlaw nm) 0 sh R' L' I' 1304 [some (.ref s), some (.ref h), some (.ref (h + 169)), some (.ref (h + 207)), some (.int (nI i)), none, none] [] Q) : Ey (xLX s Ln xs) (d + 60) kc ks (Mlaw nm) 0 sh R L I 343 [some (.ref s), some (.ref h), some (.ref (h + 169)), some (.ref (h + 207)), some (.int (nI i)), none, none] [] Q := by
  obtain ⟨t, r, hts, hlen⟩ := z_toks hc.gT.1
  have hd := hc.gK
  cases hro : hmRO 1000 hmDr0 (t :: r) with
  | inl F =>
    refine Ey_aload_n 344 (i := 1) dL_law_343 rfl rfl rfl ?_
    refine Ey_callV (M' := MX8_office) 347 [] (rest := []) dL_law_344 lL_26 mX8_office rfl (xH_0 hc.gX) rfl (Nat.le_of_ble_eq_true rfl) (Nat.le_of_ble_eq_true rfl) rfl ?_
    refine c_office hc.gX hz.2.2.2.2.2.2.1 hc.gT hts hlen (fun F1 I1 L1 q _ _ f1 l1 t1 => ?_) (fun D lw I1 L1 q => by rw [hro] at q; cases q)
    simp only [Option.toList, List.cons_append, List.nil_append]
    cases hro.symm.trans q
    have hc1 := hc.tp (L' := L1) (fun x a1 a2 a3 a4 a5 => f1 x a1 (by omega) a4) (hmTp_nil t1) (fun w hw => by rw [l1 _ (by omega) (by omega)])
    have hr1 := hr.out (fun x a1 a2 => f1 x (by omega) (by omega) (by omega)) (fun x a1 a2 => l1 x (by omega) (by omega))
    refine Ey_aload_n 348 (i := 2) dL_law_347 rfl rfl rfl ?_
    refine Ey_callV (M' := MX9_office) 351 [] (rest := [.int (nI F)]) dL_law_348 lL_30 mX9_office rfl (xMs_0 hr.gX) rfl (Nat.le_of_ble_eq_true rfl) (Nat.le_of_ble_eq_true rfl) rfl ?_
    refine mq_office (lw := []) hr1.gX hr1.gT hz.2.2.2.2.2.2.1 hts hlen (fun D q => by rw [hro] at q; cases q) (fun F2 I2 L2 q _ _ w2 l2 t2 => ?_) (fun D I2 L2 q => by rw [hro] at q; cases q)
    simp only [Option.toList, List.cons_append, List.nil_append]
    cases hro.symm.trans q
    have hr2 := hr1.wf hz.1 w2 l2 t2
    have hc2 := hc1.out (fun x a1 => zwf_lo w2 x (by omega)) (fun x a1 => l2.1 x (by omega) (by omega))
    refine Ey_icmp_eq 354 1304 dL_law_351 (by decide) rfl (fun c1 => ?_) (fun c1 => absurd c1 (not_not_intro rfl))
    exact hK _ _ _ _ _ _ _ _ _ hc2 hr2 (hz.ts hb (fun x hx => absurd hx List.not_mem_nil))
  | inr D =>
    refine Ey_aload_n 344 (i := 1) dL_law_343 rfl rfl rfl ?_
    refine Ey_callV (M' := MX8_office) 347 [] (rest := []) dL_law_344 lL_26 mX8_office rfl (xH_0 hc.gX) rfl (Nat.le_of_ble_eq_true rfl) (Nat.le_of_ble_eq_true rfl) rfl ?_
    refine c_office hc.gX hz.2.2.2.2.2.2.1 hc.gT hts hlen (fun F1 I1 L1 q => by rw [hro] at q; cases q) (fun D1 lw I1 L1 q hD1 x1 f1 f2 f3 f4 f5 f6 f7 f8 f9 f10 f11 f12 f13 l1 t1 => ?_)
    simp only [Option.toList, List.cons_append, List.nil_append]
    cases hro.symm.trans q
    have ho := hmOok_oo hD1 f12 f13
    have hc1 := zC_nw (N := (fun w => (D.1.getD w ([], 0, 0, 0, 0)).1)) (e := e) x1 hc.gP.2.1 f10 f9 f6 f3 ((f2 9 (by decide) (by decide) (by decide)).trans hc.gP.2.2.2.1) f8 f4 f5 t1 f7 f11
    have hr0 := hr.out (I' := I1) (L' := L1) (fun x a1 a2 => f1 x (by omega) (by omega) (by omega) (by omega) (fun i hi => by omega) (by omega) (by omega) (by omega)) (fun x a1 a2 => l1 x (by omega) (by omega))
    have hr1 : zR sh (va_up R h (va_up (va_up (R h) 1 (some dd)) 2 (some dk))) L1 I1 (h + 169) Z := ⟨hr0.gX.rw' (va_up_ne _ _ (by omega)), hr0.2⟩
    refine Ey_aload_n 348 (i := 2) dL_law_347 rfl rfl rfl ?_
    refine Ey_callV (M' := MX9_office) 351 [] (rest := [.int 0]) dL_law_348 lL_30 mX9_office rfl (xMs_0 hr.gX) rfl (Nat.le_of_ble_eq_true rfl) (Nat.le_of_ble_eq_true rfl) rfl ?_
    refine mq_office (lw := lw) hr1.gX hr1.gT hz.2.2.2.2.2.2.1 hts hlen (fun D2 q2 hD2 => by cases hro.symm.trans q2; exact ⟨ho, f13⟩) (fun F2 I2 L2 q => by rw [hro] at q; cases q) (fun D2 I2 L2 q2 hD2 g1 g2 g3 g4 g5 g6 g7 g8 g9 g10 g11 g12 => ?_)
    simp only [Option.toList, List.cons_append, List.nil_append]
    cases hro.symm.trans q2
    have hr2 := zR_nw (N := (fun w => (D.1.getD w ([], 0, 0, 0, 0)).1)) hr1.gX g10 g9 g6 g3 g8 g7 g2 g4 g11
    have hc2 := hc1.out (I' := I2) (L' := L2) (fun x a1 => g1 x (by omega) (by omega) (by omega) (by omega) (by omega) (by omega)) (fun x a1 => g12 x (by omega) (by omega))
    refine Ey_icmp_eq 354 1304 dL_law_351 (by decide) rfl (fun c41 => ?_) (fun c41 => absurd c41 (not_not_intro rfl))
    exact hK _ _ _ _ _ _ _ _ _ hc2 hr2 (zOk_nw ho (fun w hw => hmDr_nm hD1 hw) hb)
set_option maxHeartbeats 4000000 in
theorem lc_day {d kc ks b i s Ln h dk dd pl pd e : Nat} {nm : String} {xs : Nat → Int32} {sh : xSh} {R : xR} {L : xL} {I : xI} {Q : xQ} {Z : hmZ} (hc : zC sh R L I h dk dd pl pd e Z) (hr : zR sh R L I (h + 169) Z) (hz : zOk Z b) (hb : b + 1 ≤ 600) (hi : i + 7 ≤ Ln) (hLn : Ln ≤ 3584) (hK : ∀ (R' : xR) (L' : xL) (I' : xI) (dk' dd' pl' pd' e' : Nat) (Z' : hmZ), zC sh R' L' I' h dk' dd' pl' pd' e' Z' → zR sh R' L' I' (h + 169) Z' → zOk Z' (b + 1) → Ey (xLX s Ln xs) (d + 60) kc ks (Mlaw nm) 0 sh R' L' I' 1304 [some (.ref s), some (.ref h), some (.ref (h + 169)), some (.ref (h + 207)), some (.int (nI i)), none, none] [] Q) : Ey (xLX s Ln xs) (d + 60) kc ks (Mlaw nm) 0 sh R L I 356 [some (.ref s), some (.ref h), some (.ref (h + 169)), some (.ref (h + 207)), some (.int (nI i)), none, none] [] Q := by
  obtain ⟨t, r, hts, hlen⟩ := z_toks hc.gT.1
  have hd := hc.gK
  have hnl : ((List.range (hmN (zO Z))).map (zN Z)).length = hmN (zO Z) := by rw [List.length_map, List.length_range]
  have hnl6 : ((List.range (hmN (zO Z))).map (zN Z)).length ≤ 6 := by rw [hnl]; exact hz.1.1
  have hn1 : ∀ i, i < ((List.range (hmN (zO Z))).map (zN Z)).length → L (dk + 1) i = hmE256 (((List.range (hmN (zO Z))).map (zN Z)).getD i []) ∧ hmWd (((List.range (hmN (zO Z))).map (zN Z)).getD i []) := fun i hi => by
    rw [hnl] at hi
    rw [z_nms hi]
    exact ⟨hc.gN i hi, hz.2.2.2.2.2.2.2.1 i hi⟩
  have hn2 : ∀ i, i < ((List.range (hmN (zO Z))).map (zN Z)).length → L (h + 169 + 3) (0 + i) = hmE27 (((List.range (hmN (zO Z))).map (zN Z)).getD i []) ∧ hmWd (((List.range (hmN (zO Z))).map (zN Z)).getD i []) := fun i hi => by
    rw [hnl] at hi
    rw [z_nms hi, Nat.zero_add]
    exact ⟨hr.gN i hi, hz.2.2.2.2.2.2.2.1 i hi⟩
  cases hro : hmRD ((List.range (hmN (zO Z))).map (zN Z)) 1000 [] (t :: r) with
  | inl F =>
    refine Ey_aload_n 357 (i := 1) dL_law_356 rfl rfl rfl ?_
    refine Ey_callV (M' := MX8_day) 360 [] (rest := []) dL_law_357 lL_31 mX8_day rfl (xH_0 hc.gX) rfl (Nat.le_of_ble_eq_true rfl) (Nat.le_of_ble_eq_true rfl) rfl ?_
    refine c_day hc.gX hz.2.2.2.2.2.2.1 hc.gT hts (nms := ((List.range (hmN (zO Z))).map (zN Z))) hnl6 (by rw [hnl]; exact hc.gO.1) hn1 (fun F1 I1 L1 q _ _ f1 l1 t1 => ?_) (fun D I1 L1 q => by rw [hro] at q; cases q)
    simp only [Option.toList, List.cons_append, List.nil_append]
    cases hro.symm.trans q
    have hc1 := hc.tp (L' := L1) (fun x a1 a2 a3 a4 a5 => f1 x a1 (by omega) a5) (hmTp_nil t1) (fun w hw => by rw [l1 _ (by omega)])
    have hl1 : ∀ x, h + 169 ≤ x → L1 x = L x := fun x hx => l1 x (by omega)
    have hr1 := hr.out (fun x a1 a2 => f1 x (by omega) (by omega) (by omega)) (fun x a1 a2 => hl1 x a1)
    refine Ey_aload_n 361 (i := 2) dL_law_360 rfl rfl rfl ?_
    refine Ey_callV (M' := MX9_day) 364 [] (rest := [.int (nI F)]) dL_law_361 lL_34 mX9_day rfl (xMs_0 hr.gX) rfl (Nat.le_of_ble_eq_true rfl) (Nat.le_of_ble_eq_true rfl) rfl ?_
    refine mq_day hr1.gX hr1.gT hz.2.2.2.2.2.2.1 hts hlen (nms := ((List.range (hmN (zO Z))).map (zN Z))) hnl6 (by rw [hnl]; exact hr1.gO.1) (fun i hi => by rw [hl1 _ (by omega)]; exact hn2 i hi) (fun F2 I2 L2 q _ _ g1 g2 g3 g4 g5 g6 => ?_) (fun D I2 L2 q => by rw [hro] at q; cases q)
    simp only [Option.toList, List.cons_append, List.nil_append]
    cases hro.symm.trans q
    have hr2 := hr1.dy g1 g2 g4 (fun k E a1 a2 a3 => g5 k E a1 a3) (g5 0 _ (by decide) hr1.gD) g6
    have hc2 := hc1.out (fun x a1 => g1 x (by omega) (by omega)) (fun x a1 => g6.1 x (by omega))
    refine Ey_icmp_eq 367 1304 dL_law_364 (by decide) rfl (fun c1 => ?_) (fun c1 => absurd c1 (not_not_intro rfl))
    exact hK _ _ _ _ _ _ _ _ _ hc2 hr2 (hz.ts hb (fun x hx => absurd hx List.not_mem_nil))
  | inr D =>
    refine Ey_aload_n 357 (i := 1) dL_law_356 rfl rfl rfl ?_
    refine Ey_callV (M' := MX8_day) 360 [] (rest := []) dL_law_357 lL_31 mX8_day rfl (xH_0 hc.gX) rfl (Nat.le_of_ble_eq_true rfl) (Nat.le_of_ble_eq_true rfl) rfl ?_
    refine c_day hc.gX hz.2.2.2.2.2.2.1 hc.gT hts (nms := ((List.range (hmN (zO Z))).map (zN Z))) hnl6 (by rw [hnl]; exact hc.gO.1) hn1 (fun F1 I1 L1 q => by rw [hro] at q; cases q) (fun D1 I1 L1 q x1 f1 l1 t1 p1 => ?_)
    simp only [Option.toList, List.cons_append, List.nil_append]
    cases hro.symm.trans q
    have hc1 := hc.ds (L' := L1) x1 f1 t1 p1 (fun w hw => by rw [l1 _ (by omega)])
    have hl1 : ∀ x, h + 169 ≤ x → L1 x = L x := fun x hx => l1 x (by omega)
    have hr0 := hr.out (I' := I1) (L' := L1) (fun x a1 a2 => f1 x (by omega) (by omega) (by omega)) (fun x a1 a2 => hl1 x a1)
    have hr1 : zR sh (va_up R h (va_up (va_up (R h) 3 (some pd)) 4 (some pl))) L1 I1 (h + 169) Z := ⟨hr0.gX.rw' (va_up_ne _ _ (by omega)), hr0.2⟩
    refine Ey_aload_n 361 (i := 2) dL_law_360 rfl rfl rfl ?_
    refine Ey_callV (M' := MX9_day) 364 [] (rest := [.int 0]) dL_law_361 lL_34 mX9_day rfl (xMs_0 hr.gX) rfl (Nat.le_of_ble_eq_true rfl) (Nat.le_of_ble_eq_true rfl) rfl ?_
    refine mq_day hr1.gX hr1.gT hz.2.2.2.2.2.2.1 hts hlen (nms := ((List.range (hmN (zO Z))).map (zN Z))) hnl6 (by rw [hnl]; exact hr1.gO.1) (fun i hi => by rw [hl1 _ (by omega)]; exact hn2 i hi) (fun F2 I2 L2 q => by rw [hro] at q; cases q) (fun D2 I2 L2 q2 g1 g2 g3 g4 g5 g6 g7 => ?_)
    simp only [Option.toList, List.cons_append, List.nil_append]
    cases hro.symm.trans q2
    have hr2 := hr1.dy g1 g2 g4 g5 g6 g7
    have hc2 := hc1.out (fun x a1 => g1 x (by omega) (by omega)) (fun x a1 => g7.1 x (by omega))
    refine Ey_icmp_eq 367 1304 dL_law_364 (by decide) rfl (fun c41 => ?_) (fun c41 => absurd c41 (not_not_intro rfl))
    exact hK _ _ _ _ _ _ _ _ _ hc2 hr2 (hz.ds hb (z_dok hro))
set_option maxHeartbeats 4000000 in
theorem lc_rests {d kc ks b i s Ln h dk dd pl pd e : Nat} {nm : String} {xs : Nat → Int32} {sh : xSh} {R : xR} {L : xL} {I : xI} {Q : xQ} {Z : hmZ} (hc : zC sh R L I h dk dd pl pd e Z) (hr : zR sh R L I (h + 169) Z) (hz : zOk Z b) (hb : b + 1 ≤ 600) (hi : i + 7 ≤ Ln) (hLn : Ln ≤ 3584) (hso : sh (h + 207) = some (.inr (.long, 1))) (hK : ∀ (R' : xR) (L' : xL) (I' : xI) (dk' dd' pl' pd' e' : Nat) (Z' : hmZ), zC sh R' L' I' h dk' dd' pl' pd' e' Z' → zR sh R' L' I' (h + 169) Z' → zOk Z' (b + 1) → Ey (xLX s Ln xs) (d + 60) kc ks (Mlaw nm) 0 sh R' L' I' 1304 [some (.ref s), some (.ref h), some (.ref (h + 169)), some (.ref (h + 207)), some (.int (nI i)), none, none] [] Q) : Ey (xLX s Ln xs) (d + 60) (1 + kc) (6 + ks) (Mlaw nm) 0 sh R L I 1085 [some (.ref s), some (.ref h), some (.ref (h + 169)), some (.ref (h + 207)), some (.int (nI i)), none, none] [] Q := by
  cases hq : spRests (xs (i + 1)) (xs (i + 2)) (xs (i + 3)) (xs (i + 4)) with
  | none =>
    refine Ey_aload_n 1086 (i := 1) dL_law_1085 rfl rfl rfl ?_
    refine Ey_aload_n 1087 (i := 0) dL_law_1086 rfl rfl rfl ?_
    refine Ey_iload 1089 dL_law_1087 rfl rfl ?_
    refine Ey_iconst 1090 (v := 1) dL_law_1089 (by decide) rfl ?_
    refine Ey_iadd 1091 dL_law_1090 rfl ?_
    refine Ey_sld 1092 (i + 1) dL_law_1091 (hm_ad rfl rfl) (by omega) (by omega) rfl ?_
    refine Ey_aload_n 1093 (i := 0) dL_law_1092 rfl rfl rfl ?_
    refine Ey_iload 1095 dL_law_1093 rfl rfl ?_
    refine Ey_iconst 1096 (v := 2) dL_law_1095 (by decide) rfl ?_
    refine Ey_iadd 1097 dL_law_1096 rfl ?_
    refine Ey_sld 1098 (i + 2) dL_law_1097 (hm_ad rfl rfl) (by omega) (by omega) rfl ?_
    refine Ey_aload_n 1099 (i := 0) dL_law_1098 rfl rfl rfl ?_
    refine Ey_iload 1101 dL_law_1099 rfl rfl ?_
    refine Ey_iconst 1102 (v := 3) dL_law_1101 (by decide) rfl ?_
    refine Ey_iadd 1103 dL_law_1102 rfl ?_
    refine Ey_sld 1104 (i + 3) dL_law_1103 (hm_ad rfl rfl) (by omega) (by omega) rfl ?_
    refine Ey_aload_n 1105 (i := 0) dL_law_1104 rfl rfl rfl ?_
    refine Ey_iload 1107 dL_law_1105 rfl rfl ?_
    refine Ey_iconst 1108 (v := 4) dL_law_1107 (by decide) rfl ?_
    refine Ey_iadd 1109 dL_law_1108 rfl ?_
    refine Ey_sld 1110 (i + 4) dL_law_1109 (hm_ad rfl rfl) (by omega) (by omega) rfl ?_
    refine Ey_aload_n 1111 (i := 3) dL_law_1110 rfl rfl rfl ?_
    refine Ey_rests 1114 dL_law_1111 rfl (xH_0 hc.gX) hso (by decide) rfl (fun v1 hv1 => absurd (hq.symm.trans hv1) (by simp)) (fun _ => ?_)
    have hc1 := hc
    have hr1 := hr
    refine Ey_istore 1116 (ls' := [some (.ref s), some (.ref h), some (.ref (h + 169)), some (.ref (h + 207)), some (.int (nI i)), some (.int 1), none]) dL_law_1114 (Nat.le_of_ble_eq_true rfl) rfl rfl rfl ?_
    refine Ey_aload_n 1117 (i := 2) dL_law_1116 rfl rfl rfl ?_
    refine Ey_aload_n 1118 (i := 0) dL_law_1117 rfl rfl rfl ?_
    refine Ey_iload 1120 dL_law_1118 rfl rfl ?_
    refine Ey_iconst 1121 (v := 1) dL_law_1120 (by decide) rfl ?_
    refine Ey_iadd 1122 dL_law_1121 rfl ?_
    refine Ey_sld 1123 (i + 1) dL_law_1122 (hm_ad rfl rfl) (by omega) (by omega) rfl ?_
    refine Ey_aload_n 1124 (i := 0) dL_law_1123 rfl rfl rfl ?_
    refine Ey_iload 1126 dL_law_1124 rfl rfl ?_
    refine Ey_iconst 1127 (v := 2) dL_law_1126 (by decide) rfl ?_
    refine Ey_iadd 1128 dL_law_1127 rfl ?_
    refine Ey_sld 1129 (i + 2) dL_law_1128 (hm_ad rfl rfl) (by omega) (by omega) rfl ?_
    refine Ey_aload_n 1130 (i := 0) dL_law_1129 rfl rfl rfl ?_
    refine Ey_iload 1132 dL_law_1130 rfl rfl ?_
    refine Ey_iconst 1133 (v := 3) dL_law_1132 (by decide) rfl ?_
    refine Ey_iadd 1134 dL_law_1133 rfl ?_
    refine Ey_sld 1135 (i + 3) dL_law_1134 (hm_ad rfl rfl) (by omega) (by omega) rfl ?_
    refine Ey_aload_n 1136 (i := 0) dL_law_1135 rfl rfl rfl ?_
    refine Ey_iload 1138 dL_law_1136 rfl rfl ?_
    refine Ey_iconst 1139 (v := 4) dL_law_1138 (by decide) rfl ?_
    refine Ey_iadd 1140 dL_law_1139 rfl ?_
    refine Ey_sld 1141 (i + 4) dL_law_1140 (hm_ad rfl rfl) (by omega) (by omega) rfl ?_
    refine Ey_callV (M' := MX9_rests) 1144 [.int (xs (i + 1)), .int (xs (i + 2)), .int (xs (i + 3)), .int (xs (i + 4))] (rest := []) dL_law_1141 lL_158 mX9_rests rfl (xMs_0 hr.gX) rfl (Nat.le_of_ble_eq_true rfl) (Nat.le_of_ble_eq_true rfl) rfl ?_
    refine mq_rests hr1.gX (fun I2 g1 g2 g3 => ?_)
    simp only [Option.toList, List.cons_append, List.nil_append]
    simp only [hq, Option.getD_none]
    have g4 : I2 (h + 169) 0 = 1 := by
      rw [g3, hq]
      rfl
    have hr2 := hr1.kept (I' := I2) (by rw [g1 (h + 169 + 28) (by omega)]; exact hr1.gH) (fun x a1 a2 a3 a4 a5 => g1 x (by omega)) ⟨g2 1 (by decide), g2 45 (by decide), g2 46 (by decide)⟩ (fun _ _ => rfl)
    have hc2 := hc1.out (I' := I2) (fun x a1 => g1 x (by omega)) (fun _ _ => rfl)
    refine Ey_istore 1146 (ls' := [some (.ref s), some (.ref h), some (.ref (h + 169)), some (.ref (h + 207)), some (.int (nI i)), some (.int 1), some (.int 0)]) dL_law_1144 (Nat.le_of_ble_eq_true rfl) rfl rfl rfl ?_
    refine Ey_aload_n 1147 (i := 2) dL_law_1146 rfl rfl rfl ?_
    refine Ey_callV (M' := MX9_thrown) 1150 [] (rest := []) dL_law_1147 lL_159 mX9_thrown rfl (xMs_0 hr.gX) rfl (Nat.le_of_ble_eq_true rfl) (Nat.le_of_ble_eq_true rfl) rfl ?_
    refine mq_thrown hr2.gX ?_
    simp only [Option.toList, List.cons_append, List.nil_append]
    refine Ey_iload 1152 dL_law_1150 rfl rfl ?_
    refine Ey_icmp_eq 1155 1157 dL_law_1152 (by decide) rfl (fun c1 => ?_) (fun c1 => absurd c1 (not_not_intro g4))
    refine Ey_iload 1159 dL_law_1157 rfl rfl ?_
    refine Ey_if_ne 1162 1174 dL_law_1159 (by decide) rfl (fun c2 => ?_) (fun c2 => absurd c2 (by decide))
    refine Ey_goto 1304 dL_law_1174 (by decide) ?_
    refine Ey_fgt (ls' := [some (.ref s), some (.ref h), some (.ref (h + 169)), some (.ref (h + 207)), some (.int (nI i)), none, none]) (by simp [xsub]) ?_
    exact hK _ _ _ _ _ _ _ _ _ hc2 hr2 (hz.up hb)
  | some v =>
    refine Ey_aload_n 1086 (i := 1) dL_law_1085 rfl rfl rfl ?_
    refine Ey_aload_n 1087 (i := 0) dL_law_1086 rfl rfl rfl ?_
    refine Ey_iload 1089 dL_law_1087 rfl rfl ?_
    refine Ey_iconst 1090 (v := 1) dL_law_1089 (by decide) rfl ?_
    refine Ey_iadd 1091 dL_law_1090 rfl ?_
    refine Ey_sld 1092 (i + 1) dL_law_1091 (hm_ad rfl rfl) (by omega) (by omega) rfl ?_
    refine Ey_aload_n 1093 (i := 0) dL_law_1092 rfl rfl rfl ?_
    refine Ey_iload 1095 dL_law_1093 rfl rfl ?_
    refine Ey_iconst 1096 (v := 2) dL_law_1095 (by decide) rfl ?_
    refine Ey_iadd 1097 dL_law_1096 rfl ?_
    refine Ey_sld 1098 (i + 2) dL_law_1097 (hm_ad rfl rfl) (by omega) (by omega) rfl ?_
    refine Ey_aload_n 1099 (i := 0) dL_law_1098 rfl rfl rfl ?_
    refine Ey_iload 1101 dL_law_1099 rfl rfl ?_
    refine Ey_iconst 1102 (v := 3) dL_law_1101 (by decide) rfl ?_
    refine Ey_iadd 1103 dL_law_1102 rfl ?_
    refine Ey_sld 1104 (i + 3) dL_law_1103 (hm_ad rfl rfl) (by omega) (by omega) rfl ?_
    refine Ey_aload_n 1105 (i := 0) dL_law_1104 rfl rfl rfl ?_
    refine Ey_iload 1107 dL_law_1105 rfl rfl ?_
    refine Ey_iconst 1108 (v := 4) dL_law_1107 (by decide) rfl ?_
    refine Ey_iadd 1109 dL_law_1108 rfl ?_
    refine Ey_sld 1110 (i + 4) dL_law_1109 (hm_ad rfl rfl) (by omega) (by omega) rfl ?_
    refine Ey_aload_n 1111 (i := 3) dL_law_1110 rfl rfl rfl ?_
    refine Ey_rests 1114 dL_law_1111 rfl (xH_0 hc.gX) hso (by decide) rfl (fun v1 hv1 => ?_) (fun hn => absurd (hq.symm.trans hn) (by simp))
    cases hq.symm.trans hv1
    have hc1 := hc.out (I' := I) (L' := (va_up L (h + 207) (va_up (L (h + 207)) 0 v.toInt64))) (fun _ _ => rfl) (fun x a1 => va_up_ne _ _ (by omega))
    have hr1 := hr.out (I' := I) (L' := (va_up L (h + 207) (va_up (L (h + 207)) 0 v.toInt64))) (fun _ _ _ => rfl) (fun x a1 a2 => va_up_ne _ _ (by omega))
    refine Ey_istore 1116 (ls' := [some (.ref s), some (.ref h), some (.ref (h + 169)), some (.ref (h + 207)), some (.int (nI i)), some (.int 0), none]) dL_law_1114 (Nat.le_of_ble_eq_true rfl) rfl rfl rfl ?_
    refine Ey_aload_n 1117 (i := 2) dL_law_1116 rfl rfl rfl ?_
    refine Ey_aload_n 1118 (i := 0) dL_law_1117 rfl rfl rfl ?_
    refine Ey_iload 1120 dL_law_1118 rfl rfl ?_
    refine Ey_iconst 1121 (v := 1) dL_law_1120 (by decide) rfl ?_
    refine Ey_iadd 1122 dL_law_1121 rfl ?_
    refine Ey_sld 1123 (i + 1) dL_law_1122 (hm_ad rfl rfl) (by omega) (by omega) rfl ?_
    refine Ey_aload_n 1124 (i := 0) dL_law_1123 rfl rfl rfl ?_
    refine Ey_iload 1126 dL_law_1124 rfl rfl ?_
    refine Ey_iconst 1127 (v := 2) dL_law_1126 (by decide) rfl ?_
    refine Ey_iadd 1128 dL_law_1127 rfl ?_
    refine Ey_sld 1129 (i + 2) dL_law_1128 (hm_ad rfl rfl) (by omega) (by omega) rfl ?_
    refine Ey_aload_n 1130 (i := 0) dL_law_1129 rfl rfl rfl ?_
    refine Ey_iload 1132 dL_law_1130 rfl rfl ?_
    refine Ey_iconst 1133 (v := 3) dL_law_1132 (by decide) rfl ?_
    refine Ey_iadd 1134 dL_law_1133 rfl ?_
    refine Ey_sld 1135 (i + 3) dL_law_1134 (hm_ad rfl rfl) (by omega) (by omega) rfl ?_
    refine Ey_aload_n 1136 (i := 0) dL_law_1135 rfl rfl rfl ?_
    refine Ey_iload 1138 dL_law_1136 rfl rfl ?_
    refine Ey_iconst 1139 (v := 4) dL_law_1138 (by decide) rfl ?_
    refine Ey_iadd 1140 dL_law_1139 rfl ?_
    refine Ey_sld 1141 (i + 4) dL_law_1140 (hm_ad rfl rfl) (by omega) (by omega) rfl ?_
    refine Ey_callV (M' := MX9_rests) 1144 [.int (xs (i + 1)), .int (xs (i + 2)), .int (xs (i + 3)), .int (xs (i + 4))] (rest := []) dL_law_1141 lL_158 mX9_rests rfl (xMs_0 hr.gX) rfl (Nat.le_of_ble_eq_true rfl) (Nat.le_of_ble_eq_true rfl) rfl ?_
    refine mq_rests hr1.gX (fun I2 g1 g2 g3 => ?_)
    simp only [Option.toList, List.cons_append, List.nil_append]
    simp only [hq, Option.getD_some]
    have g4 : I2 (h + 169) 0 = 0 := by
      rw [g3, hq]
      rfl
    have hr2 := hr1.kept (I' := I2) (by rw [g1 (h + 169 + 28) (by omega)]; exact hr1.gH) (fun x a1 a2 a3 a4 a5 => g1 x (by omega)) ⟨g2 1 (by decide), g2 45 (by decide), g2 46 (by decide)⟩ (fun _ _ => rfl)
    have hc2 := hc1.out (I' := I2) (fun x a1 => g1 x (by omega)) (fun _ _ => rfl)
    refine Ey_istore 1146 (ls' := [some (.ref s), some (.ref h), some (.ref (h + 169)), some (.ref (h + 207)), some (.int (nI i)), some (.int 0), some (.int v)]) dL_law_1144 (Nat.le_of_ble_eq_true rfl) rfl rfl rfl ?_
    refine Ey_aload_n 1147 (i := 2) dL_law_1146 rfl rfl rfl ?_
    refine Ey_callV (M' := MX9_thrown) 1150 [] (rest := []) dL_law_1147 lL_159 mX9_thrown rfl (xMs_0 hr.gX) rfl (Nat.le_of_ble_eq_true rfl) (Nat.le_of_ble_eq_true rfl) rfl ?_
    refine mq_thrown hr2.gX ?_
    simp only [Option.toList, List.cons_append, List.nil_append]
    refine Ey_iload 1152 dL_law_1150 rfl rfl ?_
    refine Ey_icmp_eq 1155 1157 dL_law_1152 (by decide) rfl (fun c41 => ?_) (fun c41 => absurd c41 (not_not_intro g4))
    refine Ey_iload 1159 dL_law_1157 rfl rfl ?_
    refine Ey_if_ne 1162 1174 dL_law_1159 (by decide) rfl (fun c42 => absurd c42 (fun q => q (by decide))) (fun c42 => ?_)
    refine Ey_aload_n 1163 (i := 3) dL_law_1162 rfl rfl rfl ?_
    refine Ey_iconst 1164 (v := 0) dL_law_1163 (by decide) rfl ?_
    refine Ey_aL 1165 0 ((va_up (L (h + 207)) 0 v.toInt64) 0) dL_law_1164 hso rfl (by decide) (by decide) (congrFun (va_up_self _ _ _) _) rfl ?_
    refine Ey_iload 1167 dL_law_1165 rfl rfl ?_
    refine Ey_i2l 1168 dL_law_1167 rfl ?_
    refine Ey_lcmp 1169 dL_law_1168 rfl ?_
    refine Ey_if_eq 1172 1174 dL_law_1169 (by decide) rfl (fun c43 => ?_) (fun c43 => absurd c43 (not_not_intro (z_lgc _)))
    refine Ey_goto 1304 dL_law_1174 (by decide) ?_
    refine Ey_fgt (ls' := [some (.ref s), some (.ref h), some (.ref (h + 169)), some (.ref (h + 207)), some (.int (nI i)), none, none]) (by simp [xsub]) ?_
    exact hK _ _ _ _ _ _ _ _ _ hc2 hr2 (hz.up hb)
