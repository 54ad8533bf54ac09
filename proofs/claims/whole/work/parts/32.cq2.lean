set_option maxHeartbeats 4000000 in
theorem c_caller {d : Nat} {sh : xSh} {R : xR} {L : xL} {I : xI} {Q : xQ} {h dk dd pl pd : Nat} {O : hmO} {H : hmH} (hx : xHM sh R h dk dd pl pd) (hO : hmD I dk O) (ho : hmOok O) (hH : hmR I (h + 30) H) (hok : hmOk O H) {qv qu : Int32} (hQ : Q (some (.int (spCaller O H qv qu))) 0 sh R L I) : Ex (d + 1) 0 0 MX8_caller 0 sh R L I 0 [some (.ref h), some (.int qv), some (.int qu)] [] Q := by
  obtain ⟨h6, hlen, hset, htak, hmin, hline, hhas, hheld, htalk⟩ := id hH
  obtain ⟨on, otk, ow, olen, olaw⟩ := id hO
  obtain ⟨o6, ot1, ot2, oo, oll, owf⟩ := id ho
  have hdd := xH_27 hx
  have hlN := hok.2.1
  refine Ex_aload_n 1 (i := 0) dX8_caller_0 rfl rfl rfl ?_
  refine Ex_iload_n 2 (i := 1) dX8_caller_1 rfl rfl rfl ?_
  refine Ex_callV (M' := MX8_isCaller) 5 [.int qv] (rest := []) dX8_caller_2 lX8_96 mX8_isCaller rfl (xH_0 hx) rfl (Nat.le_of_ble_eq_true rfl) (Nat.le_of_ble_eq_true rfl) rfl ?_
  refine c_isCaller hx hO ho hH hok ?_
  simp only [Option.toList, List.cons_append, List.nil_append]
  refine Ex_if_ne 8 11 dX8_caller_5 (by decide) rfl (fun c1 => ?_) (fun c1 => ?_)
  · have hct := hmB_ne c1
    obtain ⟨w, hw, rfl⟩ := hmCal_of hct
    have hix : hmIx (nI w) = w := hmIx_nI (by omega)
    refine Ex_iload_n 12 (i := 2) dX8_caller_11 rfl rfl rfl ?_
    by_cases c2 : qu.toInt < 0 ∨ 6 < qu.toInt
    · refine Ex_tableOut 127 dX8_caller_12 c2 (by decide) ?_
      refine Ex_bipush 129 (v := (-2)) dX8_caller_127 (by decide) rfl ?_
      refine Ex_iret dX8_caller_129 rfl rfl (Or.inl rfl) ?_
      have e : spCaller O H (nI w) qu = -2 := by
        have h0 : ∀ k : Nat, k < 7 → ¬ qu = nI k := fun k hk q => by
          rw [q, nI_toInt (by omega)] at c2
          omega
        simp only [spCaller, hct, if_true, if_neg (show ¬ qu = 0 from h0 0 (by omega)), if_neg (show ¬ qu = 1 from h0 1 (by omega)), if_neg (show ¬ qu = 2 from h0 2 (by omega)), if_neg (show ¬ qu = 3 from h0 3 (by omega)), if_neg (show ¬ qu = 4 from h0 4 (by omega)), if_neg (show ¬ qu = 5 from h0 5 (by omega)), if_neg (show ¬ qu = 6 from h0 6 (by omega))]
      rw [← e]
      exact hQ
    · have hsw2 : qu.toInt = 0 ∨ qu.toInt = 1 ∨ qu.toInt = 2 ∨ qu.toInt = 3 ∨ qu.toInt = 4 ∨ qu.toInt = 5 ∨ qu.toInt = 6 := by
        omega
      rcases hsw2 with hsw | hsw | hsw | hsw | hsw | hsw | hsw
      · refine Ex_tableIn 56 dX8_caller_12 (by rw [hsw]; decide) (by rw [hsw]; decide) (off := 44) (by rw [hsw]; rfl) (by decide) ?_
        refine Ex_aload_n 57 (i := 0) dX8_caller_56 rfl rfl rfl ?_
        refine Ex_getR 60 dX8_caller_57 fX8_19 (xH_0 hx) rfl (xH_2 hx) rfl ?_
        refine Ex_getR 63 dX8_caller_60 fX8_100 (xH_14 hx).1 rfl (xH_14 hx).2.2.2.2.2.2.2.2.2.2.1 rfl ?_
        refine Ex_iload_n 64 (i := 1) dX8_caller_63 rfl rfl rfl ?_
        refine Ex_aI 65 w (I (dk + 2) w) dX8_caller_64 (xH_14 hx).2.2.1 rfl (by omega) (by decide) rfl rfl ?_
        rw [(ow w hw).1]
        refine Ex_iret dX8_caller_65 rfl rfl (Or.inl rfl) ?_
        have e : spCaller O H (nI w) qu = nI (hmKi O w) := by
          have e1 : qu = 0 := hm_toInt hsw
          subst e1
          simp only [spCaller, hct, hix, if_true]
          try rfl
        rw [← e]
        exact hQ
      · refine Ex_tableIn 66 dX8_caller_12 (by rw [hsw]; decide) (by rw [hsw]; decide) (off := 54) (by rw [hsw]; rfl) (by decide) ?_
        refine Ex_aload_n 67 (i := 0) dX8_caller_66 rfl rfl rfl ?_
        refine Ex_getR 70 dX8_caller_67 fX8_19 (xH_0 hx) rfl (xH_2 hx) rfl ?_
        refine Ex_getR 73 dX8_caller_70 fX8_103 (xH_14 hx).1 rfl (xH_14 hx).2.2.2.2.2.2.2.2.2.2.2.1 rfl ?_
        refine Ex_iload_n 74 (i := 1) dX8_caller_73 rfl rfl rfl ?_
        refine Ex_aI 75 w (I (dk + 3) w) dX8_caller_74 (xH_14 hx).2.2.2.1 rfl (by omega) (by decide) rfl rfl ?_
        rw [(ow w hw).2.1]
        refine Ex_iret dX8_caller_75 rfl rfl (Or.inl rfl) ?_
        have e : spCaller O H (nI w) qu = nI (hmTr O w) := by
          have e1 : qu = 1 := hm_toInt hsw
          subst e1
          simp only [spCaller, hct, hix, if_true]
          try rfl
        rw [← e]
        exact hQ
      · refine Ex_tableIn 76 dX8_caller_12 (by rw [hsw]; decide) (by rw [hsw]; decide) (off := 64) (by rw [hsw]; rfl) (by decide) ?_
        refine Ex_aload_n 77 (i := 0) dX8_caller_76 rfl rfl rfl ?_
        refine Ex_getR 80 dX8_caller_77 fX8_19 (xH_0 hx) rfl (xH_2 hx) rfl ?_
        refine Ex_getR 83 dX8_caller_80 fX8_106 (xH_14 hx).1 rfl (xH_14 hx).2.2.2.2.2.2.2.2.2.2.2.2.2.1 rfl ?_
        refine Ex_iload_n 84 (i := 1) dX8_caller_83 rfl rfl rfl ?_
        refine Ex_aI 85 w (I (dk + 5) w) dX8_caller_84 (xH_14 hx).2.2.2.2.2.1 rfl (by omega) (by decide) rfl rfl ?_
        rw [(ow w hw).2.2.2]
        refine Ex_iret dX8_caller_85 rfl rfl (Or.inl rfl) ?_
        have e : spCaller O H (nI w) qu = nI (hmHo O w) := by
          have e1 : qu = 2 := hm_toInt hsw
          subst e1
          simp only [spCaller, hct, hix, if_true]
          try rfl
        rw [← e]
        exact hQ
      · refine Ex_tableIn 86 dX8_caller_12 (by rw [hsw]; decide) (by rw [hsw]; decide) (off := 74) (by rw [hsw]; rfl) (by decide) ?_
        refine Ex_aload_n 87 (i := 0) dX8_caller_86 rfl rfl rfl ?_
        refine Ex_getR 90 dX8_caller_87 fX8_39 (xH_0 hx) rfl (xH_6 hx) rfl ?_
        refine Ex_getR 93 dX8_caller_90 fX8_109 (xH_18 hx).1 rfl (xH_18 hx).2.2.2.2.2.1 rfl ?_
        refine Ex_iload_n 94 (i := 1) dX8_caller_93 rfl rfl rfl ?_
        refine Ex_aI 95 w (I (h + 31) w) dX8_caller_94 (xH_18 hx).2.1 rfl (by omega) (by decide) rfl rfl ?_
        rw [hhas w (by omega)]
        refine Ex_iret dX8_caller_95 rfl rfl (Or.inl rfl) ?_
        have e : spCaller O H (nI w) qu = hmHas H w := by
          have e1 : qu = 3 := hm_toInt hsw
          subst e1
          simp only [spCaller, hct, hix, if_true]
          try rfl
        rw [← e]
        exact hQ
      · refine Ex_tableIn 96 dX8_caller_12 (by rw [hsw]; decide) (by rw [hsw]; decide) (off := 84) (by rw [hsw]; rfl) (by decide) ?_
        refine Ex_aload_n 97 (i := 0) dX8_caller_96 rfl rfl rfl ?_
        refine Ex_getR 100 dX8_caller_97 fX8_39 (xH_0 hx) rfl (xH_6 hx) rfl ?_
        refine Ex_gI 103 (I (h + 30) 5) dX8_caller_100 fX8_112 (xH_18 hx).1 rfl rfl rfl ?_
        rw [hset]
        refine Ex_iload_n 104 (i := 1) dX8_caller_103 rfl rfl rfl ?_
        refine Ex_ishr 105 dX8_caller_104 rfl ?_
        refine Ex_iconst 106 (v := 1) dX8_caller_105 (by decide) rfl ?_
        refine Ex_iand 107 dX8_caller_106 rfl ?_
        rw [hmBit_v hok.2.2.2.1 (by omega)]
        refine Ex_iret dX8_caller_107 rfl rfl (Or.inl rfl) ?_
        have e : spCaller O H (nI w) qu = hmB (hmBit (hmSet H) w) := by
          have e1 : qu = 4 := hm_toInt hsw
          subst e1
          simp only [spCaller, hct, hix, if_true]
          try rfl
        rw [← e]
        exact hQ
      · refine Ex_tableIn 108 dX8_caller_12 (by rw [hsw]; decide) (by rw [hsw]; decide) (off := 96) (by rw [hsw]; rfl) (by decide) ?_
        refine Ex_aload_n 109 (i := 0) dX8_caller_108 rfl rfl rfl ?_
        refine Ex_getR 112 dX8_caller_109 fX8_39 (xH_0 hx) rfl (xH_6 hx) rfl ?_
        refine Ex_iload_n 113 (i := 1) dX8_caller_112 rfl rfl rfl ?_
        refine Ex_callV (M' := MX1_placeOf) 116 [.int (nI w)] (rest := []) dX8_caller_113 lX8_115 mX1_placeOf rfl (xH_18 hx).1 rfl (Nat.le_of_ble_eq_true rfl) (Nat.le_of_ble_eq_true rfl) rfl ?_
        refine c_placeOf (xH_18 hx) hH (by omega) (fun x hx => by have := hlN x hx; omega) ?_
        simp only [Option.toList, List.cons_append, List.nil_append]
        refine Ex_iret dX8_caller_116 rfl rfl (Or.inl rfl) ?_
        have e : spCaller O H (nI w) qu = hmPlc (hmLine H) w := by
          have e1 : qu = 5 := hm_toInt hsw
          subst e1
          simp only [spCaller, hct, hix, if_true]
          try rfl
        rw [← e]
        exact hQ
      · refine Ex_tableIn 117 dX8_caller_12 (by rw [hsw]; decide) (by rw [hsw]; decide) (off := 105) (by rw [hsw]; rfl) (by decide) ?_
        refine Ex_aload_n 118 (i := 0) dX8_caller_117 rfl rfl rfl ?_
        refine Ex_getR 121 dX8_caller_118 fX8_39 (xH_0 hx) rfl (xH_6 hx) rfl ?_
        refine Ex_getR 124 dX8_caller_121 fX8_119 (xH_18 hx).1 rfl (xH_18 hx).2.2.2.2.2.2.1 rfl ?_
        refine Ex_iload_n 125 (i := 1) dX8_caller_124 rfl rfl rfl ?_
        refine Ex_aI 126 w (I (h + 32) w) dX8_caller_125 (xH_18 hx).2.2.1 rfl (by omega) (by decide) rfl rfl ?_
        rw [hheld w (by omega)]
        refine Ex_iret dX8_caller_126 rfl rfl (Or.inl rfl) ?_
        have e : spCaller O H (nI w) qu = nI (hmHeld H w) := by
          have e1 : qu = 6 := hm_toInt hsw
          subst e1
          simp only [spCaller, hct, hix, if_true]
          try rfl
        rw [← e]
        exact hQ
  · refine Ex_bipush 10 (v := (-2)) dX8_caller_8 (by decide) rfl ?_
    refine Ex_iret dX8_caller_10 rfl rfl (Or.inl rfl) ?_
    have e : spCaller O H qv qu = -2 := by
      have h1 := hmB_eq c1
      simp [spCaller, h1]
    rw [← e]
    exact hQ
/-- a query's frame: the trial hall, the deals, the tally, the law's stack -/
def hmQf (h dk : Nat) (I I' : xI) : Prop := ∀ x, ¬ (h + 35 ≤ x ∧ x < h + 40) → ¬ (h + 45 ≤ x ∧ x < h + 49) → x ≠ dk + 8 → I' x = I x
theorem hmQf.rf {h dk : Nat} {I : xI} : hmQf h dk I I := fun _ _ _ _ => rfl
theorem hmQf.tr {h dk : Nat} {I J K : xI} (h1 : hmQf h dk I J) (h2 : hmQf h dk J K) : hmQf h dk I K := fun x a b c => (h2 x a b c).trans (h1 x a b c)
theorem hmQf.fd {h dk : Nat} {I J : xI} (h1 : hmFd (h + 35) dk I J) : hmQf h dk I J := fun x a _ c => h1 x (by omega) c
theorem hmQf.fr {h dk : Nat} {I J : xI} (h1 : hmFr (hmIn (h + 35) 5) I J) : hmQf h dk I J := fun x a _ _ => h1 x (fun q => a (by unfold hmIn at q; omega))
theorem hmQf.ft {h dk : Nat} {I J : xI} (h1 : ∀ x, ¬ (h + 35 ≤ x ∧ x < h + 35 + 5) → J x = I x) : hmQf h dk I J := fun x a _ _ => h1 x (by omega)
set_option maxHeartbeats 4000000 in
theorem c_hears {d : Nat} {sh : xSh} {R : xR} {L : xL} {I : xI} {Q : xQ} {h dk dd pl pd : Nat} {O : hmO} {H : hmH} (hx : xHM sh R h dk dd pl pd) (hO : hmD I dk O) (ho : hmOok O) (hH : hmR I (h + 30) H) (hok : hmOk O H) {qv qu : Int32} (hQ : ∀ I', hmQf h dk I I' → Q (some (.int (spHears O H qv qu))) 0 sh R L I') : Ex (d + 2) 0 0 MX8_hears 0 sh R L I 0 [some (.ref h), some (.int qv), some (.int qu), none] [] Q := by
  obtain ⟨h6, hlen, hset, htak, hmin, hline, hhas, hheld, htalk⟩ := id hH
  obtain ⟨on, otk, ow, olen, olaw⟩ := id hO
  obtain ⟨o6, ot1, ot2, oo, oll, owf⟩ := id ho
  have hdd := xH_27 hx
  have hlN := hok.2.1
  refine Ex_aload_n 1 (i := 0) dX8_hears_0 rfl rfl rfl ?_
  refine Ex_iload_n 2 (i := 1) dX8_hears_1 rfl rfl rfl ?_
  refine Ex_iload_n 3 (i := 2) dX8_hears_2 rfl rfl rfl ?_
  refine Ex_callV (M' := MX8_areTwo) 6 [.int qv, .int qu] (rest := []) dX8_hears_3 lX8_122 mX8_areTwo rfl (xH_0 hx) rfl (Nat.le_of_ble_eq_true rfl) (Nat.le_of_ble_eq_true rfl) rfl ?_
  refine c_areTwo hx hO ho hH hok ?_
  simp only [Option.toList, List.cons_append, List.nil_append]
  refine Ex_if_ne 9 11 dX8_hears_6 (by decide) rfl (fun c1 => ?_) (fun c1 => ?_)
  · have htw := hmB_ne c1
    obtain ⟨x, y, hxN, hyN, hxy, rfl, rfl⟩ := hmTwo_of htw
    have hix : hmIx (nI x) = x := hmIx_nI (by omega)
    have hiy : hmIx (nI y) = y := hmIx_nI (by omega)
    refine Ex_aload_n 12 (i := 0) dX8_hears_11 rfl rfl rfl ?_
    refine Ex_getR 15 dX8_hears_12 fX8_39 (xH_0 hx) rfl (xH_6 hx) rfl ?_
    refine Ex_getR 18 dX8_hears_15 fX8_126 (xH_18 hx).1 rfl (xH_18 hx).2.2.2.2.2.2.2.2 rfl ?_
    refine Ex_iload_n 19 (i := 1) dX8_hears_18 rfl rfl rfl ?_
    refine Ex_bipush 21 (v := 6) dX8_hears_19 (by decide) rfl ?_
    refine Ex_imul 22 dX8_hears_21 rfl ?_
    refine Ex_iload_n 23 (i := 2) dX8_hears_22 rfl rfl rfl ?_
    refine Ex_iadd 24 dX8_hears_23 rfl ?_
    refine Ex_aI 25 ((x * 6) + y) (I (h + 34) ((x * 6) + y)) dX8_hears_24 (xH_18 hx).2.2.2.2.1 (hm_ad (hm_mu rfl rfl) rfl) (by omega) (by decide) rfl rfl ?_
    rw [htalk x (by omega) y (by omega)]
    refine Ex_iconst 26 (v := 1) dX8_hears_25 (by decide) rfl ?_
    refine Ex_iadd 27 dX8_hears_26 rfl ?_
    rw [nI_1]
    refine Ex_istore_n 28 (i := 3) (ls' := [some (.ref h), some (.int (nI x)), some (.int (nI y)), some (.int (nI (hmTalk H x y + 1)))]) dX8_hears_27 rfl (Nat.le_of_ble_eq_true rfl) rfl rfl rfl ?_
    refine Ex_aload_n 29 (i := 0) dX8_hears_28 rfl rfl rfl ?_
    refine Ex_getR 32 dX8_hears_29 fX8_39 (xH_0 hx) rfl (xH_6 hx) rfl ?_
    refine Ex_aload_n 33 (i := 0) dX8_hears_32 rfl rfl rfl ?_
    refine Ex_getR 36 dX8_hears_33 fX8_19 (xH_0 hx) rfl (xH_2 hx) rfl ?_
    refine Ex_iload_n 37 (i := 2) dX8_hears_36 rfl rfl rfl ?_
    refine Ex_iload_n 38 (i := 1) dX8_hears_37 rfl rfl rfl ?_
    refine Ex_iconst 39 (v := (-1)) dX8_hears_38 (by decide) rfl ?_
    refine Ex_iload_n 40 (i := 3) dX8_hears_39 rfl rfl rfl ?_
    refine Ex_callV (M' := MX1_heard) 43 [.ref dk, .int (nI y), .int (nI x), .int (-1), .int (nI (hmTalk H x y + 1))] (rest := []) dX8_hears_40 lX8_211 mX1_heard rfl (xH_18 hx).1 rfl (Nat.le_of_ble_eq_true rfl) (Nat.le_of_ble_eq_true rfl) rfl ?_
    refine c_heard (bh := none) (xH_18 hx) (xH_14 hx) (by omega) hH hO ho hok.2.2.1 hyN hxN (fun b hb => by cases hb) (fun I' hF' => ?_)
    simp only [Option.toList, List.cons_append, List.nil_append]
    refine Ex_iret dX8_hears_43 rfl rfl (Or.inl rfl) ?_
    have e : spHears O H (nI x) (nI y) = hmHeard O (hmHas H) (hmHeld H) (hmTalk H x y + 1) y x none := by
      simp only [spHears, htw, hix, hiy, if_true]
    rw [← e]
    exact hQ I' (fun z _ _ hz => hF' z hz)
  · refine Ex_iconst 10 (v := (-1)) dX8_hears_9 (by decide) rfl ?_
    refine Ex_iret dX8_hears_10 rfl rfl (Or.inl rfl) ?_
    have e : spHears O H qv qu = -1 := by
      have h1 := hmB_eq c1
      simp [spHears, h1]
    rw [← e]
    exact hQ I hmQf.rf
theorem hmUs_le {f : Nat → Nat} {b : Nat} (hf : ∀ x, f x ≤ b) : ∀ n, (hmUs f n).1 ≤ b := by
  intro n
  induction n with
  | zero => exact Nat.zero_le b
  | succ n ih =>
    unfold hmUs
    split
    · exact hf n
    · exact ih
set_option maxHeartbeats 4000000 in
theorem c_usual_loop {d : Nat} {sh : xSh} {R : xR} {L : xL} {I : xI} {Q : xQ} {h dk dd pl pd : Nat} {O : hmO} {H : hmH} (hx : xHM sh R h dk dd pl pd) (hO : hmD I dk O) (ho : hmOok O) (hH : hmR I (h + 30) H) (hok : hmOk O H) {w bb : Nat} (hw : w < hmN O) (htb : ∀ x, hmTalk H w x ≤ bb) (hbb : bb < 1000000) (hQ : Q (some (.int (hmUs (hmTalk H w) (hmN O)).2)) 0 sh R L I) : ∀ n i, n + i = hmN O → Ex (d + 1) 0 0 MX8_usual 0 sh R L I 17 [some (.ref h), some (.int (nI w)), some (.int (nI (hmUs (hmTalk H w) i).1)), some (.int ((hmUs (hmTalk H w) i).2)), some (.int (nI i)), none] [] Q := by
  obtain ⟨h6, hlen, hset, htak, hmin, hline, hhas, hheld, htalk⟩ := id hH
  obtain ⟨on, otk, ow, olen, olaw⟩ := id hO
  obtain ⟨o6, ot1, ot2, oo, oll, owf⟩ := id ho
  have hdd := xH_27 hx
  have hlN := hok.2.1
  have hb := hmUs_le htb
  intro n
  induction n with
  | zero =>
    intro i hi
    refine Ex_iload 19 dX8_usual_17 rfl rfl ?_
    refine Ex_aload_n 20 (i := 0) dX8_usual_19 rfl rfl rfl ?_
    refine Ex_getR 23 dX8_usual_20 fX8_19 (xH_0 hx) rfl (xH_2 hx) rfl ?_
    refine Ex_gI 26 (I dk 6) dX8_usual_23 fX8_187 (xH_14 hx).1 rfl rfl rfl ?_
    rw [on]
    refine Ex_icmp_ge 29 64 dX8_usual_26 (by decide) rfl (fun c1 => ?_) (fun c1 => absurd c1 (fun q => q (nI_le (by omega) (by omega))))
    refine Ex_iload_n 65 (i := 3) dX8_usual_64 rfl rfl rfl ?_
    refine Ex_iret dX8_usual_65 rfl rfl (Or.inl rfl) ?_
    rw [show i = hmN O by omega]
    exact hQ
  | succ n ih =>
    intro i hi
    refine Ex_iload 19 dX8_usual_17 rfl rfl ?_
    refine Ex_aload_n 20 (i := 0) dX8_usual_19 rfl rfl rfl ?_
    refine Ex_getR 23 dX8_usual_20 fX8_19 (xH_0 hx) rfl (xH_2 hx) rfl ?_
    refine Ex_gI 26 (I dk 6) dX8_usual_23 fX8_187 (xH_14 hx).1 rfl rfl rfl ?_
    rw [on]
    refine Ex_icmp_ge 29 64 dX8_usual_26 (by decide) rfl (fun c1 => absurd c1 (nI_ge (by omega) (by omega))) (fun c1 => ?_)
    refine Ex_aload_n 30 (i := 0) dX8_usual_29 rfl rfl rfl ?_
    refine Ex_getR 33 dX8_usual_30 fX8_39 (xH_0 hx) rfl (xH_6 hx) rfl ?_
    refine Ex_getR 36 dX8_usual_33 fX8_126 (xH_18 hx).1 rfl (xH_18 hx).2.2.2.2.2.2.2.2 rfl ?_
    refine Ex_iload_n 37 (i := 1) dX8_usual_36 rfl rfl rfl ?_
    refine Ex_bipush 39 (v := 6) dX8_usual_37 (by decide) rfl ?_
    refine Ex_imul 40 dX8_usual_39 rfl ?_
    refine Ex_iload 42 dX8_usual_40 rfl rfl ?_
    refine Ex_iadd 43 dX8_usual_42 rfl ?_
    refine Ex_aI 44 ((w * 6) + i) (I (h + 34) ((w * 6) + i)) dX8_usual_43 (xH_18 hx).2.2.2.2.1 (hm_ad (hm_mu rfl rfl) rfl) (by omega) (by decide) rfl rfl ?_
    rw [htalk w (by omega) i (by omega)]
    refine Ex_istore 46 (ls' := [some (.ref h), some (.int (nI w)), some (.int (nI (hmUs (hmTalk H w) i).1)), some (.int ((hmUs (hmTalk H w) i).2)), some (.int (nI i)), some (.int (nI (hmTalk H w i)))]) dX8_usual_44 (Nat.le_of_ble_eq_true rfl) rfl rfl rfl ?_
    refine Ex_iload 48 dX8_usual_46 rfl rfl ?_
    refine Ex_iload_n 49 (i := 2) dX8_usual_48 rfl rfl rfl ?_
    refine Ex_icmp_le 52 58 dX8_usual_49 (by decide) rfl (fun c2 => ?_) (fun c2 => ?_)
    · refine Ex_iinc 61 (v := (nI (i + 1))) (ls' := [some (.ref h), some (.int (nI w)), some (.int (nI (hmUs (hmTalk H w) i).1)), some (.int ((hmUs (hmTalk H w) i).2)), some (.int (nI (i + 1))), some (.int (nI (hmTalk H w i)))]) dX8_usual_58 rfl (xinc _) (Nat.le_of_ble_eq_true rfl) rfl rfl rfl ?_
      refine Ex_goto 17 dX8_usual_61 (by decide) ?_
      refine Ex_fgt (ls' := [some (.ref h), some (.int (nI w)), some (.int (nI (hmUs (hmTalk H w) i).1)), some (.int ((hmUs (hmTalk H w) i).2)), some (.int (nI (i + 1))), none]) (by simp [xsub]) ?_
      have h1 : ¬ hmTalk H w i > (hmUs (hmTalk H w) i).1 := by
        have h2 := (nI_leI (by have := htb i; omega) (by have := hb i; omega)).mp c2
        omega
      have e : hmUs (hmTalk H w) (i + 1) = hmUs (hmTalk H w) i := if_neg h1
      rw [← e]
      exact ih (i + 1) (by omega)
    · refine Ex_iload 54 dX8_usual_52 rfl rfl ?_
      refine Ex_istore_n 55 (i := 2) (ls' := [some (.ref h), some (.int (nI w)), some (.int (nI (hmTalk H w i))), some (.int ((hmUs (hmTalk H w) i).2)), some (.int (nI i)), some (.int (nI (hmTalk H w i)))]) dX8_usual_54 rfl (Nat.le_of_ble_eq_true rfl) rfl rfl rfl ?_
      refine Ex_iload 57 dX8_usual_55 rfl rfl ?_
      refine Ex_istore_n 58 (i := 3) (ls' := [some (.ref h), some (.int (nI w)), some (.int (nI (hmTalk H w i))), some (.int (nI i)), some (.int (nI i)), some (.int (nI (hmTalk H w i)))]) dX8_usual_57 rfl (Nat.le_of_ble_eq_true rfl) rfl rfl rfl ?_
      refine Ex_iinc 61 (v := (nI (i + 1))) (ls' := [some (.ref h), some (.int (nI w)), some (.int (nI (hmTalk H w i))), some (.int (nI i)), some (.int (nI (i + 1))), some (.int (nI (hmTalk H w i)))]) dX8_usual_58 rfl (xinc _) (Nat.le_of_ble_eq_true rfl) rfl rfl rfl ?_
      refine Ex_goto 17 dX8_usual_61 (by decide) ?_
      refine Ex_fgt (ls' := [some (.ref h), some (.int (nI w)), some (.int (nI (hmTalk H w i))), some (.int (nI i)), some (.int (nI (i + 1))), none]) (by simp [xsub]) ?_
      have h1 : hmTalk H w i > (hmUs (hmTalk H w) i).1 := by
        by_cases z : hmTalk H w i > (hmUs (hmTalk H w) i).1
        · exact z
        · exact absurd (nI_le (by omega) (by have := hb i; omega)) c2
      have e : hmUs (hmTalk H w) (i + 1) = (hmTalk H w i, nI i) := if_pos h1
      have e1 : nI (hmTalk H w i) = nI (hmUs (hmTalk H w) (i + 1)).1 := by rw [e]
      have e2 : nI i = (hmUs (hmTalk H w) (i + 1)).2 := by rw [e]
      refine Ex_l (ls' := [some (.ref h), some (.int (nI w)), some (.int (nI (hmUs (hmTalk H w) (i + 1)).1)), some (.int ((hmUs (hmTalk H w) (i + 1)).2)), some (.int (nI (i + 1))), none]) (by rw [← e1, ← e2]) ?_
      exact ih (i + 1) (by omega)
set_option maxHeartbeats 4000000 in
theorem c_usual {d : Nat} {sh : xSh} {R : xR} {L : xL} {I : xI} {Q : xQ} {h dk dd pl pd : Nat} {O : hmO} {H : hmH} (hx : xHM sh R h dk dd pl pd) (hO : hmD I dk O) (ho : hmOok O) (hH : hmR I (h + 30) H) (hok : hmOk O H) {qv : Int32} {bb : Nat} (htb : ∀ x y, hmTalk H x y ≤ bb) (hbb : bb < 1000000) (hQ : Q (some (.int (spUsual (hmN O) H qv))) 0 sh R L I) : Ex (d + 1) 0 0 MX8_usual 0 sh R L I 0 [some (.ref h), some (.int qv), none, none, none, none] [] Q := by
  obtain ⟨h6, hlen, hset, htak, hmin, hline, hhas, hheld, htalk⟩ := id hH
  obtain ⟨on, otk, ow, olen, olaw⟩ := id hO
  obtain ⟨o6, ot1, ot2, oo, oll, owf⟩ := id ho
  have hdd := xH_27 hx
  have hlN := hok.2.1
  refine Ex_aload_n 1 (i := 0) dX8_usual_0 rfl rfl rfl ?_
  refine Ex_iload_n 2 (i := 1) dX8_usual_1 rfl rfl rfl ?_
  refine Ex_callV (M' := MX8_isCaller) 5 [.int qv] (rest := []) dX8_usual_2 lX8_96 mX8_isCaller rfl (xH_0 hx) rfl (Nat.le_of_ble_eq_true rfl) (Nat.le_of_ble_eq_true rfl) rfl ?_
  refine c_isCaller hx hO ho hH hok ?_
  simp only [Option.toList, List.cons_append, List.nil_append]
  refine Ex_if_ne 8 10 dX8_usual_5 (by decide) rfl (fun c1 => ?_) (fun c1 => ?_)
  · have hct := hmB_ne c1
    obtain ⟨w, hw, rfl⟩ := hmCal_of hct
    have hix : hmIx (nI w) = w := hmIx_nI (by omega)
    refine Ex_iconst 11 (v := 0) dX8_usual_10 (by decide) rfl ?_
    refine Ex_istore_n 12 (i := 2) (ls' := [some (.ref h), some (.int (nI w)), some (.int 0), none, none, none]) dX8_usual_11 rfl (Nat.le_of_ble_eq_true rfl) rfl rfl rfl ?_
    refine Ex_iconst 13 (v := (-1)) dX8_usual_12 (by decide) rfl ?_
    refine Ex_istore_n 14 (i := 3) (ls' := [some (.ref h), some (.int (nI w)), some (.int 0), some (.int (-1)), none, none]) dX8_usual_13 rfl (Nat.le_of_ble_eq_true rfl) rfl rfl rfl ?_
    refine Ex_iconst 15 (v := 0) dX8_usual_14 (by decide) rfl ?_
    refine Ex_istore 17 (ls' := [some (.ref h), some (.int (nI w)), some (.int 0), some (.int (-1)), some (.int 0), none]) dX8_usual_15 (Nat.le_of_ble_eq_true rfl) rfl rfl rfl ?_
    have e : spUsual (hmN O) H (nI w) = (hmUs (hmTalk H w) (hmN O)).2 := by simp only [spUsual, hct, hix, if_true]
    rw [e] at hQ
    exact c_usual_loop hx hO ho hH hok hw (fun z => htb w z) hbb hQ (hmN O) 0 (by omega)
  · refine Ex_iconst 9 (v := (-1)) dX8_usual_8 (by decide) rfl ?_
    refine Ex_iret dX8_usual_9 rfl rfl (Or.inl rfl) ?_
    have e : spUsual (hmN O) H qv = -1 := by
      have h1 := hmB_eq c1
      simp [spUsual, h1]
    rw [← e]
    exact hQ
theorem hmCnt_le {x : Int32} (hx : hmS10 x) : ∃ k, k ≤ 10 ∧ hmCnt x = nI k := by
  obtain ⟨j, hj, rfl⟩ := hx
  have key : ∀ j, j < 1024 → (hmCnt (nI j)).toInt.toNat ≤ 10 ∧ hmCnt (nI j) = nI (hmCnt (nI j)).toInt.toNat := by decide +kernel
  exact ⟨_, (key j hj).1, (key j hj).2⟩
set_option maxHeartbeats 4000000 in
theorem c_wisest_loop {d : Nat} {sh : xSh} {R : xR} {L : xL} {I : xI} {Q : xQ} {h dk dd pl pd : Nat} {O : hmO} {H : hmH} (hx : xHM sh R h dk dd pl pd) (hO : hmD I dk O) (ho : hmOok O) (hH : hmR I (h + 30) H) (hok : hmOk O H) (hQ : Q (some (.int (spWisest (hmN O) H))) 0 sh R L I) : ∀ n i, n + i = hmN O → Ex (d + 1) 0 0 MX8_wisest 0 sh R L I 6 [some (.ref h), some (.int ((hmWi (hmHas H) i).1)), some (.int ((hmWi (hmHas H) i).2)), some (.int (nI i)), none] [] Q := by
  obtain ⟨h6, hlen, hset, htak, hmin, hline, hhas, hheld, htalk⟩ := id hH
  obtain ⟨on, otk, ow, olen, olaw⟩ := id hO
  obtain ⟨o6, ot1, ot2, oo, oll, owf⟩ := id ho
  have hdd := xH_27 hx
  have hlN := hok.2.1
  intro n
  induction n with
  | zero =>
    intro i hi
    refine Ex_iload_n 7 (i := 3) dX8_wisest_6 rfl rfl rfl ?_
    refine Ex_aload_n 8 (i := 0) dX8_wisest_7 rfl rfl rfl ?_
    refine Ex_getR 11 dX8_wisest_8 fX8_19 (xH_0 hx) rfl (xH_2 hx) rfl ?_
    refine Ex_gI 14 (I dk 6) dX8_wisest_11 fX8_187 (xH_14 hx).1 rfl rfl rfl ?_
    rw [on]
    refine Ex_icmp_ge 17 48 dX8_wisest_14 (by decide) rfl (fun c1 => ?_) (fun c1 => absurd c1 (fun q => q (nI_le (by omega) (by omega))))
    refine Ex_iload_n 49 (i := 2) dX8_wisest_48 rfl rfl rfl ?_
    refine Ex_iret dX8_wisest_49 rfl rfl (Or.inl rfl) ?_
    rw [show i = hmN O by omega]
    exact hQ
  | succ n ih =>
    intro i hi
    refine Ex_iload_n 7 (i := 3) dX8_wisest_6 rfl rfl rfl ?_
    refine Ex_aload_n 8 (i := 0) dX8_wisest_7 rfl rfl rfl ?_
    refine Ex_getR 11 dX8_wisest_8 fX8_19 (xH_0 hx) rfl (xH_2 hx) rfl ?_
    refine Ex_gI 14 (I dk 6) dX8_wisest_11 fX8_187 (xH_14 hx).1 rfl rfl rfl ?_
    rw [on]
    refine Ex_icmp_ge 17 48 dX8_wisest_14 (by decide) rfl (fun c1 => absurd c1 (nI_ge (by omega) (by omega))) (fun c1 => ?_)
    refine Ex_aload_n 18 (i := 0) dX8_wisest_17 rfl rfl rfl ?_
    refine Ex_getR 21 dX8_wisest_18 fX8_39 (xH_0 hx) rfl (xH_6 hx) rfl ?_
    refine Ex_getR 24 dX8_wisest_21 fX8_109 (xH_18 hx).1 rfl (xH_18 hx).2.2.2.2.2.1 rfl ?_
    refine Ex_iload_n 25 (i := 3) dX8_wisest_24 rfl rfl rfl ?_
    refine Ex_aI 26 i (I (h + 31) i) dX8_wisest_25 (xH_18 hx).2.1 rfl (by omega) (by decide) rfl rfl ?_
    rw [hhas i (by omega)]
    refine Ex_callS (M' := MJ6_bitCount_0f7a4) 29 [.int (hmHas H i)] (rest := []) dX8_wisest_26 lX8_203 mJ6_bitCount_0f7a4 rfl rfl (Nat.le_of_ble_eq_true rfl) (Nat.le_of_ble_eq_true rfl) rfl ?_
    refine c_bitCountS (hok.2.2.1 i (by omega)) ?_
    simp only [Option.toList, List.cons_append, List.nil_append]
    refine Ex_istore 31 (ls' := [some (.ref h), some (.int ((hmWi (hmHas H) i).1)), some (.int ((hmWi (hmHas H) i).2)), some (.int (nI i)), some (.int (hmCnt (hmHas H i)))]) dX8_wisest_29 (Nat.le_of_ble_eq_true rfl) rfl rfl rfl ?_
    refine Ex_iload 33 dX8_wisest_31 rfl rfl ?_
    refine Ex_iload_n 34 (i := 1) dX8_wisest_33 rfl rfl rfl ?_
    refine Ex_icmp_le 37 42 dX8_wisest_34 (by decide) rfl (fun c2 => ?_) (fun c2 => ?_)
    · refine Ex_iinc 45 (v := (nI (i + 1))) (ls' := [some (.ref h), some (.int ((hmWi (hmHas H) i).1)), some (.int ((hmWi (hmHas H) i).2)), some (.int (nI (i + 1))), some (.int (hmCnt (hmHas H i)))]) dX8_wisest_42 rfl (xinc _) (Nat.le_of_ble_eq_true rfl) rfl rfl rfl ?_
      refine Ex_goto 6 dX8_wisest_45 (by decide) ?_
      refine Ex_fgt (ls' := [some (.ref h), some (.int ((hmWi (hmHas H) i).1)), some (.int ((hmWi (hmHas H) i).2)), some (.int (nI (i + 1))), none]) (by simp [xsub]) ?_
      have e : hmWi (hmHas H) (i + 1) = hmWi (hmHas H) i := if_neg (Int32.not_lt.mpr c2)
      rw [← e]
      exact ih (i + 1) (by omega)
    · refine Ex_iload 39 dX8_wisest_37 rfl rfl ?_
      refine Ex_istore_n 40 (i := 1) (ls' := [some (.ref h), some (.int (hmCnt (hmHas H i))), some (.int ((hmWi (hmHas H) i).2)), some (.int (nI i)), some (.int (hmCnt (hmHas H i)))]) dX8_wisest_39 rfl (Nat.le_of_ble_eq_true rfl) rfl rfl rfl ?_
      refine Ex_iload_n 41 (i := 3) dX8_wisest_40 rfl rfl rfl ?_
      refine Ex_istore_n 42 (i := 2) (ls' := [some (.ref h), some (.int (hmCnt (hmHas H i))), some (.int (nI i)), some (.int (nI i)), some (.int (hmCnt (hmHas H i)))]) dX8_wisest_41 rfl (Nat.le_of_ble_eq_true rfl) rfl rfl rfl ?_
      refine Ex_iinc 45 (v := (nI (i + 1))) (ls' := [some (.ref h), some (.int (hmCnt (hmHas H i))), some (.int (nI i)), some (.int (nI (i + 1))), some (.int (hmCnt (hmHas H i)))]) dX8_wisest_42 rfl (xinc _) (Nat.le_of_ble_eq_true rfl) rfl rfl rfl ?_
      refine Ex_goto 6 dX8_wisest_45 (by decide) ?_
      refine Ex_fgt (ls' := [some (.ref h), some (.int (hmCnt (hmHas H i))), some (.int (nI i)), some (.int (nI (i + 1))), none]) (by simp [xsub]) ?_
      have e : hmWi (hmHas H) (i + 1) = (hmCnt (hmHas H i), nI i) := if_pos (Int32.not_le.mp c2)
      have e1 : hmCnt (hmHas H i) = (hmWi (hmHas H) (i + 1)).1 := by rw [e]
      have e2 : nI i = (hmWi (hmHas H) (i + 1)).2 := by rw [e]
      refine Ex_l (ls' := [some (.ref h), some (.int ((hmWi (hmHas H) (i + 1)).1)), some (.int ((hmWi (hmHas H) (i + 1)).2)), some (.int (nI (i + 1))), none]) (by rw [← e1, ← e2]) ?_
      exact ih (i + 1) (by omega)
set_option maxHeartbeats 4000000 in
theorem c_wisest {d : Nat} {sh : xSh} {R : xR} {L : xL} {I : xI} {Q : xQ} {h dk dd pl pd : Nat} {O : hmO} {H : hmH} (hx : xHM sh R h dk dd pl pd) (hO : hmD I dk O) (ho : hmOok O) (hH : hmR I (h + 30) H) (hok : hmOk O H) (hQ : Q (some (.int (spWisest (hmN O) H))) 0 sh R L I) : Ex (d + 1) 0 0 MX8_wisest 0 sh R L I 0 [some (.ref h), none, none, none, none] [] Q := by
  refine Ex_iconst 1 (v := (-1)) dX8_wisest_0 (by decide) rfl ?_
  refine Ex_istore_n 2 (i := 1) (ls' := [some (.ref h), some (.int (-1)), none, none, none]) dX8_wisest_1 rfl (Nat.le_of_ble_eq_true rfl) rfl rfl rfl ?_
  refine Ex_iconst 3 (v := (-1)) dX8_wisest_2 (by decide) rfl ?_
  refine Ex_istore_n 4 (i := 2) (ls' := [some (.ref h), some (.int (-1)), some (.int (-1)), none, none]) dX8_wisest_3 rfl (Nat.le_of_ble_eq_true rfl) rfl rfl rfl ?_
  refine Ex_iconst 5 (v := 0) dX8_wisest_4 (by decide) rfl ?_
  refine Ex_istore_n 6 (i := 3) (ls' := [some (.ref h), some (.int (-1)), some (.int (-1)), some (.int 0), none]) dX8_wisest_5 rfl (Nat.le_of_ble_eq_true rfl) rfl rfl rfl ?_
  exact c_wisest_loop hx hO ho hH hok hQ (hmN O) 0 (by omega)
theorem hm_bit1 {x : Int32} (hx : hmS10 x) {t : Nat} (ht : t < 10) (h : ¬ (x >>> (nI t &&& 31)) &&& 1 = 0) : hmBit x t = true := by
  obtain ⟨k, hk, rfl⟩ := hx
  have key : ∀ k, k < 1024 → ∀ t, t < 10 → ¬ (nI k >>> (nI t &&& 31)) &&& 1 = 0 → hmBit (nI k) t = true := by decide +kernel
  exact key k hk t ht h
theorem hm_known_s10 {O : hmO} {H : hmH} (hok : hmOk O H) (h6 : hmN O ≤ 6) : hmS10 (hmKnown H) := by
  have key : ∀ (l : List Nat) (s : Int32), hmS10 s → (∀ w, w ∈ l → w < 6) → hmS10 (l.foldl (fun s w => s ||| hmHas H w) s) := by
    intro l
    induction l with
    | nil => intro s hs _; exact hs
    | cons u l ih => intro s hs hl; exact ih _ (hm_s10_or hs (hok.2.2.1 u (hl u List.mem_cons_self))) (fun w hw => hl w (List.mem_cons_of_mem _ hw))
  exact key _ _ ⟨0, by decide, rfl⟩ (fun w hw => by have := hok.2.1 w hw; omega)
set_option maxHeartbeats 4000000 in
theorem c_lost_2 {d : Nat} {sh : xSh} {R : xR} {L : xL} {I : xI} {Q : xQ} {h dk dd pl pd : Nat} {O : hmO} {H : hmH} (hx : xHM sh R h dk dd pl pd) (hO : hmD I dk O) (ho : hmOok O) (hH : hmR I (h + 30) H) (hok : hmOk O H) (hkn : hmS10 (hmKnown H)) (hQ : Q (some (.int (spLost O H))) 0 sh R L I) : ∀ n i, n + i = (hmLine H).length → Ex d 0 0 MX8_lost 0 sh R L I 45 [some (.ref h), some (.int (hmKnown H)), some (.int ((((hmLine H).take i).filter (fun w => !hmBit (hmKnown H) (hmTr O w))).foldl (fun s w => s ||| hmOne w) 0)), some (.int (nI i)), none] [] Q := by
  obtain ⟨h6, hlen, hset, htak, hmin, hline, hhas, hheld, htalk⟩ := id hH
  obtain ⟨on, otk, ow, olen, olaw⟩ := id hO
  obtain ⟨o6, ot1, ot2, oo, oll, owf⟩ := id ho
  have hdd := xH_27 hx
  have hlN := hok.2.1
  intro n
  induction n with
  | zero =>
    intro i hi
    refine Ex_iload_n 46 (i := 3) dX8_lost_45 rfl rfl rfl ?_
    refine Ex_aload_n 47 (i := 0) dX8_lost_46 rfl rfl rfl ?_
    refine Ex_getR 50 dX8_lost_47 fX8_39 (xH_0 hx) rfl (xH_6 hx) rfl ?_
    refine Ex_gI 53 (I (h + 30) 4) dX8_lost_50 fX8_129 (xH_18 hx).1 rfl rfl rfl ?_
    rw [hlen]
    refine Ex_icmp_ge 56 97 dX8_lost_53 (by decide) rfl (fun c1 => ?_) (fun c1 => absurd c1 (fun q => q (nI_le (by omega) (by omega))))
    refine Ex_iload_n 98 (i := 2) dX8_lost_97 rfl rfl rfl ?_
    refine Ex_iret dX8_lost_98 rfl rfl (Or.inl rfl) ?_
    rw [List.take_of_length_le (by omega)]
    exact hQ
  | succ n ih =>
    intro i hi
    have hil : i < (hmLine H).length := by omega
    obtain ⟨u, hue⟩ : ∃ u, (hmLine H).getD i 0 = u := ⟨_, rfl⟩
    have hum : u ∈ hmLine H := by rw [← hue]; exact hm_getD_mem hil
    have hu := hlN u hum
    have ht1 : (hmLine H).take (i + 1) = (hmLine H).take i ++ [u] := by rw [hm_take1 hil, hue]
    refine Ex_iload_n 46 (i := 3) dX8_lost_45 rfl rfl rfl ?_
    refine Ex_aload_n 47 (i := 0) dX8_lost_46 rfl rfl rfl ?_
    refine Ex_getR 50 dX8_lost_47 fX8_39 (xH_0 hx) rfl (xH_6 hx) rfl ?_
    refine Ex_gI 53 (I (h + 30) 4) dX8_lost_50 fX8_129 (xH_18 hx).1 rfl rfl rfl ?_
    rw [hlen]
    refine Ex_icmp_ge 56 97 dX8_lost_53 (by decide) rfl (fun c1 => absurd c1 (nI_ge (by omega) (by omega))) (fun c1 => ?_)
    refine Ex_aload_n 57 (i := 0) dX8_lost_56 rfl rfl rfl ?_
    refine Ex_getR 60 dX8_lost_57 fX8_39 (xH_0 hx) rfl (xH_6 hx) rfl ?_
    refine Ex_getR 63 dX8_lost_60 fX8_130 (xH_18 hx).1 rfl (xH_18 hx).2.2.2.2.2.2.2.1 rfl ?_
    refine Ex_iload_n 64 (i := 3) dX8_lost_63 rfl rfl rfl ?_
    refine Ex_aI 65 i (I (h + 33) i) dX8_lost_64 (xH_18 hx).2.2.2.1 rfl (by omega) (by decide) rfl rfl ?_
    rw [hline i hil, hue]
    refine Ex_istore 67 (ls' := [some (.ref h), some (.int (hmKnown H)), some (.int ((((hmLine H).take i).filter (fun w => !hmBit (hmKnown H) (hmTr O w))).foldl (fun s w => s ||| hmOne w) 0)), some (.int (nI i)), some (.int (nI u))]) dX8_lost_65 (Nat.le_of_ble_eq_true rfl) rfl rfl rfl ?_
    refine Ex_iload_n 68 (i := 1) dX8_lost_67 rfl rfl rfl ?_
    refine Ex_aload_n 69 (i := 0) dX8_lost_68 rfl rfl rfl ?_
    refine Ex_getR 72 dX8_lost_69 fX8_19 (xH_0 hx) rfl (xH_2 hx) rfl ?_
    refine Ex_getR 75 dX8_lost_72 fX8_103 (xH_14 hx).1 rfl (xH_14 hx).2.2.2.2.2.2.2.2.2.2.2.1 rfl ?_
    refine Ex_iload 77 dX8_lost_75 rfl rfl ?_
    refine Ex_aI 78 u (I (dk + 3) u) dX8_lost_77 (xH_14 hx).2.2.2.1 rfl (by omega) (by decide) rfl rfl ?_
    rw [(ow u hu).2.1]
    refine Ex_ishr 79 dX8_lost_78 rfl ?_
    refine Ex_iconst 80 (v := 1) dX8_lost_79 (by decide) rfl ?_
    refine Ex_iand 81 dX8_lost_80 rfl ?_
    refine Ex_if_ne 84 91 dX8_lost_81 (by decide) rfl (fun c2 => ?_) (fun c2 => ?_)
    · refine Ex_iinc 94 (v := (nI (i + 1))) (ls' := [some (.ref h), some (.int (hmKnown H)), some (.int ((((hmLine H).take i).filter (fun w => !hmBit (hmKnown H) (hmTr O w))).foldl (fun s w => s ||| hmOne w) 0)), some (.int (nI (i + 1))), some (.int (nI u))]) dX8_lost_91 rfl (xinc _) (Nat.le_of_ble_eq_true rfl) rfl rfl rfl ?_
      refine Ex_goto 45 dX8_lost_94 (by decide) ?_
      refine Ex_fgt (ls' := [some (.ref h), some (.int (hmKnown H)), some (.int ((((hmLine H).take i).filter (fun w => !hmBit (hmKnown H) (hmTr O w))).foldl (fun s w => s ||| hmOne w) 0)), some (.int (nI (i + 1))), none]) (by simp [xsub]) ?_
      have hb : hmBit (hmKnown H) (hmTr O u) = true := hm_bit1 hkn (oo u hu).2.1 c2
      have e : (((hmLine H).take (i + 1)).filter (fun w => !hmBit (hmKnown H) (hmTr O w))).foldl (fun s w => s ||| hmOne w) 0 = (((hmLine H).take i).filter (fun w => !hmBit (hmKnown H) (hmTr O w))).foldl (fun s w => s ||| hmOne w) 0 := by rw [ht1, List.filter_append]; simp [hb]
      rw [← e]
      exact ih (i + 1) (by omega)
    · refine Ex_iload_n 85 (i := 2) dX8_lost_84 rfl rfl rfl ?_
      refine Ex_iconst 86 (v := 1) dX8_lost_85 (by decide) rfl ?_
      refine Ex_iload 88 dX8_lost_86 rfl rfl ?_
      refine Ex_ishl 89 dX8_lost_88 rfl ?_
      refine Ex_ior 90 dX8_lost_89 rfl ?_
      refine Ex_istore_n 91 (i := 2) (ls' := [some (.ref h), some (.int (hmKnown H)), some (.int (((((hmLine H).take i).filter (fun w => !hmBit (hmKnown H) (hmTr O w))).foldl (fun s w => s ||| hmOne w) 0) ||| (1 <<< ((nI u) &&& 31)))), some (.int (nI i)), some (.int (nI u))]) dX8_lost_90 rfl (Nat.le_of_ble_eq_true rfl) rfl rfl rfl ?_
      refine Ex_iinc 94 (v := (nI (i + 1))) (ls' := [some (.ref h), some (.int (hmKnown H)), some (.int (((((hmLine H).take i).filter (fun w => !hmBit (hmKnown H) (hmTr O w))).foldl (fun s w => s ||| hmOne w) 0) ||| (1 <<< ((nI u) &&& 31)))), some (.int (nI (i + 1))), some (.int (nI u))]) dX8_lost_91 rfl (xinc _) (Nat.le_of_ble_eq_true rfl) rfl rfl rfl ?_
      refine Ex_goto 45 dX8_lost_94 (by decide) ?_
      refine Ex_fgt (ls' := [some (.ref h), some (.int (hmKnown H)), some (.int (((((hmLine H).take i).filter (fun w => !hmBit (hmKnown H) (hmTr O w))).foldl (fun s w => s ||| hmOne w) 0) ||| (1 <<< ((nI u) &&& 31)))), some (.int (nI (i + 1))), none]) (by simp [xsub]) ?_
      have hb : hmBit (hmKnown H) (hmTr O u) = false := by
        cases hz : hmBit (hmKnown H) (hmTr O u) with
        | false => rfl
        | true => exact absurd ((hmBit_1.mp hz).symm.trans c2) (by decide)
      have e : (((hmLine H).take (i + 1)).filter (fun w => !hmBit (hmKnown H) (hmTr O w))).foldl (fun s w => s ||| hmOne w) 0 = ((((hmLine H).take i).filter (fun w => !hmBit (hmKnown H) (hmTr O w))).foldl (fun s w => s ||| hmOne w) 0) ||| (1 <<< (nI u &&& 31)) := by rw [ht1, List.filter_append, List.foldl_append]; simp [hb, hmOne]
      rw [← e]
      exact ih (i + 1) (by omega)
set_option maxHeartbeats 4000000 in
theorem c_lost_1 {d : Nat} {sh : xSh} {R : xR} {L : xL} {I : xI} {Q : xQ} {h dk dd pl pd : Nat} {O : hmO} {H : hmH} (hx : xHM sh R h dk dd pl pd) (hO : hmD I dk O) (ho : hmOok O) (hH : hmR I (h + 30) H) (hok : hmOk O H) (hQ : Q (some (.int (spLost O H))) 0 sh R L I) : ∀ n i, n + i = (hmLine H).length → Ex d 0 0 MX8_lost 0 sh R L I 4 [some (.ref h), some (.int (((hmLine H).take i).foldl (fun s w => s ||| hmHas H w) 0)), some (.int (nI i)), none, none] [] Q := by
  obtain ⟨h6, hlen, hset, htak, hmin, hline, hhas, hheld, htalk⟩ := id hH
  obtain ⟨on, otk, ow, olen, olaw⟩ := id hO
  obtain ⟨o6, ot1, ot2, oo, oll, owf⟩ := id ho
  have hdd := xH_27 hx
  have hlN := hok.2.1
  intro n
  induction n with
  | zero =>
    intro i hi
    refine Ex_iload_n 5 (i := 2) dX8_lost_4 rfl rfl rfl ?_
    refine Ex_aload_n 6 (i := 0) dX8_lost_5 rfl rfl rfl ?_
    refine Ex_getR 9 dX8_lost_6 fX8_39 (xH_0 hx) rfl (xH_6 hx) rfl ?_
    refine Ex_gI 12 (I (h + 30) 4) dX8_lost_9 fX8_129 (xH_18 hx).1 rfl rfl rfl ?_
    rw [hlen]
    refine Ex_icmp_ge 15 41 dX8_lost_12 (by decide) rfl (fun c1 => ?_) (fun c1 => absurd c1 (fun q => q (nI_le (by omega) (by omega))))
    refine Ex_iconst 42 (v := 0) dX8_lost_41 (by decide) rfl ?_
    refine Ex_istore_n 43 (i := 2) (ls' := [some (.ref h), some (.int (((hmLine H).take i).foldl (fun s w => s ||| hmHas H w) 0)), some (.int 0), none, none]) dX8_lost_42 rfl (Nat.le_of_ble_eq_true rfl) rfl rfl rfl ?_
    refine Ex_iconst 44 (v := 0) dX8_lost_43 (by decide) rfl ?_
    refine Ex_istore_n 45 (i := 3) (ls' := [some (.ref h), some (.int (((hmLine H).take i).foldl (fun s w => s ||| hmHas H w) 0)), some (.int 0), some (.int 0), none]) dX8_lost_44 rfl (Nat.le_of_ble_eq_true rfl) rfl rfl rfl ?_
    rw [List.take_of_length_le (by omega)]
    exact c_lost_2 hx hO ho hH hok (hm_known_s10 hok o6) hQ (hmLine H).length 0 (by omega)
  | succ n ih =>
    intro i hi
    have hil : i < (hmLine H).length := by omega
    obtain ⟨u, hue⟩ : ∃ u, (hmLine H).getD i 0 = u := ⟨_, rfl⟩
    have hum : u ∈ hmLine H := by rw [← hue]; exact hm_getD_mem hil
    have hu := hlN u hum
    have ht1 : (hmLine H).take (i + 1) = (hmLine H).take i ++ [u] := by rw [hm_take1 hil, hue]
    refine Ex_iload_n 5 (i := 2) dX8_lost_4 rfl rfl rfl ?_
    refine Ex_aload_n 6 (i := 0) dX8_lost_5 rfl rfl rfl ?_
    refine Ex_getR 9 dX8_lost_6 fX8_39 (xH_0 hx) rfl (xH_6 hx) rfl ?_
    refine Ex_gI 12 (I (h + 30) 4) dX8_lost_9 fX8_129 (xH_18 hx).1 rfl rfl rfl ?_
    rw [hlen]
    refine Ex_icmp_ge 15 41 dX8_lost_12 (by decide) rfl (fun c1 => absurd c1 (nI_ge (by omega) (by omega))) (fun c1 => ?_)
    refine Ex_iload_n 16 (i := 1) dX8_lost_15 rfl rfl rfl ?_
    refine Ex_aload_n 17 (i := 0) dX8_lost_16 rfl rfl rfl ?_
    refine Ex_getR 20 dX8_lost_17 fX8_39 (xH_0 hx) rfl (xH_6 hx) rfl ?_
    refine Ex_getR 23 dX8_lost_20 fX8_109 (xH_18 hx).1 rfl (xH_18 hx).2.2.2.2.2.1 rfl ?_
    refine Ex_aload_n 24 (i := 0) dX8_lost_23 rfl rfl rfl ?_
    refine Ex_getR 27 dX8_lost_24 fX8_39 (xH_0 hx) rfl (xH_6 hx) rfl ?_
    refine Ex_getR 30 dX8_lost_27 fX8_130 (xH_18 hx).1 rfl (xH_18 hx).2.2.2.2.2.2.2.1 rfl ?_
    refine Ex_iload_n 31 (i := 2) dX8_lost_30 rfl rfl rfl ?_
    refine Ex_aI 32 i (I (h + 33) i) dX8_lost_31 (xH_18 hx).2.2.2.1 rfl (by omega) (by decide) rfl rfl ?_
    rw [hline i hil, hue]
    refine Ex_aI 33 u (I (h + 31) u) dX8_lost_32 (xH_18 hx).2.1 rfl (by omega) (by decide) rfl rfl ?_
    rw [hhas u (by omega)]
    refine Ex_ior 34 dX8_lost_33 rfl ?_
    refine Ex_istore_n 35 (i := 1) (ls' := [some (.ref h), some (.int ((((hmLine H).take i).foldl (fun s w => s ||| hmHas H w) 0) ||| (hmHas H u))), some (.int (nI i)), none, none]) dX8_lost_34 rfl (Nat.le_of_ble_eq_true rfl) rfl rfl rfl ?_
    refine Ex_iinc 38 (v := (nI (i + 1))) (ls' := [some (.ref h), some (.int ((((hmLine H).take i).foldl (fun s w => s ||| hmHas H w) 0) ||| (hmHas H u))), some (.int (nI (i + 1))), none, none]) dX8_lost_35 rfl (xinc _) (Nat.le_of_ble_eq_true rfl) rfl rfl rfl ?_
    refine Ex_goto 4 dX8_lost_38 (by decide) ?_
    have e : ((hmLine H).take (i + 1)).foldl (fun s w => s ||| hmHas H w) 0 = ((hmLine H).take i).foldl (fun s w => s ||| hmHas H w) 0 ||| hmHas H u := by rw [ht1, List.foldl_append]; rfl
    rw [← e]
    exact ih (i + 1) (by omega)
set_option maxHeartbeats 4000000 in
theorem c_lost {d : Nat} {sh : xSh} {R : xR} {L : xL} {I : xI} {Q : xQ} {h dk dd pl pd : Nat} {O : hmO} {H : hmH} (hx : xHM sh R h dk dd pl pd) (hO : hmD I dk O) (ho : hmOok O) (hH : hmR I (h + 30) H) (hok : hmOk O H) (hQ : Q (some (.int (spLost O H))) 0 sh R L I) : Ex d 0 0 MX8_lost 0 sh R L I 0 [some (.ref h), none, none, none, none] [] Q := by
  refine Ex_iconst 1 (v := 0) dX8_lost_0 (by decide) rfl ?_
  refine Ex_istore_n 2 (i := 1) (ls' := [some (.ref h), some (.int 0), none, none, none]) dX8_lost_1 rfl (Nat.le_of_ble_eq_true rfl) rfl rfl rfl ?_
  refine Ex_iconst 3 (v := 0) dX8_lost_2 (by decide) rfl ?_
  refine Ex_istore_n 4 (i := 2) (ls' := [some (.ref h), some (.int 0), some (.int 0), none, none]) dX8_lost_3 rfl (Nat.le_of_ble_eq_true rfl) rfl rfl rfl ?_
  exact c_lost_1 hx hO ho hH hok hQ (hmLine H).length 0 (by omega)
