set_option maxHeartbeats 4000000 in
theorem c_when_end {d : Nat} {sh : xSh} {R : xR} {L : xL} {I : xI} {Q : xQ} {h dk dd pl pd : Nat} {O : hmO} (hx : xHM sh R h dk dd pl pd) (ho : hmOok O) {w k : Nat} {H : hmH} (hset : I (h + 35) 5 = hmSet H) (hQ : Q (some (.int (if hmBit (hmSet H) w = true then nI k else -1))) 0 sh R L I) : Ex (d + 1) 0 0 MX8_when 0 sh R L I 75 [some (.ref h), some (.int (nI w)), some (.int (nI k))] [] Q := by
  refine Ex_aload_n 76 (i := 0) dX8_when_75 rfl rfl rfl ?_
  refine Ex_getR 79 dX8_when_76 fX8_43 (xH_0 hx) rfl (xH_7 hx) rfl ?_
  refine Ex_iload_n 80 (i := 1) dX8_when_79 rfl rfl rfl ?_
  refine Ex_callV (M' := MX1_isSettled) 83 [.int (nI w)] (rest := []) dX8_when_80 lX8_178 mX1_isSettled rfl (xH_19 hx).1 rfl (Nat.le_of_ble_eq_true rfl) (Nat.le_of_ble_eq_true rfl) rfl ?_
  refine c_isSettled (xH_19 hx) hset ?_
  simp only [Option.toList, List.cons_append, List.nil_append]
  refine Ex_if_eq 86 90 dX8_when_83 (by decide) rfl (fun c1 => ?_) (fun c1 => ?_)
  · refine Ex_iconst 91 (v := (-1)) dX8_when_90 (by decide) rfl ?_
    refine Ex_iret dX8_when_91 rfl rfl (Or.inl rfl) ?_
    rw [hmB_eq c1, if_neg (by decide)] at hQ
    exact hQ
  · refine Ex_iload_n 87 (i := 2) dX8_when_86 rfl rfl rfl ?_
    refine Ex_goto 91 dX8_when_87 (by decide) ?_
    refine Ex_iret dX8_when_91 rfl rfl (Or.inl rfl) ?_
    rw [hmB_ne c1, if_pos rfl] at hQ
    exact hQ
set_option maxHeartbeats 4000000 in
theorem c_when_loop {d : Nat} {sh : xSh} {R : xR} {L : xL} {I : xI} {Q : xQ} {h dk dd pl pd : Nat} {O : hmO} (hx : xHM sh R h dk dd pl pd) (ho : hmOok O) {w : Nat} (hw : w < 6) : ∀ n k J H, n + k = 30 → hmR J (h + 35) H → hmD J dk O → hmOk O H → hmMin H + n < 900000 → (∀ I', hmQf h dk J I' → Q (some (.int (hmWv k (hmWhen O n H w)))) 0 sh R L I') → Ex (d + 4) 0 0 MX8_when 0 sh R L J 23 [some (.ref h), some (.int (nI w)), some (.int (nI k))] [] Q := by
  have hdd := xH_27 hx
  have hdis : dk + 9 ≤ h + 35 ∨ h + 35 + 5 ≤ dk := by omega
  intro n
  induction n with
  | zero =>
    intro k J H hk hH hO hok hmn hQ
    obtain ⟨h6, hlen, hset, htak, hmin, hline, hhas, hheld, htalk⟩ := id hH
    obtain ⟨on, otk, ow, olen, olaw⟩ := id hO
    have hlN : ∀ x, x ∈ hmLine H → x < 6 := fun x hx => by
      have := hok.2.1 x hx
      have := ho.1
      omega
    refine Ex_iload_n 24 (i := 2) dX8_when_23 rfl rfl rfl ?_
    refine Ex_bipush 26 (v := 30) dX8_when_24 (by decide) rfl ?_
    refine Ex_icmp_ge 29 75 dX8_when_26 (by decide) rfl (fun c1 => ?_) (fun c1 => absurd c1 (fun q => q (nI_le (a := 30) (by omega) (by omega))))
    refine c_when_end hx ho hset ?_
    have e : hmWv k (hmWhen O 0 H w) = if hmBit (hmSet H) w = true then nI k else -1 := by
      show hmWv k (if hmBit (hmSet H) w = true then _ else _) = _
      split <;> rfl
    rw [← e]
    exact hQ J hmQf.rf
  | succ n ih =>
    intro k J H hk hH hO hok hmn hQ
    obtain ⟨h6, hlen, hset, htak, hmin, hline, hhas, hheld, htalk⟩ := id hH
    obtain ⟨on, otk, ow, olen, olaw⟩ := id hO
    have hlN : ∀ x, x ∈ hmLine H → x < 6 := fun x hx => by
      have := hok.2.1 x hx
      have := ho.1
      omega
    refine Ex_iload_n 24 (i := 2) dX8_when_23 rfl rfl rfl ?_
    refine Ex_bipush 26 (v := 30) dX8_when_24 (by decide) rfl ?_
    refine Ex_icmp_ge 29 75 dX8_when_26 (by decide) rfl (fun c1 => absurd c1 (nI_ge (b := 30) (by omega) (by omega))) (fun c1 => ?_)
    refine Ex_aload_n 30 (i := 0) dX8_when_29 rfl rfl rfl ?_
    refine Ex_getR 33 dX8_when_30 fX8_43 (xH_0 hx) rfl (xH_7 hx) rfl ?_
    refine Ex_gI 36 (J (h + 35) 4) dX8_when_33 fX8_129 (xH_19 hx).1 rfl rfl rfl ?_
    rw [hlen]
    refine Ex_if_le 39 75 dX8_when_36 (by decide) rfl (fun c2 => ?_) (fun c2 => ?_)
    · have hl : hmLine H = [] := by
        have h1 : (hmLine H).length = 0 := by
          by_cases z : (hmLine H).length = 0
          · exact z
          · exact absurd c2 (Int32.not_le.mpr (hm_nIpos (by omega) (by omega)))
        exact List.eq_nil_of_length_eq_zero h1
      refine c_when_end hx ho hset ?_
      have e : hmWv k (hmWhen O (n + 1) H w) = if hmBit (hmSet H) w = true then nI k else -1 := by
        show hmWv k (if hmBit (hmSet H) w = true then _ else _) = _
        rw [if_pos hl]
        split <;> rfl
      rw [← e]
      exact hQ J hmQf.rf
    · refine Ex_aload_n 40 (i := 0) dX8_when_39 rfl rfl rfl ?_
      refine Ex_getR 43 dX8_when_40 fX8_43 (xH_0 hx) rfl (xH_7 hx) rfl ?_
      refine Ex_iload_n 44 (i := 1) dX8_when_43 rfl rfl rfl ?_
      refine Ex_callV (M' := MX1_isSettled) 47 [.int (nI w)] (rest := []) dX8_when_44 lX8_178 mX1_isSettled rfl (xH_19 hx).1 rfl (Nat.le_of_ble_eq_true rfl) (Nat.le_of_ble_eq_true rfl) rfl ?_
      refine c_isSettled (xH_19 hx) hset ?_
      simp only [Option.toList, List.cons_append, List.nil_append]
      refine Ex_if_ne 50 75 dX8_when_47 (by decide) rfl (fun c3 => ?_) (fun c3 => ?_)
      · refine c_when_end hx ho hset ?_
        have e : hmWv k (hmWhen O (n + 1) H w) = if hmBit (hmSet H) w = true then nI k else -1 := by
          show hmWv k (if hmBit (hmSet H) w = true then _ else _) = _
          rw [hmB_ne c3, if_pos rfl, if_pos rfl]
          rfl
        rw [← e]
        exact hQ J hmQf.rf
      · refine Ex_aload_n 51 (i := 0) dX8_when_50 rfl rfl rfl ?_
        refine Ex_getR 54 dX8_when_51 fX8_43 (xH_0 hx) rfl (xH_7 hx) rfl ?_
        refine Ex_aload_n 55 (i := 0) dX8_when_54 rfl rfl rfl ?_
        refine Ex_getR 58 dX8_when_55 fX8_19 (xH_0 hx) rfl (xH_2 hx) rfl ?_
        refine Ex_aload_n 59 (i := 0) dX8_when_58 rfl rfl rfl ?_
        refine Ex_getR 62 dX8_when_59 fX8_19 (xH_0 hx) rfl (xH_2 hx) rfl ?_
        refine Ex_gI 65 (J dk 7) dX8_when_62 fX8_153 (xH_14 hx).1 rfl rfl rfl ?_
        rw [otk]
        refine Ex_callV (M' := MX1_passMinute) 68 [.ref dk, .int (nI (hmTk O))] (rest := []) dX8_when_65 lX8_156 mX1_passMinute rfl (xH_19 hx).1 rfl (Nat.le_of_ble_eq_true rfl) (Nat.le_of_ble_eq_true rfl) rfl ?_
        refine c_passMinute (xH_19 hx) (xH_14 hx) hdis hH hO ho hok ho.2.1 ho.2.2.1 (by omega) (fun I1 hF1 hH1 => ?_)
        have g1 : hmQf h dk J I1 := hmQf.fd hF1
        have hO1 : hmD I1 dk O := hO.fd hF1 hdis
        have hok1 := hmOk_minute (tk := hmTk O) hok ho
        have hm1 := hmMinute_min O (hmTk O) H
        simp only [Option.toList, List.nil_append, List.cons_append]
        refine Ex_pop 69 dX8_when_68 rfl rfl ?_
        refine Ex_iinc 72 (v := (nI (k + 1))) (ls' := [some (.ref h), some (.int (nI w)), some (.int (nI (k + 1)))]) dX8_when_69 rfl (xinc _) (Nat.le_of_ble_eq_true rfl) rfl rfl rfl ?_
        refine Ex_goto 23 dX8_when_72 (by decide) ?_
        have hlne : hmLine H ≠ [] := fun z => c2 (by rw [z]; decide)
        have ew : hmWhen O (n + 1) H w = (hmWhen O n (hmMinute O (hmTk O) H) w).map (· + 1) := by
          show (if hmBit (hmSet H) w = true then _ else if hmLine H = [] then _ else _) = _
          rw [hmB_eq c3, if_neg (by decide), if_neg hlne]
        rw [ew, hmWv_map] at hQ
        exact ih (k + 1) I1 (hmMinute O (hmTk O) H) (by omega) hH1 hO1 hok1 (by omega) (fun I' g => hQ I' (g1.tr g))
set_option maxHeartbeats 4000000 in
theorem c_when {d : Nat} {sh : xSh} {R : xR} {L : xL} {I : xI} {Q : xQ} {h dk dd pl pd : Nat} {O : hmO} {H : hmH} (hx : xHM sh R h dk dd pl pd) (hO : hmD I dk O) (ho : hmOok O) (hH : hmR I (h + 30) H) (hok : hmOk O H) (hmn : hmMin H < 800000) {qv : Int32} (hQ : ∀ I', hmQf h dk I I' → Q (some (.int (spWhen O H qv))) 0 sh R L I') : Ex (d + 4) 0 0 MX8_when 0 sh R L I 0 [some (.ref h), some (.int qv), none] [] Q := by
  obtain ⟨h6, hlen, hset, htak, hmin, hline, hhas, hheld, htalk⟩ := id hH
  obtain ⟨on, otk, ow, olen, olaw⟩ := id hO
  obtain ⟨o6, ot1, ot2, oo, oll, owf⟩ := id ho
  have hdd := xH_27 hx
  have hlN := hok.2.1
  refine Ex_aload_n 1 (i := 0) dX8_when_0 rfl rfl rfl ?_
  refine Ex_iload_n 2 (i := 1) dX8_when_1 rfl rfl rfl ?_
  refine Ex_callV (M' := MX8_isCaller) 5 [.int qv] (rest := []) dX8_when_2 lX8_96 mX8_isCaller rfl (xH_0 hx) rfl (Nat.le_of_ble_eq_true rfl) (Nat.le_of_ble_eq_true rfl) rfl ?_
  refine c_isCaller hx hO ho hH hok ?_
  simp only [Option.toList, List.cons_append, List.nil_append]
  refine Ex_if_ne 8 10 dX8_when_5 (by decide) rfl (fun c1 => ?_) (fun c1 => ?_)
  · have hct : hmCal (hmN O) qv = true := by
      cases hb : hmCal (hmN O) qv with
      | true => rfl
      | false => exact absurd ((hmB_0 _).mpr hb) c1
    obtain ⟨w, hw, rfl⟩ := hmCal_of hct
    have hix : hmIx (nI w) = w := hmIx_nI (by omega)
    refine Ex_aload_n 11 (i := 0) dX8_when_10 rfl rfl rfl ?_
    refine Ex_getR 14 dX8_when_11 fX8_43 (xH_0 hx) rfl (xH_7 hx) rfl ?_
    refine Ex_aload_n 15 (i := 0) dX8_when_14 rfl rfl rfl ?_
    refine Ex_getR 18 dX8_when_15 fX8_39 (xH_0 hx) rfl (xH_6 hx) rfl ?_
    refine Ex_callV (M' := MX1_copyFrom) 21 [.ref (h + 30)] (rest := []) dX8_when_18 lX8_166 mX1_copyFrom rfl (xH_19 hx).1 rfl (Nat.le_of_ble_eq_true rfl) (Nat.le_of_ble_eq_true rfl) rfl ?_
    refine c_copyFrom (xH_19 hx) (xH_18 hx) (by omega) hH (fun I0 hF0 hH0 => ?_)
    have g0 : hmQf h dk I I0 := hmQf.fr hF0
    have hO0 : hmD I0 dk O := hO.kept (fun z a b => hF0 z (by unfold hmIn; omega))
    simp only [Option.toList, List.nil_append, List.cons_append]
    refine Ex_iconst 22 (v := 0) dX8_when_21 (by decide) rfl ?_
    refine Ex_istore_n 23 (i := 2) (ls' := [some (.ref h), some (.int (nI w)), some (.int 0)]) dX8_when_22 rfl (Nat.le_of_ble_eq_true rfl) rfl rfl rfl ?_
    have e : spWhen O H (nI w) = hmWv 0 (hmWhen O 30 H w) := by simp only [spWhen, hct, hix, if_true]
    rw [e] at hQ
    exact c_when_loop (I := I) hx ho (by omega) 30 0 I0 H rfl hH0 hO0 hok (by omega) (fun I' g => hQ I' (g0.tr g))
  · refine Ex_iconst 9 (v := (-1)) dX8_when_8 (by decide) rfl ?_
    refine Ex_iret dX8_when_9 rfl rfl (Or.inl rfl) ?_
    have e : spWhen O H qv = -1 := by
      simp [spWhen, hmB_eq c1]
    rw [← e]
    exact hQ _ hmQf.rf
set_option maxHeartbeats 4000000 in
theorem c_empty {d : Nat} {sh : xSh} {R : xR} {L : xL} {I : xI} {Q : xQ} {h dk dd pl pd : Nat} {O : hmO} {H : hmH} (hx : xHM sh R h dk dd pl pd) (hO : hmD I dk O) (ho : hmOok O) (hH : hmR I (h + 30) H) (hok : hmOk O H) (hmn : hmMin H < 800000) (hQ : ∀ I', hmQf h dk I I' → Q (some (.int (spEmpty O H))) 0 sh R L I') : Ex (d + 5) 0 0 MX8_empty 0 sh R L I 0 [some (.ref h)] [] Q := by
  obtain ⟨h6, hlen, hset, htak, hmin, hline, hhas, hheld, htalk⟩ := id hH
  obtain ⟨on, otk, ow, olen, olaw⟩ := id hO
  obtain ⟨o6, ot1, ot2, oo, oll, owf⟩ := id ho
  have hdd := xH_27 hx
  have hlN := hok.2.1
  refine Ex_aload_n 1 (i := 0) dX8_empty_0 rfl rfl rfl ?_
  refine Ex_getR 4 dX8_empty_1 fX8_43 (xH_0 hx) rfl (xH_7 hx) rfl ?_
  refine Ex_aload_n 5 (i := 0) dX8_empty_4 rfl rfl rfl ?_
  refine Ex_getR 8 dX8_empty_5 fX8_39 (xH_0 hx) rfl (xH_6 hx) rfl ?_
  refine Ex_callV (M' := MX1_copyFrom) 11 [.ref (h + 30)] (rest := []) dX8_empty_8 lX8_166 mX1_copyFrom rfl (xH_19 hx).1 rfl (Nat.le_of_ble_eq_true rfl) (Nat.le_of_ble_eq_true rfl) rfl ?_
  refine c_copyFrom (xH_19 hx) (xH_18 hx) (by omega) hH (fun I0 hF0 hH0 => ?_)
  have g0 : hmQf h dk I I0 := hmQf.fr hF0
  have hO0 : hmD I0 dk O := hO.kept (fun z a b => hF0 z (by unfold hmIn; omega))
  simp only [Option.toList, List.nil_append, List.cons_append]
  refine Ex_aload_n 12 (i := 0) dX8_empty_11 rfl rfl rfl ?_
  refine Ex_getR 15 dX8_empty_12 fX8_43 (xH_0 hx) rfl (xH_7 hx) rfl ?_
  refine Ex_aload_n 16 (i := 0) dX8_empty_15 rfl rfl rfl ?_
  refine Ex_getR 19 dX8_empty_16 fX8_19 (xH_0 hx) rfl (xH_2 hx) rfl ?_
  refine Ex_callV (M' := MX1_runOut) 22 [.ref dk] (rest := []) dX8_empty_19 lX8_181 mX1_runOut rfl (xH_19 hx).1 rfl (Nat.le_of_ble_eq_true rfl) (Nat.le_of_ble_eq_true rfl) rfl ?_
  refine c_runOut (xH_19 hx) (xH_14 hx) (by omega) hO0 ho hH0 hok (by omega) (fun I1 hF1 hH1 => ?_)
  have g1 : hmQf h dk I I1 := g0.tr (hmQf.fd hF1)
  simp only [Option.toList, List.nil_append, List.cons_append]
  refine Ex_iret dX8_empty_22 rfl rfl (Or.inl rfl) ?_
  exact hQ I1 g1
set_option maxHeartbeats 4000000 in
theorem c_spread {d : Nat} {sh : xSh} {R : xR} {L : xL} {I : xI} {Q : xQ} {h dk dd pl pd : Nat} {O : hmO} {H : hmH} (hx : xHM sh R h dk dd pl pd) (hO : hmD I dk O) (ho : hmOok O) (hH : hmR I (h + 30) H) (hok : hmOk O H) (hmn : hmMin H < 800000) {qv : Int32} (hQ : ∀ I', hmQf h dk I I' → Q (some (.int (spSpread O H qv))) 0 sh R L I') : Ex (d + 5) 0 0 MX8_spread 0 sh R L I 0 [some (.ref h), some (.int qv)] [] Q := by
  obtain ⟨h6, hlen, hset, htak, hmin, hline, hhas, hheld, htalk⟩ := id hH
  obtain ⟨on, otk, ow, olen, olaw⟩ := id hO
  obtain ⟨o6, ot1, ot2, oo, oll, owf⟩ := id ho
  have hdd := xH_27 hx
  have hlN := hok.2.1
  refine Ex_iload_n 1 (i := 1) dX8_spread_0 rfl rfl rfl ?_
  refine Ex_callS (M' := MX8_isAnswer) 4 [.int qv] (rest := []) dX8_spread_1 lX8_184 mX8_isAnswer rfl rfl (Nat.le_of_ble_eq_true rfl) (Nat.le_of_ble_eq_true rfl) rfl ?_
  refine c_isAnswer ?_
  simp only [Option.toList, List.cons_append, List.nil_append]
  refine Ex_if_ne 7 9 dX8_spread_4 (by decide) rfl (fun c1 => ?_) (fun c1 => ?_)
  · have hct := hmB_ne c1
    obtain ⟨w, hw, rfl⟩ := hmCal_of hct
    have hix : hmIx (nI w) = w := hmIx_nI (by omega)
    refine Ex_aload_n 10 (i := 0) dX8_spread_9 rfl rfl rfl ?_
    refine Ex_getR 13 dX8_spread_10 fX8_43 (xH_0 hx) rfl (xH_7 hx) rfl ?_
    refine Ex_aload_n 14 (i := 0) dX8_spread_13 rfl rfl rfl ?_
    refine Ex_getR 17 dX8_spread_14 fX8_39 (xH_0 hx) rfl (xH_6 hx) rfl ?_
    refine Ex_callV (M' := MX1_copyFrom) 20 [.ref (h + 30)] (rest := []) dX8_spread_17 lX8_166 mX1_copyFrom rfl (xH_19 hx).1 rfl (Nat.le_of_ble_eq_true rfl) (Nat.le_of_ble_eq_true rfl) rfl ?_
    refine c_copyFrom (xH_19 hx) (xH_18 hx) (by omega) hH (fun I0 hF0 hH0 => ?_)
    have g0 : hmQf h dk I I0 := hmQf.fr hF0
    have hO0 : hmD I0 dk O := hO.kept (fun z a b => hF0 z (by unfold hmIn; omega))
    simp only [Option.toList, List.nil_append, List.cons_append]
    refine Ex_aload_n 21 (i := 0) dX8_spread_20 rfl rfl rfl ?_
    refine Ex_getR 24 dX8_spread_21 fX8_43 (xH_0 hx) rfl (xH_7 hx) rfl ?_
    refine Ex_aload_n 25 (i := 0) dX8_spread_24 rfl rfl rfl ?_
    refine Ex_getR 28 dX8_spread_25 fX8_19 (xH_0 hx) rfl (xH_2 hx) rfl ?_
    refine Ex_callV (M' := MX1_runOut) 31 [.ref dk] (rest := []) dX8_spread_28 lX8_181 mX1_runOut rfl (xH_19 hx).1 rfl (Nat.le_of_ble_eq_true rfl) (Nat.le_of_ble_eq_true rfl) rfl ?_
    refine c_runOut (xH_19 hx) (xH_14 hx) (by omega) hO0 ho hH0 hok (by omega) (fun I1 hF1 hH1 => ?_)
    have g1 : hmQf h dk I I1 := g0.tr (hmQf.fd hF1)
    simp only [Option.toList, List.nil_append, List.cons_append]
    refine Ex_pop 32 dX8_spread_31 rfl rfl ?_
    refine Ex_aload_n 33 (i := 0) dX8_spread_32 rfl rfl rfl ?_
    refine Ex_getR 36 dX8_spread_33 fX8_43 (xH_0 hx) rfl (xH_7 hx) rfl ?_
    refine Ex_iload_n 37 (i := 1) dX8_spread_36 rfl rfl rfl ?_
    refine Ex_aload_n 38 (i := 0) dX8_spread_37 rfl rfl rfl ?_
    refine Ex_getR 41 dX8_spread_38 fX8_19 (xH_0 hx) rfl (xH_2 hx) rfl ?_
    refine Ex_gI 44 (I1 dk 6) dX8_spread_41 fX8_187 (xH_14 hx).1 rfl rfl rfl ?_
    have on1 : I1 dk 6 = nI (hmN O) := (hO0.fd hF1 (by omega)).1
    rw [on1]
    refine Ex_callV (M' := MX1_whoHas) 47 [.int (nI w), .int (nI (hmN O))] (rest := []) dX8_spread_44 lX8_190 mX1_whoHas rfl (xH_19 hx).1 rfl (Nat.le_of_ble_eq_true rfl) (Nat.le_of_ble_eq_true rfl) rfl ?_
    refine c_whoHas (k := w) (n := hmN O) (f := hmHas (hmOut O 30 H).2) (xH_19 hx) (fun z hz => hH1.2.2.2.2.2.2.1 z (by omega)) o6 ?_
    simp only [Option.toList, List.cons_append, List.nil_append]
    refine Ex_iret dX8_spread_47 rfl rfl (Or.inl rfl) ?_
    have e : spSpread O H (nI w) = hmWho (hmHas (hmOut O 30 H).2) w (hmN O) := by
      simp only [spSpread, hct, hix, if_true]
    rw [← e]
    exact hQ _ g1
  · refine Ex_iconst 8 (v := (-1)) dX8_spread_7 (by decide) rfl ?_
    refine Ex_iret dX8_spread_8 rfl rfl (Or.inl rfl) ?_
    have e : spSpread O H qv = -1 := by
      have h1 := hmB_eq c1
      simp [spSpread, h1]
    rw [← e]
    exact hQ _ hmQf.rf
set_option maxHeartbeats 4000000 in
theorem c_gone_loop {d : Nat} {sh : xSh} {R : xR} {L : xL} {I : xI} {Q : xQ} {h dk dd pl pd : Nat} {O : hmO} (hx : xHM sh R h dk dd pl pd) (ho : hmOok O) {w : Nat} (hw : w < 6) : ∀ n k J H, n + k = 30 → hmR J (h + 35) H → hmD J dk O → hmOk O H → hmMin H + n < 900000 → (∀ I', hmQf h dk J I' → Q (some (.int (nI (k + hmGo O n H w)))) 0 sh R L I') → Ex (d + 4) 0 0 MX8_gone 0 sh R L J 23 [some (.ref h), some (.int (nI w)), some (.int (nI k))] [] Q := by
  have hdd := xH_27 hx
  have hdis : dk + 9 ≤ h + 35 ∨ h + 35 + 5 ≤ dk := by omega
  intro n
  induction n with
  | zero =>
    intro k J H hk hH hO hok hmn hQ
    obtain ⟨h6, hlen, hset, htak, hmin, hline, hhas, hheld, htalk⟩ := id hH
    obtain ⟨on, otk, ow, olen, olaw⟩ := id hO
    have hlN : ∀ x, x ∈ hmLine H → x < 6 := fun x hx => by
      have := hok.2.1 x hx
      have := ho.1
      omega
    refine Ex_iload_n 24 (i := 2) dX8_gone_23 rfl rfl rfl ?_
    refine Ex_bipush 26 (v := 30) dX8_gone_24 (by decide) rfl ?_
    refine Ex_icmp_ge 29 66 dX8_gone_26 (by decide) rfl (fun c1 => ?_) (fun c1 => absurd c1 (fun q => q (nI_le (a := 30) (by omega) (by omega))))
    refine Ex_iload_n 67 (i := 2) dX8_gone_66 rfl rfl rfl ?_
    refine Ex_iret dX8_gone_67 rfl rfl (Or.inl rfl) ?_
    exact hQ J hmQf.rf
  | succ n ih =>
    intro k J H hk hH hO hok hmn hQ
    obtain ⟨h6, hlen, hset, htak, hmin, hline, hhas, hheld, htalk⟩ := id hH
    obtain ⟨on, otk, ow, olen, olaw⟩ := id hO
    have hlN : ∀ x, x ∈ hmLine H → x < 6 := fun x hx => by
      have := hok.2.1 x hx
      have := ho.1
      omega
    refine Ex_iload_n 24 (i := 2) dX8_gone_23 rfl rfl rfl ?_
    refine Ex_bipush 26 (v := 30) dX8_gone_24 (by decide) rfl ?_
    refine Ex_icmp_ge 29 66 dX8_gone_26 (by decide) rfl (fun c1 => absurd c1 (nI_ge (b := 30) (by omega) (by omega))) (fun c1 => ?_)
    refine Ex_aload_n 30 (i := 0) dX8_gone_29 rfl rfl rfl ?_
    refine Ex_getR 33 dX8_gone_30 fX8_43 (xH_0 hx) rfl (xH_7 hx) rfl ?_
    refine Ex_iload_n 34 (i := 1) dX8_gone_33 rfl rfl rfl ?_
    refine Ex_callV (M' := MX1_placeOf) 37 [.int (nI w)] (rest := []) dX8_gone_34 lX8_115 mX1_placeOf rfl (xH_19 hx).1 rfl (Nat.le_of_ble_eq_true rfl) (Nat.le_of_ble_eq_true rfl) rfl ?_
    refine c_placeOf (xH_19 hx) hH (by omega) (fun x hx => by have := hlN x hx; omega) ?_
    simp only [Option.toList, List.cons_append, List.nil_append]
    refine Ex_iconst 38 (v := (-1)) dX8_gone_37 (by decide) rfl ?_
    refine Ex_icmp_eq 41 66 dX8_gone_38 (by decide) rfl (fun c2 => ?_) (fun c2 => ?_)
    · refine Ex_iload_n 67 (i := 2) dX8_gone_66 rfl rfl rfl ?_
      refine Ex_iret dX8_gone_67 rfl rfl (Or.inl rfl) ?_
      have hn : w ∉ hmLine H := (hmPlc_ne (by omega)).mp c2
      have e : hmGo O (n + 1) H w = 0 := by
        show (if w ∈ hmLine H then _ else _) = _
        rw [if_neg hn]
      rw [e] at hQ
      exact hQ J hmQf.rf
    · refine Ex_aload_n 42 (i := 0) dX8_gone_41 rfl rfl rfl ?_
      refine Ex_getR 45 dX8_gone_42 fX8_43 (xH_0 hx) rfl (xH_7 hx) rfl ?_
      refine Ex_aload_n 46 (i := 0) dX8_gone_45 rfl rfl rfl ?_
      refine Ex_getR 49 dX8_gone_46 fX8_19 (xH_0 hx) rfl (xH_2 hx) rfl ?_
      refine Ex_aload_n 50 (i := 0) dX8_gone_49 rfl rfl rfl ?_
      refine Ex_getR 53 dX8_gone_50 fX8_19 (xH_0 hx) rfl (xH_2 hx) rfl ?_
      refine Ex_gI 56 (J dk 7) dX8_gone_53 fX8_153 (xH_14 hx).1 rfl rfl rfl ?_
      rw [otk]
      refine Ex_callV (M' := MX1_passMinute) 59 [.ref dk, .int (nI (hmTk O))] (rest := []) dX8_gone_56 lX8_156 mX1_passMinute rfl (xH_19 hx).1 rfl (Nat.le_of_ble_eq_true rfl) (Nat.le_of_ble_eq_true rfl) rfl ?_
      refine c_passMinute (xH_19 hx) (xH_14 hx) hdis hH hO ho hok ho.2.1 ho.2.2.1 (by omega) (fun I1 hF1 hH1 => ?_)
      have g1 : hmQf h dk J I1 := hmQf.fd hF1
      have hO1 : hmD I1 dk O := hO.fd hF1 hdis
      have hok1 := hmOk_minute (tk := hmTk O) hok ho
      have hm1 := hmMinute_min O (hmTk O) H
      simp only [Option.toList, List.nil_append, List.cons_append]
      refine Ex_pop 60 dX8_gone_59 rfl rfl ?_
      refine Ex_iinc 63 (v := (nI (k + 1))) (ls' := [some (.ref h), some (.int (nI w)), some (.int (nI (k + 1)))]) dX8_gone_60 rfl (xinc _) (Nat.le_of_ble_eq_true rfl) rfl rfl rfl ?_
      refine Ex_goto 23 dX8_gone_63 (by decide) ?_
      have hn : w ∈ hmLine H := by
        by_cases z : w ∈ hmLine H
        · exact z
        · exact absurd ((hmPlc_ne (by omega)).mpr z) c2
      have e : hmGo O (n + 1) H w = hmGo O n (hmMinute O (hmTk O) H) w + 1 := by
        show (if w ∈ hmLine H then _ else _) = _
        rw [if_pos hn]
      rw [e] at hQ
      refine ih (k + 1) I1 (hmMinute O (hmTk O) H) (by omega) hH1 hO1 hok1 (by omega) (fun I' g => ?_)
      rw [show k + 1 + hmGo O n (hmMinute O (hmTk O) H) w = k + (hmGo O n (hmMinute O (hmTk O) H) w + 1) by omega]
      exact hQ I' (g1.tr g)
set_option maxHeartbeats 4000000 in
theorem c_gone {d : Nat} {sh : xSh} {R : xR} {L : xL} {I : xI} {Q : xQ} {h dk dd pl pd : Nat} {O : hmO} {H : hmH} (hx : xHM sh R h dk dd pl pd) (hO : hmD I dk O) (ho : hmOok O) (hH : hmR I (h + 30) H) (hok : hmOk O H) (hmn : hmMin H < 800000) {qv : Int32} (hQ : ∀ I', hmQf h dk I I' → Q (some (.int (spGone O H qv))) 0 sh R L I') : Ex (d + 4) 0 0 MX8_gone 0 sh R L I 0 [some (.ref h), some (.int qv), none] [] Q := by
  obtain ⟨h6, hlen, hset, htak, hmin, hline, hhas, hheld, htalk⟩ := id hH
  obtain ⟨on, otk, ow, olen, olaw⟩ := id hO
  obtain ⟨o6, ot1, ot2, oo, oll, owf⟩ := id ho
  have hdd := xH_27 hx
  have hlN := hok.2.1
  refine Ex_aload_n 1 (i := 0) dX8_gone_0 rfl rfl rfl ?_
  refine Ex_iload_n 2 (i := 1) dX8_gone_1 rfl rfl rfl ?_
  refine Ex_callV (M' := MX8_isOnLine) 5 [.int qv] (rest := []) dX8_gone_2 lX8_143 mX8_isOnLine rfl (xH_0 hx) rfl (Nat.le_of_ble_eq_true rfl) (Nat.le_of_ble_eq_true rfl) rfl ?_
  refine c_isOnLine hx hO ho hH hok ?_
  simp only [Option.toList, List.cons_append, List.nil_append]
  refine Ex_if_ne 8 10 dX8_gone_5 (by decide) rfl (fun c1 => ?_) (fun c1 => ?_)
  · have hon := hmB_ne c1
    obtain ⟨w, hw, hwm, rfl⟩ := hmOn_of o6 hon
    have hix : hmIx (nI w) = w := hmIx_nI (by omega)
    refine Ex_aload_n 11 (i := 0) dX8_gone_10 rfl rfl rfl ?_
    refine Ex_getR 14 dX8_gone_11 fX8_43 (xH_0 hx) rfl (xH_7 hx) rfl ?_
    refine Ex_aload_n 15 (i := 0) dX8_gone_14 rfl rfl rfl ?_
    refine Ex_getR 18 dX8_gone_15 fX8_39 (xH_0 hx) rfl (xH_6 hx) rfl ?_
    refine Ex_callV (M' := MX1_copyFrom) 21 [.ref (h + 30)] (rest := []) dX8_gone_18 lX8_166 mX1_copyFrom rfl (xH_19 hx).1 rfl (Nat.le_of_ble_eq_true rfl) (Nat.le_of_ble_eq_true rfl) rfl ?_
    refine c_copyFrom (xH_19 hx) (xH_18 hx) (by omega) hH (fun I0 hF0 hH0 => ?_)
    have g0 : hmQf h dk I I0 := hmQf.fr hF0
    have hO0 : hmD I0 dk O := hO.kept (fun z a b => hF0 z (by unfold hmIn; omega))
    simp only [Option.toList, List.nil_append, List.cons_append]
    refine Ex_iconst 22 (v := 0) dX8_gone_21 (by decide) rfl ?_
    refine Ex_istore_n 23 (i := 2) (ls' := [some (.ref h), some (.int (nI w)), some (.int 0)]) dX8_gone_22 rfl (Nat.le_of_ble_eq_true rfl) rfl rfl rfl ?_
    have e : spGone O H (nI w) = nI (0 + hmGo O 30 H w) := by
      rw [Nat.zero_add]
      simp only [spGone, hon, hix, if_true]
    rw [e] at hQ
    exact c_gone_loop (I := I) hx ho (by omega) 30 0 I0 H rfl hH0 hO0 hok (by omega) (fun I' g => hQ I' (g0.tr g))
  · refine Ex_iconst 9 (v := (-1)) dX8_gone_8 (by decide) rfl ?_
    refine Ex_iret dX8_gone_9 rfl rfl (Or.inl rfl) ?_
    have e : spGone O H qv = -1 := by
      simp [spGone, hmB_eq c1]
    rw [← e]
    exact hQ _ hmQf.rf
set_option maxHeartbeats 4000000 in
theorem c_meets_loop {d : Nat} {sh : xSh} {R : xR} {L : xL} {I : xI} {Q : xQ} {h dk dd pl pd : Nat} {O : hmO} (hx : xHM sh R h dk dd pl pd) (ho : hmOok O) {x y b : Nat} (hxN : x < 6) (hyN : y < 6) (hb : b < 10000000) : ∀ n k J H, n + k = 30 → hmR J (h + 35) H → hmD J dk O → hmOk O H → hmMin H + n < 900000 → hmTkb H → J (h + 34) (x * 6 + y) = nI b → (∀ I', hmQf h dk J I' → Q (some (.int (hmWv k (hmMeets O b n H x y)))) 0 sh R L I') → Ex (d + 4) 0 0 MX8_meets 0 sh R L J 32 [some (.ref h), some (.int (nI x)), some (.int (nI y)), some (.int (nI (x * 6 + y))), some (.int (nI (k + 1)))] [] Q := by
  have hdd := xH_27 hx
  have hdis : dk + 9 ≤ h + 35 ∨ h + 35 + 5 ≤ dk := by omega
  intro n
  induction n with
  | zero =>
    intro k J H hk hH hO hok hmn htb hbt hQ
    obtain ⟨h6, hlen, hset, htak, hmin, hline, hhas, hheld, htalk⟩ := id hH
    obtain ⟨on, otk, ow, olen, olaw⟩ := id hO
    have hlN : ∀ x, x ∈ hmLine H → x < 6 := fun x hx => by
      have := hok.2.1 x hx
      have := ho.1
      omega
    refine Ex_iload 34 dX8_meets_32 rfl rfl ?_
    refine Ex_bipush 36 (v := 30) dX8_meets_34 (by decide) rfl ?_
    refine Ex_icmp_gt 39 98 dX8_meets_36 (by decide) rfl (fun c1 => ?_) (fun c1 => absurd c1 (fun q => q ((nI_ltI (a := 30) (by omega) (by omega)).mpr (by omega))))
    refine Ex_iconst 99 (v := (-1)) dX8_meets_98 (by decide) rfl ?_
    refine Ex_iret dX8_meets_99 rfl rfl (Or.inl rfl) ?_
    exact hQ J hmQf.rf
  | succ n ih =>
    intro k J H hk hH hO hok hmn htb hbt hQ
    obtain ⟨h6, hlen, hset, htak, hmin, hline, hhas, hheld, htalk⟩ := id hH
    obtain ⟨on, otk, ow, olen, olaw⟩ := id hO
    have hlN : ∀ x, x ∈ hmLine H → x < 6 := fun x hx => by
      have := hok.2.1 x hx
      have := ho.1
      omega
    refine Ex_iload 34 dX8_meets_32 rfl rfl ?_
    refine Ex_bipush 36 (v := 30) dX8_meets_34 (by decide) rfl ?_
    refine Ex_icmp_gt 39 98 dX8_meets_36 (by decide) rfl (fun c1 => absurd c1 (fun q => absurd ((nI_ltI (a := 30) (by omega) (by omega)).mp q) (by omega))) (fun c1 => ?_)
    refine Ex_aload_n 40 (i := 0) dX8_meets_39 rfl rfl rfl ?_
    refine Ex_getR 43 dX8_meets_40 fX8_43 (xH_0 hx) rfl (xH_7 hx) rfl ?_
    refine Ex_gI 46 (J (h + 35) 4) dX8_meets_43 fX8_129 (xH_19 hx).1 rfl rfl rfl ?_
    rw [hlen]
    refine Ex_if_le 49 98 dX8_meets_46 (by decide) rfl (fun c2 => ?_) (fun c2 => ?_)
    · refine Ex_iconst 99 (v := (-1)) dX8_meets_98 (by decide) rfl ?_
      refine Ex_iret dX8_meets_99 rfl rfl (Or.inl rfl) ?_
      have hl : hmLine H = [] := by
        have h1 : (hmLine H).length = 0 := by
          by_cases z : (hmLine H).length = 0
          · exact z
          · exact absurd c2 (Int32.not_le.mpr (hm_nIpos (by omega) (by omega)))
        exact List.eq_nil_of_length_eq_zero h1
      have e : hmMeets O b (n + 1) H x y = none := by
        show (if hmLine H = [] then _ else _) = _
        rw [if_pos hl]
      rw [e] at hQ
      exact hQ J hmQf.rf
    · have hlne : hmLine H ≠ [] := fun z => c2 (by rw [z]; decide)
      have htb1 := hmTkb_minute (O := O) (tk := hmTk O) (hmOk_len hok ho) htb
      refine Ex_aload_n 50 (i := 0) dX8_meets_49 rfl rfl rfl ?_
      refine Ex_getR 53 dX8_meets_50 fX8_43 (xH_0 hx) rfl (xH_7 hx) rfl ?_
      refine Ex_aload_n 54 (i := 0) dX8_meets_53 rfl rfl rfl ?_
      refine Ex_getR 57 dX8_meets_54 fX8_19 (xH_0 hx) rfl (xH_2 hx) rfl ?_
      refine Ex_aload_n 58 (i := 0) dX8_meets_57 rfl rfl rfl ?_
      refine Ex_getR 61 dX8_meets_58 fX8_19 (xH_0 hx) rfl (xH_2 hx) rfl ?_
      refine Ex_gI 64 (J dk 7) dX8_meets_61 fX8_153 (xH_14 hx).1 rfl rfl rfl ?_
      rw [otk]
      refine Ex_callV (M' := MX1_passMinute) 67 [.ref dk, .int (nI (hmTk O))] (rest := []) dX8_meets_64 lX8_156 mX1_passMinute rfl (xH_19 hx).1 rfl (Nat.le_of_ble_eq_true rfl) (Nat.le_of_ble_eq_true rfl) rfl ?_
      refine c_passMinute (xH_19 hx) (xH_14 hx) hdis hH hO ho hok ho.2.1 ho.2.2.1 (by omega) (fun I1 hF1 hH1 => ?_)
      have g1 : hmQf h dk J I1 := hmQf.fd hF1
      have hO1 : hmD I1 dk O := hO.fd hF1 hdis
      have hok1 := hmOk_minute (tk := hmTk O) hok ho
      have hm1 := hmMinute_min O (hmTk O) H
      simp only [Option.toList, List.nil_append, List.cons_append]
      refine Ex_pop 68 dX8_meets_67 rfl rfl ?_
      refine Ex_aload_n 69 (i := 0) dX8_meets_68 rfl rfl rfl ?_
      refine Ex_getR 72 dX8_meets_69 fX8_43 (xH_0 hx) rfl (xH_7 hx) rfl ?_
      refine Ex_getR 75 dX8_meets_72 fX8_126 (xH_19 hx).1 rfl (xH_19 hx).2.2.2.2.2.2.2.2 rfl ?_
      refine Ex_iload_n 76 (i := 3) dX8_meets_75 rfl rfl rfl ?_
      refine Ex_aI 77 (x * 6 + y) (I1 (h + 39) (x * 6 + y)) dX8_meets_76 (xH_19 hx).2.2.2.2.1 rfl (by omega) (by decide) rfl rfl ?_
      rw [hH1.2.2.2.2.2.2.2.2 x hxN y hyN]
      refine Ex_aload_n 78 (i := 0) dX8_meets_77 rfl rfl rfl ?_
      refine Ex_getR 81 dX8_meets_78 fX8_39 (xH_0 hx) rfl (xH_6 hx) rfl ?_
      refine Ex_getR 84 dX8_meets_81 fX8_126 (xH_18 hx).1 rfl (xH_18 hx).2.2.2.2.2.2.2.2 rfl ?_
      refine Ex_iload_n 85 (i := 3) dX8_meets_84 rfl rfl rfl ?_
      refine Ex_aI 86 (x * 6 + y) (I1 (h + 34) (x * 6 + y)) dX8_meets_85 (xH_18 hx).2.2.2.2.1 rfl (by omega) (by decide) rfl rfl ?_
      have hb1 : I1 (h + 34) (x * 6 + y) = nI b := by rw [g1 _ (by omega) (by omega) (by omega)]; exact hbt
      rw [hb1]
      refine Ex_icmp_le 89 92 dX8_meets_86 (by decide) rfl (fun c3 => ?_) (fun c3 => ?_)
      · refine Ex_iinc 95 (v := (nI ((k + 1) + 1))) (ls' := [some (.ref h), some (.int (nI x)), some (.int (nI y)), some (.int (nI (x * 6 + y))), some (.int (nI ((k + 1) + 1)))]) dX8_meets_92 rfl (xinc _) (Nat.le_of_ble_eq_true rfl) rfl rfl rfl ?_
        refine Ex_goto 32 dX8_meets_95 (by decide) ?_
        have h1 : ¬ hmTalk (hmMinute O (hmTk O) H) x y > b := fun z => absurd ((nI_ltI (by omega) (by have := htb1 x y; omega)).mpr z) (Int32.not_lt.mpr c3)
        have e : hmMeets O b (n + 1) H x y = (hmMeets O b n (hmMinute O (hmTk O) H) x y).map (· + 1) := by
          show (if hmLine H = [] then _ else if _ then _ else _) = _
          rw [if_neg hlne, if_neg h1]
        rw [e, hmWv_map] at hQ
        exact ih (k + 1) I1 (hmMinute O (hmTk O) H) (by omega) hH1 hO1 hok1 (by omega) htb1 hb1 (fun I' g => hQ I' (g1.tr g))
      · refine Ex_iload 91 dX8_meets_89 rfl rfl ?_
        refine Ex_iret dX8_meets_91 rfl rfl (Or.inl rfl) ?_
        have h1 : hmTalk (hmMinute O (hmTk O) H) x y > b := (nI_ltI (by omega) (by have := htb1 x y; omega)).mp (Int32.not_le.mp c3)
        have e : hmMeets O b (n + 1) H x y = some 1 := by
          show (if hmLine H = [] then _ else if _ then _ else _) = _
          rw [if_neg hlne, if_pos h1]
        rw [e] at hQ
        exact hQ I1 g1
theorem hm_pair (x y : Nat) : nI x * 6 + nI y = nI (x * 6 + y) := by
  show nI x * nI 6 + nI y = _
  unfold nI
  rw [← Int32.ofNat_mul, ← Int32.ofNat_add]
set_option maxHeartbeats 4000000 in
theorem c_meets {d : Nat} {sh : xSh} {R : xR} {L : xL} {I : xI} {Q : xQ} {h dk dd pl pd : Nat} {O : hmO} {H : hmH} (hx : xHM sh R h dk dd pl pd) (hO : hmD I dk O) (ho : hmOok O) (hH : hmR I (h + 30) H) (hok : hmOk O H) (hmn : hmMin H < 800000) (htb : hmTkb H) {qv qu : Int32} (hQ : ∀ I', hmQf h dk I I' → Q (some (.int (spMeets O H qv qu))) 0 sh R L I') : Ex (d + 4) 0 0 MX8_meets 0 sh R L I 0 [some (.ref h), some (.int qv), some (.int qu), none, none] [] Q := by
  obtain ⟨h6, hlen, hset, htak, hmin, hline, hhas, hheld, htalk⟩ := id hH
  obtain ⟨on, otk, ow, olen, olaw⟩ := id hO
  obtain ⟨o6, ot1, ot2, oo, oll, owf⟩ := id ho
  have hdd := xH_27 hx
  have hlN := hok.2.1
  refine Ex_aload_n 1 (i := 0) dX8_meets_0 rfl rfl rfl ?_
  refine Ex_iload_n 2 (i := 1) dX8_meets_1 rfl rfl rfl ?_
  refine Ex_iload_n 3 (i := 2) dX8_meets_2 rfl rfl rfl ?_
  refine Ex_callV (M' := MX8_areTwo) 6 [.int qv, .int qu] (rest := []) dX8_meets_3 lX8_122 mX8_areTwo rfl (xH_0 hx) rfl (Nat.le_of_ble_eq_true rfl) (Nat.le_of_ble_eq_true rfl) rfl ?_
  refine c_areTwo hx hO ho hH hok ?_
  simp only [Option.toList, List.cons_append, List.nil_append]
  refine Ex_if_ne 9 11 dX8_meets_6 (by decide) rfl (fun c1 => ?_) (fun c1 => ?_)
  · have htw := hmB_ne c1
    obtain ⟨x, y, hxN, hyN, hxy, rfl, rfl⟩ := hmTwo_of htw
    have hix : hmIx (nI x) = x := hmIx_nI (by omega)
    have hiy : hmIx (nI y) = y := hmIx_nI (by omega)
    refine Ex_iload_n 12 (i := 1) dX8_meets_11 rfl rfl rfl ?_
    refine Ex_bipush 14 (v := 6) dX8_meets_12 (by decide) rfl ?_
    refine Ex_imul 15 dX8_meets_14 rfl ?_
    refine Ex_iload_n 16 (i := 2) dX8_meets_15 rfl rfl rfl ?_
    refine Ex_iadd 17 dX8_meets_16 rfl ?_
    rw [hm_pair x y]
    refine Ex_istore_n 18 (i := 3) (ls' := [some (.ref h), some (.int (nI x)), some (.int (nI y)), some (.int (nI (x * 6 + y))), none]) dX8_meets_17 rfl (Nat.le_of_ble_eq_true rfl) rfl rfl rfl ?_
    refine Ex_aload_n 19 (i := 0) dX8_meets_18 rfl rfl rfl ?_
    refine Ex_getR 22 dX8_meets_19 fX8_43 (xH_0 hx) rfl (xH_7 hx) rfl ?_
    refine Ex_aload_n 23 (i := 0) dX8_meets_22 rfl rfl rfl ?_
    refine Ex_getR 26 dX8_meets_23 fX8_39 (xH_0 hx) rfl (xH_6 hx) rfl ?_
    refine Ex_callV (M' := MX1_copyFrom) 29 [.ref (h + 30)] (rest := []) dX8_meets_26 lX8_166 mX1_copyFrom rfl (xH_19 hx).1 rfl (Nat.le_of_ble_eq_true rfl) (Nat.le_of_ble_eq_true rfl) rfl ?_
    refine c_copyFrom (xH_19 hx) (xH_18 hx) (by omega) hH (fun I0 hF0 hH0 => ?_)
    have g0 : hmQf h dk I I0 := hmQf.fr hF0
    have hO0 : hmD I0 dk O := hO.kept (fun z a b => hF0 z (by unfold hmIn; omega))
    simp only [Option.toList, List.nil_append, List.cons_append]
    refine Ex_iconst 30 (v := 1) dX8_meets_29 (by decide) rfl ?_
    refine Ex_istore 32 (ls' := [some (.ref h), some (.int (nI x)), some (.int (nI y)), some (.int (nI (x * 6 + y))), some (.int 1)]) dX8_meets_30 (Nat.le_of_ble_eq_true rfl) rfl rfl rfl ?_
    have e : spMeets O H (nI x) (nI y) = hmWv 0 (hmMeets O (hmTalk H x y) 30 H x y) := by simp only [spMeets, htw, hix, hiy, if_true]
    rw [e] at hQ
    exact c_meets_loop (I := I) hx ho (by omega) (by omega) (by have := htb x y; omega) 30 0 I0 H rfl hH0 hO0 hok (by omega) htb (by rw [g0 _ (by omega) (by omega) (by omega)]; exact htalk x (by omega) y (by omega)) (fun I' g => hQ I' (g0.tr g))
  · refine Ex_iconst 10 (v := (-1)) dX8_meets_9 (by decide) rfl ?_
    refine Ex_iret dX8_meets_10 rfl rfl (Or.inl rfl) ?_
    have e : spMeets O H qv qu = -1 := by
      simp [spMeets, hmB_eq c1]
    rw [← e]
    exact hQ _ hmQf.rf
