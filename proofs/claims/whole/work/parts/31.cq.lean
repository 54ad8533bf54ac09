set_option maxHeartbeats 4000000 in
theorem c_isCaller {d : Nat} {sh : xSh} {R : xR} {L : xL} {I : xI} {Q : xQ} {h dk dd pl pd : Nat} {O : hmO} {H : hmH} (hx : xHM sh R h dk dd pl pd) (hO : hmD I dk O) (ho : hmOok O) (hH : hmR I (h + 30) H) (hok : hmOk O H) {qv : Int32} (hQ : Q (some (.int (hmB (hmCal (hmN O) qv)))) 0 sh R L I) : Ex d 0 0 MX8_isCaller 0 sh R L I 0 [some (.ref h), some (.int qv)] [] Q := by
  obtain ⟨h6, hlen, hset, htak, hmin, hline, hhas, hheld, htalk⟩ := id hH
  obtain ⟨on, otk, ow, olen, olaw⟩ := id hO
  obtain ⟨o6, ot1, ot2, oo, oll, owf⟩ := id ho
  have hdd := xH_27 hx
  have hlN := hok.2.1
  refine Ex_iload_n 1 (i := 1) dX8_isCaller_0 rfl rfl rfl ?_
  refine Ex_if_lt 4 19 dX8_isCaller_1 (by decide) rfl (fun c1 => ?_) (fun c1 => ?_)
  · refine Ex_iconst 20 (v := 0) dX8_isCaller_19 (by decide) rfl ?_
    refine Ex_iret dX8_isCaller_20 rfl (by decide) (Or.inl rfl) ?_
    have e : hmB (hmCal (hmN O) qv) = 0 := by
      rw [hmB_0]; simp only [hmCal, decide_eq_false_iff_not]; exact fun q => absurd (hm_lt0.mp c1) (by omega)
    rw [← e]
    exact hQ
  · refine Ex_iload_n 5 (i := 1) dX8_isCaller_4 rfl rfl rfl ?_
    refine Ex_aload_n 6 (i := 0) dX8_isCaller_5 rfl rfl rfl ?_
    refine Ex_getR 9 dX8_isCaller_6 fX8_19 (xH_0 hx) rfl (xH_2 hx) rfl ?_
    refine Ex_gI 12 (I dk 6) dX8_isCaller_9 fX8_187 (xH_14 hx).1 rfl rfl rfl ?_
    rw [on]
    refine Ex_icmp_ge 15 19 dX8_isCaller_12 (by decide) rfl (fun c2 => ?_) (fun c2 => ?_)
    · refine Ex_iconst 20 (v := 0) dX8_isCaller_19 (by decide) rfl ?_
      refine Ex_iret dX8_isCaller_20 rfl (by decide) (Or.inl rfl) ?_
      have e : hmB (hmCal (hmN O) qv) = 0 := by
        rw [hmB_0]; simp only [hmCal, decide_eq_false_iff_not]; exact fun q => absurd ((hm_leN (by omega)).mp c2) (by omega)
      rw [← e]
      exact hQ
    · refine Ex_iconst 16 (v := 1) dX8_isCaller_15 (by decide) rfl ?_
      refine Ex_goto 20 dX8_isCaller_16 (by decide) ?_
      refine Ex_iret dX8_isCaller_20 rfl (by decide) (Or.inl rfl) ?_
      have e : hmB (hmCal (hmN O) qv) = 1 := by
        rw [hmB_1]; simp only [hmCal, decide_eq_true_eq]
        have h1 : ¬ qv.toInt < 0 := fun q => c1 (hm_lt0.mpr q)
        have h2 : ¬ (hmN O : Int) ≤ qv.toInt := fun q => c2 ((hm_leN (by omega)).mpr q)
        omega
      rw [← e]
      exact hQ
set_option maxHeartbeats 4000000 in
theorem c_isOnLine {d : Nat} {sh : xSh} {R : xR} {L : xL} {I : xI} {Q : xQ} {h dk dd pl pd : Nat} {O : hmO} {H : hmH} (hx : xHM sh R h dk dd pl pd) (hO : hmD I dk O) (ho : hmOok O) (hH : hmR I (h + 30) H) (hok : hmOk O H) {qv : Int32} (hQ : Q (some (.int (hmB (hmOn (hmN O) H qv)))) 0 sh R L I) : Ex (d + 1) 0 0 MX8_isOnLine 0 sh R L I 0 [some (.ref h), some (.int qv)] [] Q := by
  obtain ⟨h6, hlen, hset, htak, hmin, hline, hhas, hheld, htalk⟩ := id hH
  obtain ⟨on, otk, ow, olen, olaw⟩ := id hO
  obtain ⟨o6, ot1, ot2, oo, oll, owf⟩ := id ho
  have hdd := xH_27 hx
  have hlN := hok.2.1
  refine Ex_aload_n 1 (i := 0) dX8_isOnLine_0 rfl rfl rfl ?_
  refine Ex_iload_n 2 (i := 1) dX8_isOnLine_1 rfl rfl rfl ?_
  refine Ex_callV (M' := MX8_isCaller) 5 [.int qv] (rest := []) dX8_isOnLine_2 lX8_96 mX8_isCaller rfl (xH_0 hx) rfl (Nat.le_of_ble_eq_true rfl) (Nat.le_of_ble_eq_true rfl) rfl ?_
  refine c_isCaller hx hO ho hH hok ?_
  simp only [Option.toList, List.cons_append, List.nil_append]
  refine Ex_if_eq 8 24 dX8_isOnLine_5 (by decide) rfl (fun c1 => ?_) (fun c1 => ?_)
  · refine Ex_iconst 25 (v := 0) dX8_isOnLine_24 (by decide) rfl ?_
    refine Ex_iret dX8_isOnLine_25 rfl (by decide) (Or.inl rfl) ?_
    have e : hmB (hmOn (hmN O) H qv) = 0 := by
      rw [hmB_0]
      have h1 := (hmB_0 _).mp c1
      simp [hmOn, h1]
    rw [← e]
    exact hQ
  · have hct : hmCal (hmN O) qv = true := by
      cases hb : hmCal (hmN O) qv with
      | true => rfl
      | false => exact absurd ((hmB_0 _).mpr hb) c1
    obtain ⟨w, hw, rfl⟩ := hmCal_of hct
    have hix : hmIx (nI w) = w := hmIx_nI (by omega)
    refine Ex_aload_n 9 (i := 0) dX8_isOnLine_8 rfl rfl rfl ?_
    refine Ex_getR 12 dX8_isOnLine_9 fX8_39 (xH_0 hx) rfl (xH_6 hx) rfl ?_
    refine Ex_iload_n 13 (i := 1) dX8_isOnLine_12 rfl rfl rfl ?_
    refine Ex_callV (M' := MX1_placeOf) 16 [.int (nI w)] (rest := []) dX8_isOnLine_13 lX8_115 mX1_placeOf rfl (xH_18 hx).1 rfl (Nat.le_of_ble_eq_true rfl) (Nat.le_of_ble_eq_true rfl) rfl ?_
    refine c_placeOf (xH_18 hx) hH (by omega) (fun x hx => by have := hlN x hx; omega) ?_
    simp only [Option.toList, List.cons_append, List.nil_append]
    refine Ex_iconst 17 (v := (-1)) dX8_isOnLine_16 (by decide) rfl ?_
    refine Ex_icmp_eq 20 24 dX8_isOnLine_17 (by decide) rfl (fun c2 => ?_) (fun c2 => ?_)
    · refine Ex_iconst 25 (v := 0) dX8_isOnLine_24 (by decide) rfl ?_
      refine Ex_iret dX8_isOnLine_25 rfl (by decide) (Or.inl rfl) ?_
      have e : hmB (hmOn (hmN O) H (nI w)) = 0 := by
        rw [hmB_0]
        have h1 := (hmPlc_ne (by omega)).mp c2
        simp [hmOn, hix, h1]
      rw [← e]
      exact hQ
    · refine Ex_iconst 21 (v := 1) dX8_isOnLine_20 (by decide) rfl ?_
      refine Ex_goto 25 dX8_isOnLine_21 (by decide) ?_
      refine Ex_iret dX8_isOnLine_25 rfl (by decide) (Or.inl rfl) ?_
      have e : hmB (hmOn (hmN O) H (nI w)) = 1 := by
        rw [hmB_1]
        have h1 : w ∈ hmLine H := by
          by_cases z : w ∈ hmLine H
          · exact z
          · exact absurd ((hmPlc_ne (by omega)).mpr z) c2
        simp [hmOn, hct, hix, h1]
      rw [← e]
      exact hQ
set_option maxHeartbeats 4000000 in
theorem c_areTwo {d : Nat} {sh : xSh} {R : xR} {L : xL} {I : xI} {Q : xQ} {h dk dd pl pd : Nat} {O : hmO} {H : hmH} (hx : xHM sh R h dk dd pl pd) (hO : hmD I dk O) (ho : hmOok O) (hH : hmR I (h + 30) H) (hok : hmOk O H) {qv qu : Int32} (hQ : Q (some (.int (hmB (hmTwo (hmN O) qv qu)))) 0 sh R L I) : Ex (d + 1) 0 0 MX8_areTwo 0 sh R L I 0 [some (.ref h), some (.int qv), some (.int qu)] [] Q := by
  obtain ⟨h6, hlen, hset, htak, hmin, hline, hhas, hheld, htalk⟩ := id hH
  obtain ⟨on, otk, ow, olen, olaw⟩ := id hO
  obtain ⟨o6, ot1, ot2, oo, oll, owf⟩ := id ho
  have hdd := xH_27 hx
  have hlN := hok.2.1
  refine Ex_aload_n 1 (i := 0) dX8_areTwo_0 rfl rfl rfl ?_
  refine Ex_iload_n 2 (i := 1) dX8_areTwo_1 rfl rfl rfl ?_
  refine Ex_callV (M' := MX8_isCaller) 5 [.int qv] (rest := []) dX8_areTwo_2 lX8_96 mX8_isCaller rfl (xH_0 hx) rfl (Nat.le_of_ble_eq_true rfl) (Nat.le_of_ble_eq_true rfl) rfl ?_
  refine c_isCaller hx hO ho hH hok ?_
  simp only [Option.toList, List.cons_append, List.nil_append]
  refine Ex_if_eq 8 25 dX8_areTwo_5 (by decide) rfl (fun c1 => ?_) (fun c1 => ?_)
  · refine Ex_iconst 26 (v := 0) dX8_areTwo_25 (by decide) rfl ?_
    refine Ex_iret dX8_areTwo_26 rfl (by decide) (Or.inl rfl) ?_
    have e : hmB (hmTwo (hmN O) qv qu) = 0 := by
      rw [hmB_0]
      have h1 := (hmB_0 _).mp c1
      simp [hmTwo, h1]
    rw [← e]
    exact hQ
  · refine Ex_aload_n 9 (i := 0) dX8_areTwo_8 rfl rfl rfl ?_
    refine Ex_iload_n 10 (i := 2) dX8_areTwo_9 rfl rfl rfl ?_
    refine Ex_callV (M' := MX8_isCaller) 13 [.int qu] (rest := []) dX8_areTwo_10 lX8_96 mX8_isCaller rfl (xH_0 hx) rfl (Nat.le_of_ble_eq_true rfl) (Nat.le_of_ble_eq_true rfl) rfl ?_
    refine c_isCaller hx hO ho hH hok ?_
    simp only [Option.toList, List.cons_append, List.nil_append]
    refine Ex_if_eq 16 25 dX8_areTwo_13 (by decide) rfl (fun c2 => ?_) (fun c2 => ?_)
    · refine Ex_iconst 26 (v := 0) dX8_areTwo_25 (by decide) rfl ?_
      refine Ex_iret dX8_areTwo_26 rfl (by decide) (Or.inl rfl) ?_
      have e : hmB (hmTwo (hmN O) qv qu) = 0 := by
        rw [hmB_0]
        have h1 := (hmB_0 _).mp c2
        simp [hmTwo, h1]
      rw [← e]
      exact hQ
    · refine Ex_iload_n 17 (i := 1) dX8_areTwo_16 rfl rfl rfl ?_
      refine Ex_iload_n 18 (i := 2) dX8_areTwo_17 rfl rfl rfl ?_
      refine Ex_icmp_eq 21 25 dX8_areTwo_18 (by decide) rfl (fun c3 => ?_) (fun c3 => ?_)
      · refine Ex_iconst 26 (v := 0) dX8_areTwo_25 (by decide) rfl ?_
        refine Ex_iret dX8_areTwo_26 rfl (by decide) (Or.inl rfl) ?_
        have e : hmB (hmTwo (hmN O) qv qu) = 0 := by
          rw [hmB_0]
          simp [hmTwo, c3]
        rw [← e]
        exact hQ
      · refine Ex_iconst 22 (v := 1) dX8_areTwo_21 (by decide) rfl ?_
        refine Ex_goto 26 dX8_areTwo_22 (by decide) ?_
        refine Ex_iret dX8_areTwo_26 rfl (by decide) (Or.inl rfl) ?_
        have e : hmB (hmTwo (hmN O) qv qu) = 1 := by
          rw [hmB_1]
          have h1 : hmCal (hmN O) qv = true := by
            cases hb : hmCal (hmN O) qv with
            | true => rfl
            | false => exact absurd ((hmB_0 _).mpr hb) c1
          have h2 : hmCal (hmN O) qu = true := by
            cases hb : hmCal (hmN O) qu with
            | true => rfl
            | false => exact absurd ((hmB_0 _).mpr hb) c2
          simp [hmTwo, h1, h2, c3]
        rw [← e]
        exact hQ
theorem hmTwo_of {n : Nat} {v u : Int32} (h : hmTwo n v u = true) : ∃ x y, x < n ∧ y < n ∧ x ≠ y ∧ v = nI x ∧ u = nI y := by
  simp only [hmTwo, Bool.and_eq_true, decide_eq_true_eq] at h
  obtain ⟨⟨h1, h2⟩, h3⟩ := h
  obtain ⟨x, hx, rfl⟩ := hmCal_of h1
  obtain ⟨y, hy, rfl⟩ := hmCal_of h2
  exact ⟨x, y, hx, hy, fun q => h3 (by rw [q]), rfl, rfl⟩
theorem hmOn_of {n : Nat} {H : hmH} {v : Int32} (hn : n ≤ 6) (h : hmOn n H v = true) : ∃ w, w < n ∧ w ∈ hmLine H ∧ v = nI w := by
  simp only [hmOn, Bool.and_eq_true, decide_eq_true_eq] at h
  obtain ⟨w, hw, rfl⟩ := hmCal_of h.1
  refine ⟨w, hw, ?_, rfl⟩
  have := h.2
  rwa [hmIx_nI (by omega)] at this
theorem hmB_ne {b : Bool} (h : ¬ hmB b = 0) : b = true := by
  cases b with
  | true => rfl
  | false => exact absurd rfl h
theorem hmB_eq {b : Bool} (h : hmB b = 0) : b = false := (hmB_0 b).mp h
theorem hmBit_v {x : Int32} (hx : hmS6 x) {w : Nat} (hw : w < 6) : (x >>> (nI w &&& 31)) &&& 1 = hmB (hmBit x w) := by
  obtain ⟨k, hk, rfl⟩ := hx
  have key : ∀ k, k < 64 → ∀ w, w < 6 → (nI k >>> (nI w &&& 31)) &&& 1 = hmB (hmBit (nI k) w) := by decide +kernel
  exact key k hk w hw
set_option maxHeartbeats 4000000 in
theorem c_met {d : Nat} {sh : xSh} {R : xR} {L : xL} {I : xI} {Q : xQ} {h dk dd pl pd : Nat} {O : hmO} {H : hmH} (hx : xHM sh R h dk dd pl pd) (hO : hmD I dk O) (ho : hmOok O) (hH : hmR I (h + 30) H) (hok : hmOk O H) {qv qu : Int32} (hQ : Q (some (.int (spMet (hmN O) H qv qu))) 0 sh R L I) : Ex (d + 2) 0 0 MX8_met 0 sh R L I 0 [some (.ref h), some (.int qv), some (.int qu)] [] Q := by
  obtain ⟨h6, hlen, hset, htak, hmin, hline, hhas, hheld, htalk⟩ := id hH
  obtain ⟨on, otk, ow, olen, olaw⟩ := id hO
  obtain ⟨o6, ot1, ot2, oo, oll, owf⟩ := id ho
  have hdd := xH_27 hx
  have hlN := hok.2.1
  refine Ex_aload_n 1 (i := 0) dX8_met_0 rfl rfl rfl ?_
  refine Ex_iload_n 2 (i := 1) dX8_met_1 rfl rfl rfl ?_
  refine Ex_iload_n 3 (i := 2) dX8_met_2 rfl rfl rfl ?_
  refine Ex_callV (M' := MX8_areTwo) 6 [.int qv, .int qu] (rest := []) dX8_met_3 lX8_122 mX8_areTwo rfl (xH_0 hx) rfl (Nat.le_of_ble_eq_true rfl) (Nat.le_of_ble_eq_true rfl) rfl ?_
  refine c_areTwo hx hO ho hH hok ?_
  simp only [Option.toList, List.cons_append, List.nil_append]
  refine Ex_if_eq 9 26 dX8_met_6 (by decide) rfl (fun c1 => ?_) (fun c1 => ?_)
  · refine Ex_iconst 27 (v := (-1)) dX8_met_26 (by decide) rfl ?_
    refine Ex_iret dX8_met_27 rfl rfl (Or.inl rfl) ?_
    have e : spMet (hmN O) H qv qu = -1 := by
      have h1 := hmB_eq c1
      simp [spMet, h1]
    rw [← e]
    exact hQ
  · have htw := hmB_ne c1
    obtain ⟨x, y, hxN, hyN, hxy, rfl, rfl⟩ := hmTwo_of htw
    have hix : hmIx (nI x) = x := hmIx_nI (by omega)
    have hiy : hmIx (nI y) = y := hmIx_nI (by omega)
    refine Ex_aload_n 10 (i := 0) dX8_met_9 rfl rfl rfl ?_
    refine Ex_getR 13 dX8_met_10 fX8_39 (xH_0 hx) rfl (xH_6 hx) rfl ?_
    refine Ex_getR 16 dX8_met_13 fX8_126 (xH_18 hx).1 rfl (xH_18 hx).2.2.2.2.2.2.2.2 rfl ?_
    refine Ex_iload_n 17 (i := 1) dX8_met_16 rfl rfl rfl ?_
    refine Ex_bipush 19 (v := 6) dX8_met_17 (by decide) rfl ?_
    refine Ex_imul 20 dX8_met_19 rfl ?_
    refine Ex_iload_n 21 (i := 2) dX8_met_20 rfl rfl rfl ?_
    refine Ex_iadd 22 dX8_met_21 rfl ?_
    refine Ex_aI 23 ((x * 6) + y) (I (h + 34) ((x * 6) + y)) dX8_met_22 (xH_18 hx).2.2.2.2.1 (hm_ad (hm_mu rfl rfl) rfl) (by omega) (by decide) rfl rfl ?_
    rw [htalk x (by omega) y (by omega)]
    refine Ex_goto 27 dX8_met_23 (by decide) ?_
    refine Ex_iret dX8_met_27 rfl rfl (Or.inl rfl) ?_
    have e : spMet (hmN O) H (nI x) (nI y) = nI (hmTalk H x y) := by
      simp [spMet, htw, hix, hiy]
    rw [← e]
    exact hQ
set_option maxHeartbeats 4000000 in
theorem c_line {d : Nat} {sh : xSh} {R : xR} {L : xL} {I : xI} {Q : xQ} {h dk dd pl pd : Nat} {O : hmO} {H : hmH} (hx : xHM sh R h dk dd pl pd) (hO : hmD I dk O) (ho : hmOok O) (hH : hmR I (h + 30) H) (hok : hmOk O H) {qv : Int32} (hQ : Q (some (.int (spLine H qv))) 0 sh R L I) : Ex d 0 0 MX8_line 0 sh R L I 0 [some (.ref h), some (.int qv)] [] Q := by
  obtain ⟨h6, hlen, hset, htak, hmin, hline, hhas, hheld, htalk⟩ := id hH
  obtain ⟨on, otk, ow, olen, olaw⟩ := id hO
  obtain ⟨o6, ot1, ot2, oo, oll, owf⟩ := id ho
  have hdd := xH_27 hx
  have hlN := hok.2.1
  refine Ex_iload_n 1 (i := 1) dX8_line_0 rfl rfl rfl ?_
  refine Ex_if_lt 4 27 dX8_line_1 (by decide) rfl (fun c1 => ?_) (fun c1 => ?_)
  · refine Ex_iconst 28 (v := (-1)) dX8_line_27 (by decide) rfl ?_
    refine Ex_iret dX8_line_28 rfl rfl (Or.inl rfl) ?_
    have e : spLine H qv = -1 := by
      have h1 : hmCal (hmLine H).length qv = false := by
        simp only [hmCal, decide_eq_false_iff_not]; exact fun q => absurd (hm_lt0.mp c1) (by omega)
      simp [spLine, h1]
    rw [← e]
    exact hQ
  · refine Ex_iload_n 5 (i := 1) dX8_line_4 rfl rfl rfl ?_
    refine Ex_aload_n 6 (i := 0) dX8_line_5 rfl rfl rfl ?_
    refine Ex_getR 9 dX8_line_6 fX8_39 (xH_0 hx) rfl (xH_6 hx) rfl ?_
    refine Ex_gI 12 (I (h + 30) 4) dX8_line_9 fX8_129 (xH_18 hx).1 rfl rfl rfl ?_
    rw [hlen]
    refine Ex_icmp_ge 15 27 dX8_line_12 (by decide) rfl (fun c2 => ?_) (fun c2 => ?_)
    · refine Ex_iconst 28 (v := (-1)) dX8_line_27 (by decide) rfl ?_
      refine Ex_iret dX8_line_28 rfl rfl (Or.inl rfl) ?_
      have e : spLine H qv = -1 := by
        have h1 : hmCal (hmLine H).length qv = false := by
          simp only [hmCal, decide_eq_false_iff_not]; exact fun q => absurd ((hm_leN (by omega)).mp c2) (by omega)
        simp [spLine, h1]
      rw [← e]
      exact hQ
    · have hct : hmCal (hmLine H).length qv = true := by
        simp only [hmCal, decide_eq_true_eq]
        have h1 : ¬ qv.toInt < 0 := fun q => c1 (hm_lt0.mpr q)
        have h2 : ¬ ((hmLine H).length : Int) ≤ qv.toInt := fun q => c2 ((hm_leN (by omega)).mpr q)
        omega
      obtain ⟨w, hw, rfl⟩ := hmCal_of hct
      have hix : hmIx (nI w) = w := hmIx_nI (by omega)
      refine Ex_aload_n 16 (i := 0) dX8_line_15 rfl rfl rfl ?_
      refine Ex_getR 19 dX8_line_16 fX8_39 (xH_0 hx) rfl (xH_6 hx) rfl ?_
      refine Ex_getR 22 dX8_line_19 fX8_130 (xH_18 hx).1 rfl (xH_18 hx).2.2.2.2.2.2.2.1 rfl ?_
      refine Ex_iload_n 23 (i := 1) dX8_line_22 rfl rfl rfl ?_
      refine Ex_aI 24 w (I (h + 33) w) dX8_line_23 (xH_18 hx).2.2.2.1 rfl (by omega) (by decide) rfl rfl ?_
      rw [hline w hw]
      refine Ex_goto 28 dX8_line_24 (by decide) ?_
      refine Ex_iret dX8_line_28 rfl rfl (Or.inl rfl) ?_
      have e : spLine H (nI w) = nI ((hmLine H).getD w 0) := by
        simp only [spLine, hct, hix, if_true]
      rw [← e]
      exact hQ
set_option maxHeartbeats 4000000 in
theorem c_next {d : Nat} {sh : xSh} {R : xR} {L : xL} {I : xI} {Q : xQ} {h dk dd pl pd : Nat} {O : hmO} {H : hmH} (hx : xHM sh R h dk dd pl pd) (hO : hmD I dk O) (ho : hmOok O) (hH : hmR I (h + 30) H) (hok : hmOk O H) {qv : Int32} (hQ : Q (some (.int (spNext (hmN O) H qv))) 0 sh R L I) : Ex (d + 2) 0 0 MX8_next 0 sh R L I 0 [some (.ref h), some (.int qv), none] [] Q := by
  obtain ⟨h6, hlen, hset, htak, hmin, hline, hhas, hheld, htalk⟩ := id hH
  obtain ⟨on, otk, ow, olen, olaw⟩ := id hO
  obtain ⟨o6, ot1, ot2, oo, oll, owf⟩ := id ho
  have hdd := xH_27 hx
  have hlN := hok.2.1
  refine Ex_aload_n 1 (i := 0) dX8_next_0 rfl rfl rfl ?_
  refine Ex_iload_n 2 (i := 1) dX8_next_1 rfl rfl rfl ?_
  refine Ex_callV (M' := MX8_isOnLine) 5 [.int qv] (rest := []) dX8_next_2 lX8_143 mX8_isOnLine rfl (xH_0 hx) rfl (Nat.le_of_ble_eq_true rfl) (Nat.le_of_ble_eq_true rfl) rfl ?_
  refine c_isOnLine hx hO ho hH hok ?_
  simp only [Option.toList, List.cons_append, List.nil_append]
  refine Ex_if_ne 8 10 dX8_next_5 (by decide) rfl (fun c1 => ?_) (fun c1 => ?_)
  · have hon := hmB_ne c1
    obtain ⟨w, hw, hwm, rfl⟩ := hmOn_of o6 hon
    have hix : hmIx (nI w) = w := hmIx_nI (by omega)
    refine Ex_aload_n 11 (i := 0) dX8_next_10 rfl rfl rfl ?_
    refine Ex_getR 14 dX8_next_11 fX8_39 (xH_0 hx) rfl (xH_6 hx) rfl ?_
    refine Ex_iload_n 15 (i := 1) dX8_next_14 rfl rfl rfl ?_
    refine Ex_callV (M' := MX1_placeOf) 18 [.int (nI w)] (rest := []) dX8_next_15 lX8_115 mX1_placeOf rfl (xH_18 hx).1 rfl (Nat.le_of_ble_eq_true rfl) (Nat.le_of_ble_eq_true rfl) rfl ?_
    refine c_placeOf (xH_18 hx) hH (by omega) (fun x hx => by have := hlN x hx; omega) ?_
    simp only [Option.toList, List.cons_append, List.nil_append]
    have hidx := List.idxOf_lt_length_of_mem hwm
    have hpl : hmPlc (hmLine H) w = nI ((hmLine H).idxOf w) := by simp [hmPlc, hwm]
    obtain ⟨p, hp⟩ : ∃ p, (hmLine H).idxOf w = p := ⟨_, rfl⟩
    rw [hp] at hidx hpl
    rw [hpl]
    refine Ex_iconst 19 (v := 1) dX8_next_18 (by decide) rfl ?_
    refine Ex_ixor 20 dX8_next_19 rfl ?_
    rw [hm_part0 p (by omega)]
    refine Ex_istore_n 21 (i := 2) (ls' := [some (.ref h), some (.int (nI w)), some (.int (nI (hmPart p)))]) dX8_next_20 rfl (Nat.le_of_ble_eq_true rfl) rfl rfl rfl ?_
    refine Ex_iload_n 22 (i := 2) dX8_next_21 rfl rfl rfl ?_
    refine Ex_aload_n 23 (i := 0) dX8_next_22 rfl rfl rfl ?_
    refine Ex_getR 26 dX8_next_23 fX8_39 (xH_0 hx) rfl (xH_6 hx) rfl ?_
    refine Ex_gI 29 (I (h + 30) 4) dX8_next_26 fX8_129 (xH_18 hx).1 rfl rfl rfl ?_
    rw [hlen]
    refine Ex_icmp_ge 32 44 dX8_next_29 (by decide) rfl (fun c2 => ?_) (fun c2 => ?_)
    · refine Ex_iconst 45 (v := (-1)) dX8_next_44 (by decide) rfl ?_
      refine Ex_iret dX8_next_45 rfl rfl (Or.inl rfl) ?_
      have e : spNext (hmN O) H (nI w) = -1 := by
        have hpp : ¬ hmPart p < (hmLine H).length := fun z => absurd c2 (nI_ge z (by omega))
        simp only [spNext, hon, hix, hp, if_true, if_neg hpp]
      rw [← e]
      exact hQ
    · have hpp : hmPart p < (hmLine H).length := by
        by_cases z : hmPart p < (hmLine H).length
        · exact z
        · have : hmPart p ≤ p + 1 := by unfold hmPart; split <;> omega
          exact absurd (nI_le (by omega) (by omega)) c2
      refine Ex_aload_n 33 (i := 0) dX8_next_32 rfl rfl rfl ?_
      refine Ex_getR 36 dX8_next_33 fX8_39 (xH_0 hx) rfl (xH_6 hx) rfl ?_
      refine Ex_getR 39 dX8_next_36 fX8_130 (xH_18 hx).1 rfl (xH_18 hx).2.2.2.2.2.2.2.1 rfl ?_
      refine Ex_iload_n 40 (i := 2) dX8_next_39 rfl rfl rfl ?_
      refine Ex_aI 41 (hmPart p) (I (h + 33) (hmPart p)) dX8_next_40 (xH_18 hx).2.2.2.1 rfl (by omega) (by decide) rfl rfl ?_
      rw [hline _ hpp]
      refine Ex_goto 45 dX8_next_41 (by decide) ?_
      refine Ex_iret dX8_next_45 rfl rfl (Or.inl rfl) ?_
      have e : spNext (hmN O) H (nI w) = nI ((hmLine H).getD (hmPart p) 0) := by
        simp only [spNext, hon, hix, hp, if_true, if_pos hpp]
      rw [← e]
      exact hQ
  · refine Ex_iconst 9 (v := (-1)) dX8_next_8 (by decide) rfl ?_
    refine Ex_iret dX8_next_9 rfl rfl (Or.inl rfl) ?_
    have e : spNext (hmN O) H qv = -1 := by
      have h1 := hmB_eq c1
      simp [spNext, h1]
    rw [← e]
    exact hQ
set_option maxHeartbeats 4000000 in
theorem c_isAnswer {d : Nat} {sh : xSh} {R : xR} {L : xL} {I : xI} {Q : xQ} {qv : Int32} (hQ : Q (some (.int (hmB (hmCal 10 qv)))) 0 sh R L I) : Ex d 0 0 MX8_isAnswer 0 sh R L I 0 [some (.int qv)] [] Q := by
  refine Ex_iload_n 1 (i := 0) dX8_isAnswer_0 rfl rfl rfl ?_
  refine Ex_if_lt 4 14 dX8_isAnswer_1 (by decide) rfl (fun c1 => ?_) (fun c1 => ?_)
  · refine Ex_iconst 15 (v := 0) dX8_isAnswer_14 (by decide) rfl ?_
    refine Ex_iret dX8_isAnswer_15 rfl (by decide) (Or.inl rfl) ?_
    have e : hmB (hmCal 10 qv) = 0 := by
      rw [hmB_0]; simp only [hmCal, decide_eq_false_iff_not]; exact fun q => absurd (hm_lt0.mp c1) (by omega)
    rw [← e]
    exact hQ
  · refine Ex_iload_n 5 (i := 0) dX8_isAnswer_4 rfl rfl rfl ?_
    refine Ex_bipush 7 (v := 9) dX8_isAnswer_5 (by decide) rfl ?_
    refine Ex_icmp_gt 10 14 dX8_isAnswer_7 (by decide) rfl (fun c2 => ?_) (fun c2 => ?_)
    · refine Ex_iconst 15 (v := 0) dX8_isAnswer_14 (by decide) rfl ?_
      refine Ex_iret dX8_isAnswer_15 rfl (by decide) (Or.inl rfl) ?_
      have e : hmB (hmCal 10 qv) = 0 := by
        rw [hmB_0]; simp only [hmCal, decide_eq_false_iff_not]
        have h1 := Int32.lt_iff_toInt_lt.mp c2
        have e9 : (9 : Int32).toInt = 9 := by decide
        omega
      rw [← e]
      exact hQ
    · refine Ex_iconst 11 (v := 1) dX8_isAnswer_10 (by decide) rfl ?_
      refine Ex_goto 15 dX8_isAnswer_11 (by decide) ?_
      refine Ex_iret dX8_isAnswer_15 rfl (by decide) (Or.inl rfl) ?_
      have e : hmB (hmCal 10 qv) = 1 := by
        rw [hmB_1]; simp only [hmCal, decide_eq_true_eq]
        have h1 : ¬ qv.toInt < 0 := fun q => c1 (hm_lt0.mpr q)
        have h2 : ¬ (9 : Int32).toInt < qv.toInt := fun q => c2 (Int32.lt_iff_toInt_lt.mpr q)
        have e9 : (9 : Int32).toInt = 9 := by decide
        omega
      rw [← e]
      exact hQ
set_option maxHeartbeats 4000000 in
theorem c_holders {d : Nat} {sh : xSh} {R : xR} {L : xL} {I : xI} {Q : xQ} {h dk dd pl pd : Nat} {O : hmO} {H : hmH} (hx : xHM sh R h dk dd pl pd) (hO : hmD I dk O) (ho : hmOok O) (hH : hmR I (h + 30) H) (hok : hmOk O H) {qv : Int32} (hQ : Q (some (.int (spHolders (hmN O) H qv))) 0 sh R L I) : Ex (d + 1) 0 0 MX8_holders 0 sh R L I 0 [some (.ref h), some (.int qv)] [] Q := by
  obtain ⟨h6, hlen, hset, htak, hmin, hline, hhas, hheld, htalk⟩ := id hH
  obtain ⟨on, otk, ow, olen, olaw⟩ := id hO
  obtain ⟨o6, ot1, ot2, oo, oll, owf⟩ := id ho
  have hdd := xH_27 hx
  have hlN := hok.2.1
  refine Ex_iload_n 1 (i := 1) dX8_holders_0 rfl rfl rfl ?_
  refine Ex_callS (M' := MX8_isAnswer) 4 [.int qv] (rest := []) dX8_holders_1 lX8_184 mX8_isAnswer rfl rfl (Nat.le_of_ble_eq_true rfl) (Nat.le_of_ble_eq_true rfl) rfl ?_
  refine c_isAnswer ?_
  simp only [Option.toList, List.cons_append, List.nil_append]
  refine Ex_if_eq 7 25 dX8_holders_4 (by decide) rfl (fun c1 => ?_) (fun c1 => ?_)
  · refine Ex_iconst 26 (v := (-1)) dX8_holders_25 (by decide) rfl ?_
    refine Ex_iret dX8_holders_26 rfl rfl (Or.inl rfl) ?_
    have e : spHolders (hmN O) H qv = -1 := by
      have h1 := hmB_eq c1
      simp [spHolders, h1]
    rw [← e]
    exact hQ
  · have hct := hmB_ne c1
    obtain ⟨w, hw, rfl⟩ := hmCal_of hct
    have hix : hmIx (nI w) = w := hmIx_nI (by omega)
    refine Ex_aload_n 8 (i := 0) dX8_holders_7 rfl rfl rfl ?_
    refine Ex_getR 11 dX8_holders_8 fX8_39 (xH_0 hx) rfl (xH_6 hx) rfl ?_
    refine Ex_iload_n 12 (i := 1) dX8_holders_11 rfl rfl rfl ?_
    refine Ex_aload_n 13 (i := 0) dX8_holders_12 rfl rfl rfl ?_
    refine Ex_getR 16 dX8_holders_13 fX8_19 (xH_0 hx) rfl (xH_2 hx) rfl ?_
    refine Ex_gI 19 (I dk 6) dX8_holders_16 fX8_187 (xH_14 hx).1 rfl rfl rfl ?_
    rw [on]
    refine Ex_callV (M' := MX1_whoHas) 22 [.int (nI w), .int (nI (hmN O))] (rest := []) dX8_holders_19 lX8_190 mX1_whoHas rfl (xH_18 hx).1 rfl (Nat.le_of_ble_eq_true rfl) (Nat.le_of_ble_eq_true rfl) rfl ?_
    refine c_whoHas (k := w) (n := hmN O) (f := hmHas H) (xH_18 hx) (fun z hz => hhas z (by omega)) o6 ?_
    simp only [Option.toList, List.cons_append, List.nil_append]
    refine Ex_goto 26 dX8_holders_22 (by decide) ?_
    refine Ex_iret dX8_holders_26 rfl rfl (Or.inl rfl) ?_
    have e : spHolders (hmN O) H (nI w) = hmWho (hmHas H) w (hmN O) := by
      simp only [spHolders, hct, hix, if_true]
    rw [← e]
    exact hQ
