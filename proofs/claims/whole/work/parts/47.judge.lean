/-! a day, judged -/
def hmDo (O : hmO) (tk : Nat) (x : Nat × Nat × Nat) (H : hmH) : hmH × Bool :=
  if x.1 = 0 then (if hmCanRing H x.2.1 = true then (hmCome H x.2.1, true) else (H, false))
  else if x.1 = 1 then (if x.2.1 ∈ hmLine H then (hmLeave H x.2.1, true) else (H, false))
  else if x.1 = 2 then (if x.2.1 ∈ hmLine H ∧ x.2.2 ∈ hmLine H then (hmSwap H x.2.1 x.2.2, true) else (H, false))
  else (hmMinute O tk H, true)
def hmJd (O : hmO) (tk : Nat) (D : hmDay) : Nat → hmH × Int32 × Int32
  | 0 => (hmBegin O, -1, -1)
  | i + 1 => ((hmDo O tk (D.getD i (3, 0, 0)) (hmJd O tk D i).1).1, (if (hmDo O tk (D.getD i (3, 0, 0)) (hmJd O tk D i).1).2 = false ∧ (hmJd O tk D i).2.1 = -1 then nI i else (hmJd O tk D i).2.1), (if ¬ hmSet (hmDo O tk (D.getD i (3, 0, 0)) (hmJd O tk D i).1).1 = hmSet (hmJd O tk D i).1 ∧ (hmJd O tk D i).2.2 = -1 then nI i else (hmJd O tk D i).2.2))
def spJudge (O : hmO) (tk : Nat) (D : hmDay) (v : Int32) : Int32 := if v = 2 then hmCnt (hmSet (hmJd O tk D D.length).1) else if v = 0 then (hmJd O tk D D.length).2.1 else (hmJd O tk D D.length).2.2
def spJudged (O : hmO) (D : hmDay) (v : Int32) : Int32 := if hmCal 3 v = true then spJudge O (hmTk O) D v else -2
def spOther (O : hmO) (D : hmDay) (v : Int32) : Int32 := if hmCal 21 v = true ∧ ¬ v = 0 then spJudge O (hmIx v) D 2 else -1
theorem hm_day_mem {D : hmDay} {i : Nat} (h : i < D.length) : D.getD i (3, 0, 0) ∈ D := by
  rw [List.getD_eq_getElem?_getD, List.getElem?_eq_getElem h]
  exact List.getElem_mem h
theorem hmOk_do {O : hmO} {tk : Nat} {x : Nat × Nat × Nat} {H : hmH} (hok : hmOk O H) (ho : hmOok O) (hx : x.1 ≠ 3 → x.2.1 < hmN O) : hmOk O (hmDo O tk x H).1 := by
  unfold hmDo
  by_cases h0 : x.1 = 0
  · rw [if_pos h0]
    by_cases h : hmCanRing H x.2.1 = true
    · rw [if_pos h]
      exact hmOk_come hok ho (hx (by omega)) h
    · rw [if_neg h]
      exact hok
  · rw [if_neg h0]
    by_cases h1 : x.1 = 1
    · rw [if_pos h1]
      split
      · exact hmOk_leave hok
      · exact hok
    · rw [if_neg h1]
      by_cases h2 : x.1 = 2
      · rw [if_pos h2]
        split
        · exact hmOk_swap hok
        · exact hok
      · rw [if_neg h2]
        exact hmOk_minute hok ho
theorem hmMin_do (O : hmO) (tk : Nat) (x : Nat × Nat × Nat) (H : hmH) : hmMin (hmDo O tk x H).1 ≤ hmMin H + 1 := by
  have hl : ∀ w, hmMin (hmLeave H w) = hmMin H := by
    intro w
    unfold hmLeave
    split <;> rfl
  have hs : ∀ w u, hmMin (hmSwap H w u) = hmMin H := by
    intro w u
    unfold hmSwap
    split <;> rfl
  unfold hmDo
  by_cases h0 : x.1 = 0
  · rw [if_pos h0]
    split
    · show hmMin H ≤ _
      omega
    · simp only
      omega
  · rw [if_neg h0]
    by_cases h1 : x.1 = 1
    · rw [if_pos h1]
      split
      · simp only [hl]
        omega
      · simp only
        omega
    · rw [if_neg h1]
      by_cases h2 : x.1 = 2
      · rw [if_pos h2]
        split
        · simp only [hs]
          omega
        · simp only
          omega
      · rw [if_neg h2]
        simp only [hmMinute_min]
        omega
theorem hmOk_jd {O : hmO} {tk : Nat} {D : hmDay} (ho : hmOok O) (hD : hmDok O D) : ∀ i, i ≤ D.length → hmOk O (hmJd O tk D i).1 ∧ hmMin (hmJd O tk D i).1 ≤ i := by
  intro i
  induction i with
  | zero => intro _; exact ⟨hmOk_begin ho, Nat.le_refl _⟩
  | succ i ih =>
    intro hi
    obtain ⟨h1, h2⟩ := ih (by omega)
    refine ⟨hmOk_do h1 ho (hD _ (hm_day_mem (by omega))).2.1, ?_⟩
    have h3 := hmMin_do O tk (D.getD i (3, 0, 0)) (hmJd O tk D i).1
    show hmMin (hmDo O tk (D.getD i (3, 0, 0)) (hmJd O tk D i).1).1 ≤ i + 1
    omega
theorem hm_narB (b : Bool) : narrow FieldType.boolean (Value.int (hmB b)) = Value.int (hmB b) := by cases b <;> decide
set_option maxHeartbeats 4000000 in
theorem c_doLine {d : Nat} {sh : xSh} {R : xR} {L : xL} {I : xI} {Q : xQ} {h dk dd pl pd : Nat} {O : hmO} {H : hmH} (hx : xHM sh R h dk dd pl pd) (hO : hmD I dk O) (ho : hmOok O) (hH : hmR I (h + 35) H) (hok : hmOk O H) {D : hmDay} (hD : hmPl I pl D) (hDk : hmDok O D) {i tk : Nat} (hi : i < D.length) (htk : 1 ≤ tk) (htk2 : tk ≤ 20) (hmn : hmMin H < 800000) (hQ : ∀ I', hmFd (h + 35) dk I I' → hmR I' (h + 35) (hmDo O tk (D.getD i (3, 0, 0)) H).1 → Q (some (.int (hmB (hmDo O tk (D.getD i (3, 0, 0)) H).2))) 0 sh R L I') : Ex (d + 4) 0 0 MX8_doLine 0 sh R L I 0 [some (.ref h), some (.int (nI i)), some (.int (nI tk)), none, none, none] [] Q := by
  obtain ⟨d1, d2, d3⟩ := id hD
  obtain ⟨l1, l2, l3⟩ := d3 i hi
  have hmem := hDk _ (hm_day_mem hi)
  obtain ⟨⟨wh, a, b⟩, ex⟩ : ∃ x, D.getD i (3, 0, 0) = x := ⟨_, rfl⟩
  rw [ex] at l1 l2 l3 hmem hQ
  simp only at l1 l2 l3 hmem
  obtain ⟨m1, m2, m3⟩ := hmem
  have o6 := ho.1
  have h6 := hH.1
  have hdd := xH_27 hx
  have hpp := xH_28 hx
  have hlN : ∀ x, x ∈ hmLine H → x < 6 := fun x hx => by
    have := hok.2.1 x hx
    omega
  have h4 : wh = 0 ∨ wh = 1 ∨ wh = 2 ∨ wh = 3 := by omega
  rcases h4 with rfl | rfl | rfl | rfl
  · have ha := m2 (by omega)
    refine Ex_aload_n 1 (i := 0) dX8_doLine_0 rfl rfl rfl ?_
    refine Ex_getR 4 dX8_doLine_1 fX8_29 (xH_0 hx) rfl (xH_4 hx) rfl ?_
    refine Ex_getR 7 dX8_doLine_4 fX8_310 (xH_16 hx).1 rfl (xH_16 hx).2.2.2.2.2.1 rfl ?_
    refine Ex_iload_n 8 (i := 1) dX8_doLine_7 rfl rfl rfl ?_
    refine Ex_aI 9 i (I (pl + 2) i) dX8_doLine_8 (xH_16 hx).2.2.1 rfl (by omega) (by decide) rfl rfl ?_
    rw [l2 (by omega)]
    refine Ex_istore_n 10 (i := 3) (ls' := [some (.ref h), some (.int (nI i)), some (.int (nI tk)), some (.int (nI a)), none, none]) dX8_doLine_9 rfl (Nat.le_of_ble_eq_true rfl) rfl rfl rfl ?_
    refine Ex_aload_n 11 (i := 0) dX8_doLine_10 rfl rfl rfl ?_
    refine Ex_getR 14 dX8_doLine_11 fX8_29 (xH_0 hx) rfl (xH_4 hx) rfl ?_
    refine Ex_getR 17 dX8_doLine_14 fX8_313 (xH_16 hx).1 rfl (xH_16 hx).2.2.2.2.2.2 rfl ?_
    refine Ex_iload_n 18 (i := 1) dX8_doLine_17 rfl rfl rfl ?_
    refine Ex_aI 19 i (I (pl + 3) i) dX8_doLine_18 (xH_16 hx).2.2.2.1 rfl (by omega) (by decide) rfl rfl ?_
    refine Ex_istore 21 (ls' := [some (.ref h), some (.int (nI i)), some (.int (nI tk)), some (.int (nI a)), some (.int (I (pl + 3) i)), none]) dX8_doLine_19 (Nat.le_of_ble_eq_true rfl) rfl rfl rfl ?_
    refine Ex_iconst 22 (v := 1) dX8_doLine_21 (by decide) rfl ?_
    refine Ex_istore 24 (ls' := [some (.ref h), some (.int (nI i)), some (.int (nI tk)), some (.int (nI a)), some (.int (I (pl + 3) i)), some (.int 1)]) dX8_doLine_22 (Nat.le_of_ble_eq_true rfl) rfl rfl rfl ?_
    refine Ex_aload_n 25 (i := 0) dX8_doLine_24 rfl rfl rfl ?_
    refine Ex_getR 28 dX8_doLine_25 fX8_29 (xH_0 hx) rfl (xH_4 hx) rfl ?_
    refine Ex_getR 31 dX8_doLine_28 fX8_316 (xH_16 hx).1 rfl (xH_16 hx).2.2.2.2.1 rfl ?_
    refine Ex_iload_n 32 (i := 1) dX8_doLine_31 rfl rfl rfl ?_
    refine Ex_aI 33 i (I (pl + 1) i) dX8_doLine_32 (xH_16 hx).2.1 rfl (by omega) (by decide) rfl rfl ?_
    rw [l1]
    refine Ex_tableIn 60 dX8_doLine_33 (by decide) (by decide) (off := 27) (by rfl) (by decide) ?_
    refine Ex_aload_n 61 (i := 0) dX8_doLine_60 rfl rfl rfl ?_
    refine Ex_getR 64 dX8_doLine_61 fX8_43 (xH_0 hx) rfl (xH_7 hx) rfl ?_
    refine Ex_iload_n 65 (i := 3) dX8_doLine_64 rfl rfl rfl ?_
    refine Ex_callV (M' := MX1_canRing) 68 [.int (nI a)] (rest := []) dX8_doLine_65 lX8_133 mX1_canRing rfl (xH_19 hx).1 rfl (Nat.le_of_ble_eq_true rfl) (Nat.le_of_ble_eq_true rfl) rfl ?_
    refine c_canRing (xH_19 hx) hH (by omega) (fun x hx => by have := hlN x hx; omega) ?_
    simp only [Option.toList, List.cons_append, List.nil_append]
    refine Ex_istore 70 (ls' := [some (.ref h), some (.int (nI i)), some (.int (nI tk)), some (.int (nI a)), some (.int (I (pl + 3) i)), some (.int (hmB (hmCanRing H a)))]) dX8_doLine_68 (Nat.le_of_ble_eq_true rfl) rfl rfl rfl ?_
    refine Ex_iload 72 dX8_doLine_70 rfl rfl ?_
    refine Ex_if_eq 75 174 dX8_doLine_72 (by decide) rfl (fun c2 => ?_) (fun c2 => ?_)
    · refine Ex_iload 176 dX8_doLine_174 rfl rfl ?_
      refine Ex_iret dX8_doLine_176 rfl (by first | rfl | exact hm_narB _) (Or.inl rfl) ?_
      have hcf := hmB_eq c2
      rw [hcf]
      have e : hmDo O tk (0, a, b) H = (H, false) := by
        show (if hmCanRing H a = true then _ else _) = _
        rw [hcf, if_neg (by decide)]
      rw [e] at hQ
      exact hQ I .rf hH
    · refine Ex_aload_n 76 (i := 0) dX8_doLine_75 rfl rfl rfl ?_
      refine Ex_getR 79 dX8_doLine_76 fX8_43 (xH_0 hx) rfl (xH_7 hx) rfl ?_
      refine Ex_iload_n 80 (i := 3) dX8_doLine_79 rfl rfl rfl ?_
      refine Ex_callV (M' := MX1_comeToEnd) 83 [.int (nI a)] (rest := []) dX8_doLine_80 lX8_139 mX1_comeToEnd rfl (xH_19 hx).1 rfl (Nat.le_of_ble_eq_true rfl) (Nat.le_of_ble_eq_true rfl) rfl ?_
      have hcan := hmB_ne c2
      have hni : a ∉ hmLine H := by
        have h2 : hmBit (hmSet H) a = false ∧ a ∉ hmLine H := by simpa [hmCanRing] using hcan
        exact h2.2
      have hroom := hmOk_room hok ho ha hni
      refine c_comeToEnd (xH_19 hx) hH (by omega) hroom (fun I1 hF1 hH1 => ?_)
      have g1 : hmFd (h + 35) dk I I1 := hmFd.of (fun x a => hF1 x (fun q => a (by unfold hmIn at q; omega)))
      simp only [Option.toList, List.nil_append, List.cons_append]
      refine Ex_goto 174 dX8_doLine_83 (by decide) ?_
      refine Ex_iload 176 dX8_doLine_174 rfl rfl ?_
      refine Ex_iret dX8_doLine_176 rfl (by first | rfl | exact hm_narB _) (Or.inl rfl) ?_
      rw [hcan]
      have e : hmDo O tk (0, a, b) H = (hmCome H a, true) := by
        show (if hmCanRing H a = true then _ else _) = _
        rw [if_pos hcan]
      rw [e] at hQ
      exact hQ I1 g1 hH1
  · have ha := m2 (by omega)
    refine Ex_aload_n 1 (i := 0) dX8_doLine_0 rfl rfl rfl ?_
    refine Ex_getR 4 dX8_doLine_1 fX8_29 (xH_0 hx) rfl (xH_4 hx) rfl ?_
    refine Ex_getR 7 dX8_doLine_4 fX8_310 (xH_16 hx).1 rfl (xH_16 hx).2.2.2.2.2.1 rfl ?_
    refine Ex_iload_n 8 (i := 1) dX8_doLine_7 rfl rfl rfl ?_
    refine Ex_aI 9 i (I (pl + 2) i) dX8_doLine_8 (xH_16 hx).2.2.1 rfl (by omega) (by decide) rfl rfl ?_
    rw [l2 (by omega)]
    refine Ex_istore_n 10 (i := 3) (ls' := [some (.ref h), some (.int (nI i)), some (.int (nI tk)), some (.int (nI a)), none, none]) dX8_doLine_9 rfl (Nat.le_of_ble_eq_true rfl) rfl rfl rfl ?_
    refine Ex_aload_n 11 (i := 0) dX8_doLine_10 rfl rfl rfl ?_
    refine Ex_getR 14 dX8_doLine_11 fX8_29 (xH_0 hx) rfl (xH_4 hx) rfl ?_
    refine Ex_getR 17 dX8_doLine_14 fX8_313 (xH_16 hx).1 rfl (xH_16 hx).2.2.2.2.2.2 rfl ?_
    refine Ex_iload_n 18 (i := 1) dX8_doLine_17 rfl rfl rfl ?_
    refine Ex_aI 19 i (I (pl + 3) i) dX8_doLine_18 (xH_16 hx).2.2.2.1 rfl (by omega) (by decide) rfl rfl ?_
    refine Ex_istore 21 (ls' := [some (.ref h), some (.int (nI i)), some (.int (nI tk)), some (.int (nI a)), some (.int (I (pl + 3) i)), none]) dX8_doLine_19 (Nat.le_of_ble_eq_true rfl) rfl rfl rfl ?_
    refine Ex_iconst 22 (v := 1) dX8_doLine_21 (by decide) rfl ?_
    refine Ex_istore 24 (ls' := [some (.ref h), some (.int (nI i)), some (.int (nI tk)), some (.int (nI a)), some (.int (I (pl + 3) i)), some (.int 1)]) dX8_doLine_22 (Nat.le_of_ble_eq_true rfl) rfl rfl rfl ?_
    refine Ex_aload_n 25 (i := 0) dX8_doLine_24 rfl rfl rfl ?_
    refine Ex_getR 28 dX8_doLine_25 fX8_29 (xH_0 hx) rfl (xH_4 hx) rfl ?_
    refine Ex_getR 31 dX8_doLine_28 fX8_316 (xH_16 hx).1 rfl (xH_16 hx).2.2.2.2.1 rfl ?_
    refine Ex_iload_n 32 (i := 1) dX8_doLine_31 rfl rfl rfl ?_
    refine Ex_aI 33 i (I (pl + 1) i) dX8_doLine_32 (xH_16 hx).2.1 rfl (by omega) (by decide) rfl rfl ?_
    rw [l1]
    refine Ex_tableIn 86 dX8_doLine_33 (by decide) (by decide) (off := 53) (by rfl) (by decide) ?_
    refine Ex_aload_n 87 (i := 0) dX8_doLine_86 rfl rfl rfl ?_
    refine Ex_getR 90 dX8_doLine_87 fX8_43 (xH_0 hx) rfl (xH_7 hx) rfl ?_
    refine Ex_iload_n 91 (i := 3) dX8_doLine_90 rfl rfl rfl ?_
    refine Ex_callV (M' := MX1_placeOf) 94 [.int (nI a)] (rest := []) dX8_doLine_91 lX8_115 mX1_placeOf rfl (xH_19 hx).1 rfl (Nat.le_of_ble_eq_true rfl) (Nat.le_of_ble_eq_true rfl) rfl ?_
    refine c_placeOf (xH_19 hx) hH (by omega) (fun x hx => by have := hlN x hx; omega) ?_
    simp only [Option.toList, List.cons_append, List.nil_append]
    refine Ex_iconst 95 (v := (-1)) dX8_doLine_94 (by decide) rfl ?_
    refine Ex_icmp_eq 98 102 dX8_doLine_95 (by decide) rfl (fun c2 => ?_) (fun c2 => ?_)
    · refine Ex_iconst 103 (v := 0) dX8_doLine_102 (by decide) rfl ?_
      refine Ex_istore 105 (ls' := [some (.ref h), some (.int (nI i)), some (.int (nI tk)), some (.int (nI a)), some (.int (I (pl + 3) i)), some (.int 0)]) dX8_doLine_103 (Nat.le_of_ble_eq_true rfl) rfl rfl rfl ?_
      refine Ex_aload_n 106 (i := 0) dX8_doLine_105 rfl rfl rfl ?_
      refine Ex_getR 109 dX8_doLine_106 fX8_43 (xH_0 hx) rfl (xH_7 hx) rfl ?_
      refine Ex_iload_n 110 (i := 3) dX8_doLine_109 rfl rfl rfl ?_
      refine Ex_callV (M' := MX1_leave) 113 [.int (nI a)] (rest := []) dX8_doLine_110 lX8_146 mX1_leave rfl (xH_19 hx).1 rfl (Nat.le_of_ble_eq_true rfl) (Nat.le_of_ble_eq_true rfl) rfl ?_
      refine c_leave (xH_19 hx) hH (by omega) hlN (fun I1 hF1 hH1 => ?_)
      have g1 : hmFd (h + 35) dk I I1 := hmFd.of (fun x a => hF1 x (fun q => a (by unfold hmIn at q; omega)))
      simp only [Option.toList, List.nil_append, List.cons_append]
      refine Ex_goto 174 dX8_doLine_113 (by decide) ?_
      refine Ex_iload 176 dX8_doLine_174 rfl rfl ?_
      refine Ex_iret dX8_doLine_176 rfl (by first | rfl | exact hm_narB _) (Or.inl rfl) ?_
      have hni := (hmPlc_ne (by omega)).mp c2
      have el : hmLeave H a = H := if_neg hni
      rw [el] at hH1
      have e : hmDo O tk (1, a, b) H = (H, false) := by
        show (if a ∈ hmLine H then _ else _) = _
        rw [if_neg hni]
      rw [e] at hQ
      exact hQ I1 g1 hH1
    · refine Ex_iconst 99 (v := 1) dX8_doLine_98 (by decide) rfl ?_
      refine Ex_goto 103 dX8_doLine_99 (by decide) ?_
      refine Ex_istore 105 (ls' := [some (.ref h), some (.int (nI i)), some (.int (nI tk)), some (.int (nI a)), some (.int (I (pl + 3) i)), some (.int 1)]) dX8_doLine_103 (Nat.le_of_ble_eq_true rfl) rfl rfl rfl ?_
      refine Ex_aload_n 106 (i := 0) dX8_doLine_105 rfl rfl rfl ?_
      refine Ex_getR 109 dX8_doLine_106 fX8_43 (xH_0 hx) rfl (xH_7 hx) rfl ?_
      refine Ex_iload_n 110 (i := 3) dX8_doLine_109 rfl rfl rfl ?_
      refine Ex_callV (M' := MX1_leave) 113 [.int (nI a)] (rest := []) dX8_doLine_110 lX8_146 mX1_leave rfl (xH_19 hx).1 rfl (Nat.le_of_ble_eq_true rfl) (Nat.le_of_ble_eq_true rfl) rfl ?_
      refine c_leave (xH_19 hx) hH (by omega) hlN (fun I1 hF1 hH1 => ?_)
      have g1 : hmFd (h + 35) dk I I1 := hmFd.of (fun x a => hF1 x (fun q => a (by unfold hmIn at q; omega)))
      simp only [Option.toList, List.nil_append, List.cons_append]
      refine Ex_goto 174 dX8_doLine_113 (by decide) ?_
      refine Ex_iload 176 dX8_doLine_174 rfl rfl ?_
      refine Ex_iret dX8_doLine_176 rfl (by first | rfl | exact hm_narB _) (Or.inl rfl) ?_
      have hwm : a ∈ hmLine H := by
        by_cases z : a ∈ hmLine H
        · exact z
        · exact absurd ((hmPlc_ne (by omega)).mpr z) c2
      have e : hmDo O tk (1, a, b) H = (hmLeave H a, true) := by
        show (if a ∈ hmLine H then _ else _) = _
        rw [if_pos hwm]
      rw [e] at hQ
      exact hQ I1 g1 hH1
  · have ha := m2 (by omega)
    have hb6 := (m3 rfl).1
    refine Ex_aload_n 1 (i := 0) dX8_doLine_0 rfl rfl rfl ?_
    refine Ex_getR 4 dX8_doLine_1 fX8_29 (xH_0 hx) rfl (xH_4 hx) rfl ?_
    refine Ex_getR 7 dX8_doLine_4 fX8_310 (xH_16 hx).1 rfl (xH_16 hx).2.2.2.2.2.1 rfl ?_
    refine Ex_iload_n 8 (i := 1) dX8_doLine_7 rfl rfl rfl ?_
    refine Ex_aI 9 i (I (pl + 2) i) dX8_doLine_8 (xH_16 hx).2.2.1 rfl (by omega) (by decide) rfl rfl ?_
    rw [l2 (by omega)]
    refine Ex_istore_n 10 (i := 3) (ls' := [some (.ref h), some (.int (nI i)), some (.int (nI tk)), some (.int (nI a)), none, none]) dX8_doLine_9 rfl (Nat.le_of_ble_eq_true rfl) rfl rfl rfl ?_
    refine Ex_aload_n 11 (i := 0) dX8_doLine_10 rfl rfl rfl ?_
    refine Ex_getR 14 dX8_doLine_11 fX8_29 (xH_0 hx) rfl (xH_4 hx) rfl ?_
    refine Ex_getR 17 dX8_doLine_14 fX8_313 (xH_16 hx).1 rfl (xH_16 hx).2.2.2.2.2.2 rfl ?_
    refine Ex_iload_n 18 (i := 1) dX8_doLine_17 rfl rfl rfl ?_
    refine Ex_aI 19 i (I (pl + 3) i) dX8_doLine_18 (xH_16 hx).2.2.2.1 rfl (by omega) (by decide) rfl rfl ?_
    rw [l3 rfl]
    refine Ex_istore 21 (ls' := [some (.ref h), some (.int (nI i)), some (.int (nI tk)), some (.int (nI a)), some (.int (nI b)), none]) dX8_doLine_19 (Nat.le_of_ble_eq_true rfl) rfl rfl rfl ?_
    refine Ex_iconst 22 (v := 1) dX8_doLine_21 (by decide) rfl ?_
    refine Ex_istore 24 (ls' := [some (.ref h), some (.int (nI i)), some (.int (nI tk)), some (.int (nI a)), some (.int (nI b)), some (.int 1)]) dX8_doLine_22 (Nat.le_of_ble_eq_true rfl) rfl rfl rfl ?_
    refine Ex_aload_n 25 (i := 0) dX8_doLine_24 rfl rfl rfl ?_
    refine Ex_getR 28 dX8_doLine_25 fX8_29 (xH_0 hx) rfl (xH_4 hx) rfl ?_
    refine Ex_getR 31 dX8_doLine_28 fX8_316 (xH_16 hx).1 rfl (xH_16 hx).2.2.2.2.1 rfl ?_
    refine Ex_iload_n 32 (i := 1) dX8_doLine_31 rfl rfl rfl ?_
    refine Ex_aI 33 i (I (pl + 1) i) dX8_doLine_32 (xH_16 hx).2.1 rfl (by omega) (by decide) rfl rfl ?_
    rw [l1]
    refine Ex_tableIn 116 dX8_doLine_33 (by decide) (by decide) (off := 83) (by rfl) (by decide) ?_
    refine Ex_aload_n 117 (i := 0) dX8_doLine_116 rfl rfl rfl ?_
    refine Ex_getR 120 dX8_doLine_117 fX8_43 (xH_0 hx) rfl (xH_7 hx) rfl ?_
    refine Ex_iload_n 121 (i := 3) dX8_doLine_120 rfl rfl rfl ?_
    refine Ex_callV (M' := MX1_placeOf) 124 [.int (nI a)] (rest := []) dX8_doLine_121 lX8_115 mX1_placeOf rfl (xH_19 hx).1 rfl (Nat.le_of_ble_eq_true rfl) (Nat.le_of_ble_eq_true rfl) rfl ?_
    refine c_placeOf (xH_19 hx) hH (by omega) (fun x hx => by have := hlN x hx; omega) ?_
    simp only [Option.toList, List.cons_append, List.nil_append]
    refine Ex_iconst 125 (v := (-1)) dX8_doLine_124 (by decide) rfl ?_
    refine Ex_icmp_eq 128 145 dX8_doLine_125 (by decide) rfl (fun c2 => ?_) (fun c2 => ?_)
    · refine Ex_iconst 146 (v := 0) dX8_doLine_145 (by decide) rfl ?_
      refine Ex_istore 148 (ls' := [some (.ref h), some (.int (nI i)), some (.int (nI tk)), some (.int (nI a)), some (.int (nI b)), some (.int 0)]) dX8_doLine_146 (Nat.le_of_ble_eq_true rfl) rfl rfl rfl ?_
      refine Ex_aload_n 149 (i := 0) dX8_doLine_148 rfl rfl rfl ?_
      refine Ex_getR 152 dX8_doLine_149 fX8_43 (xH_0 hx) rfl (xH_7 hx) rfl ?_
      refine Ex_iload_n 153 (i := 3) dX8_doLine_152 rfl rfl rfl ?_
      refine Ex_iload 155 dX8_doLine_153 rfl rfl ?_
      refine Ex_callV (M' := MX1_changePlaces) 158 [.int (nI a), .int (nI b)] (rest := []) dX8_doLine_155 lX8_149 mX1_changePlaces rfl (xH_19 hx).1 rfl (Nat.le_of_ble_eq_true rfl) (Nat.le_of_ble_eq_true rfl) rfl ?_
      have hb := (m3 rfl).1
      refine c_changePlaces (xH_19 hx) hH (by omega) (by omega) hlN hok.1 (fun I1 hF1 hH1 => ?_)
      have g1 : hmFd (h + 35) dk I I1 := hmFd.of (fun x a => hF1 x (fun q => a (by unfold hmIn at q; omega)))
      simp only [Option.toList, List.nil_append, List.cons_append]
      refine Ex_goto 174 dX8_doLine_158 (by decide) ?_
      refine Ex_iload 176 dX8_doLine_174 rfl rfl ?_
      refine Ex_iret dX8_doLine_176 rfl (by first | rfl | exact hm_narB _) (Or.inl rfl) ?_
      have hni := (hmPlc_ne (by omega)).mp c2
      have el : hmSwap H a b = H := if_neg (fun q => hni q.1)
      rw [el] at hH1
      have e : hmDo O tk (2, a, b) H = (H, false) := by
        show (if a ∈ hmLine H ∧ b ∈ hmLine H then _ else _) = _
        rw [if_neg (fun q => hni q.1)]
      rw [e] at hQ
      exact hQ I1 g1 hH1
    · refine Ex_aload_n 129 (i := 0) dX8_doLine_128 rfl rfl rfl ?_
      refine Ex_getR 132 dX8_doLine_129 fX8_43 (xH_0 hx) rfl (xH_7 hx) rfl ?_
      refine Ex_iload 134 dX8_doLine_132 rfl rfl ?_
      refine Ex_callV (M' := MX1_placeOf) 137 [.int (nI b)] (rest := []) dX8_doLine_134 lX8_115 mX1_placeOf rfl (xH_19 hx).1 rfl (Nat.le_of_ble_eq_true rfl) (Nat.le_of_ble_eq_true rfl) rfl ?_
      refine c_placeOf (xH_19 hx) hH (by omega) (fun x hx => by have := hlN x hx; omega) ?_
      simp only [Option.toList, List.cons_append, List.nil_append]
      refine Ex_iconst 138 (v := (-1)) dX8_doLine_137 (by decide) rfl ?_
      refine Ex_icmp_eq 141 145 dX8_doLine_138 (by decide) rfl (fun c3 => ?_) (fun c3 => ?_)
      · refine Ex_iconst 146 (v := 0) dX8_doLine_145 (by decide) rfl ?_
        refine Ex_istore 148 (ls' := [some (.ref h), some (.int (nI i)), some (.int (nI tk)), some (.int (nI a)), some (.int (nI b)), some (.int 0)]) dX8_doLine_146 (Nat.le_of_ble_eq_true rfl) rfl rfl rfl ?_
        refine Ex_aload_n 149 (i := 0) dX8_doLine_148 rfl rfl rfl ?_
        refine Ex_getR 152 dX8_doLine_149 fX8_43 (xH_0 hx) rfl (xH_7 hx) rfl ?_
        refine Ex_iload_n 153 (i := 3) dX8_doLine_152 rfl rfl rfl ?_
        refine Ex_iload 155 dX8_doLine_153 rfl rfl ?_
        refine Ex_callV (M' := MX1_changePlaces) 158 [.int (nI a), .int (nI b)] (rest := []) dX8_doLine_155 lX8_149 mX1_changePlaces rfl (xH_19 hx).1 rfl (Nat.le_of_ble_eq_true rfl) (Nat.le_of_ble_eq_true rfl) rfl ?_
        have hb := (m3 rfl).1
        refine c_changePlaces (xH_19 hx) hH (by omega) (by omega) hlN hok.1 (fun I1 hF1 hH1 => ?_)
        have g1 : hmFd (h + 35) dk I I1 := hmFd.of (fun x a => hF1 x (fun q => a (by unfold hmIn at q; omega)))
        simp only [Option.toList, List.nil_append, List.cons_append]
        refine Ex_goto 174 dX8_doLine_158 (by decide) ?_
        refine Ex_iload 176 dX8_doLine_174 rfl rfl ?_
        refine Ex_iret dX8_doLine_176 rfl (by first | rfl | exact hm_narB _) (Or.inl rfl) ?_
        have hni := (hmPlc_ne (by omega)).mp c3
        have el : hmSwap H a b = H := if_neg (fun q => hni q.2)
        rw [el] at hH1
        have e : hmDo O tk (2, a, b) H = (H, false) := by
          show (if a ∈ hmLine H ∧ b ∈ hmLine H then _ else _) = _
          rw [if_neg (fun q => hni q.2)]
        rw [e] at hQ
        exact hQ I1 g1 hH1
      · refine Ex_iconst 142 (v := 1) dX8_doLine_141 (by decide) rfl ?_
        refine Ex_goto 146 dX8_doLine_142 (by decide) ?_
        refine Ex_istore 148 (ls' := [some (.ref h), some (.int (nI i)), some (.int (nI tk)), some (.int (nI a)), some (.int (nI b)), some (.int 1)]) dX8_doLine_146 (Nat.le_of_ble_eq_true rfl) rfl rfl rfl ?_
        refine Ex_aload_n 149 (i := 0) dX8_doLine_148 rfl rfl rfl ?_
        refine Ex_getR 152 dX8_doLine_149 fX8_43 (xH_0 hx) rfl (xH_7 hx) rfl ?_
        refine Ex_iload_n 153 (i := 3) dX8_doLine_152 rfl rfl rfl ?_
        refine Ex_iload 155 dX8_doLine_153 rfl rfl ?_
        refine Ex_callV (M' := MX1_changePlaces) 158 [.int (nI a), .int (nI b)] (rest := []) dX8_doLine_155 lX8_149 mX1_changePlaces rfl (xH_19 hx).1 rfl (Nat.le_of_ble_eq_true rfl) (Nat.le_of_ble_eq_true rfl) rfl ?_
        have hb := (m3 rfl).1
        refine c_changePlaces (xH_19 hx) hH (by omega) (by omega) hlN hok.1 (fun I1 hF1 hH1 => ?_)
        have g1 : hmFd (h + 35) dk I I1 := hmFd.of (fun x a => hF1 x (fun q => a (by unfold hmIn at q; omega)))
        simp only [Option.toList, List.nil_append, List.cons_append]
        refine Ex_goto 174 dX8_doLine_158 (by decide) ?_
        refine Ex_iload 176 dX8_doLine_174 rfl rfl ?_
        refine Ex_iret dX8_doLine_176 rfl (by first | rfl | exact hm_narB _) (Or.inl rfl) ?_
        have hwm : a ∈ hmLine H := by
          by_cases z : a ∈ hmLine H
          · exact z
          · exact absurd ((hmPlc_ne (by omega)).mpr z) c2
        have hwm2 : b ∈ hmLine H := by
          by_cases z : b ∈ hmLine H
          · exact z
          · exact absurd ((hmPlc_ne (by omega)).mpr z) c3
        have e : hmDo O tk (2, a, b) H = (hmSwap H a b, true) := by
          show (if a ∈ hmLine H ∧ b ∈ hmLine H then _ else _) = _
          rw [if_pos ⟨hwm, hwm2⟩]
        rw [e] at hQ
        exact hQ I1 g1 hH1
  · skip
    refine Ex_aload_n 1 (i := 0) dX8_doLine_0 rfl rfl rfl ?_
    refine Ex_getR 4 dX8_doLine_1 fX8_29 (xH_0 hx) rfl (xH_4 hx) rfl ?_
    refine Ex_getR 7 dX8_doLine_4 fX8_310 (xH_16 hx).1 rfl (xH_16 hx).2.2.2.2.2.1 rfl ?_
    refine Ex_iload_n 8 (i := 1) dX8_doLine_7 rfl rfl rfl ?_
    refine Ex_aI 9 i (I (pl + 2) i) dX8_doLine_8 (xH_16 hx).2.2.1 rfl (by omega) (by decide) rfl rfl ?_
    refine Ex_istore_n 10 (i := 3) (ls' := [some (.ref h), some (.int (nI i)), some (.int (nI tk)), some (.int (I (pl + 2) i)), none, none]) dX8_doLine_9 rfl (Nat.le_of_ble_eq_true rfl) rfl rfl rfl ?_
    refine Ex_aload_n 11 (i := 0) dX8_doLine_10 rfl rfl rfl ?_
    refine Ex_getR 14 dX8_doLine_11 fX8_29 (xH_0 hx) rfl (xH_4 hx) rfl ?_
    refine Ex_getR 17 dX8_doLine_14 fX8_313 (xH_16 hx).1 rfl (xH_16 hx).2.2.2.2.2.2 rfl ?_
    refine Ex_iload_n 18 (i := 1) dX8_doLine_17 rfl rfl rfl ?_
    refine Ex_aI 19 i (I (pl + 3) i) dX8_doLine_18 (xH_16 hx).2.2.2.1 rfl (by omega) (by decide) rfl rfl ?_
    refine Ex_istore 21 (ls' := [some (.ref h), some (.int (nI i)), some (.int (nI tk)), some (.int (I (pl + 2) i)), some (.int (I (pl + 3) i)), none]) dX8_doLine_19 (Nat.le_of_ble_eq_true rfl) rfl rfl rfl ?_
    refine Ex_iconst 22 (v := 1) dX8_doLine_21 (by decide) rfl ?_
    refine Ex_istore 24 (ls' := [some (.ref h), some (.int (nI i)), some (.int (nI tk)), some (.int (I (pl + 2) i)), some (.int (I (pl + 3) i)), some (.int 1)]) dX8_doLine_22 (Nat.le_of_ble_eq_true rfl) rfl rfl rfl ?_
    refine Ex_aload_n 25 (i := 0) dX8_doLine_24 rfl rfl rfl ?_
    refine Ex_getR 28 dX8_doLine_25 fX8_29 (xH_0 hx) rfl (xH_4 hx) rfl ?_
    refine Ex_getR 31 dX8_doLine_28 fX8_316 (xH_16 hx).1 rfl (xH_16 hx).2.2.2.2.1 rfl ?_
    refine Ex_iload_n 32 (i := 1) dX8_doLine_31 rfl rfl rfl ?_
    refine Ex_aI 33 i (I (pl + 1) i) dX8_doLine_32 (xH_16 hx).2.1 rfl (by omega) (by decide) rfl rfl ?_
    rw [l1]
    refine Ex_tableOut 161 dX8_doLine_33 (by decide) (by decide) ?_
    refine Ex_aload_n 162 (i := 0) dX8_doLine_161 rfl rfl rfl ?_
    refine Ex_getR 165 dX8_doLine_162 fX8_43 (xH_0 hx) rfl (xH_7 hx) rfl ?_
    refine Ex_aload_n 166 (i := 0) dX8_doLine_165 rfl rfl rfl ?_
    refine Ex_getR 169 dX8_doLine_166 fX8_19 (xH_0 hx) rfl (xH_2 hx) rfl ?_
    refine Ex_iload_n 170 (i := 2) dX8_doLine_169 rfl rfl rfl ?_
    refine Ex_callV (M' := MX1_passMinute) 173 [.ref dk, .int (nI tk)] (rest := []) dX8_doLine_170 lX8_156 mX1_passMinute rfl (xH_19 hx).1 rfl (Nat.le_of_ble_eq_true rfl) (Nat.le_of_ble_eq_true rfl) rfl ?_
    refine c_passMinute (xH_19 hx) (xH_14 hx) (by omega) hH hO ho hok htk htk2 (by omega) (fun I1 g1 hH1 => ?_)
    simp only [Option.toList, List.nil_append, List.cons_append]
    refine Ex_pop 174 dX8_doLine_173 rfl rfl ?_
    refine Ex_iload 176 dX8_doLine_174 rfl rfl ?_
    refine Ex_iret dX8_doLine_176 rfl (by first | rfl | exact hm_narB _) (Or.inl rfl) ?_
    have e : hmDo O tk (3, a, b) H = (hmMinute O tk H, true) := rfl
    rw [e] at hQ
    exact hQ I1 g1 hH1
set_option maxHeartbeats 4000000 in
theorem c_judgeDay_loop {d : Nat} {sh : xSh} {R : xR} {L : xL} {I : xI} {Q : xQ} {h dk dd pl pd : Nat} {O : hmO} (hx : xHM sh R h dk dd pl pd) (hO : hmD I dk O) (ho : hmOok O) {D : hmDay} (hD : hmPl I pl D) (hDk : hmDok O D) {tk : Nat} (htk : 1 ≤ tk) (htk2 : tk ≤ 20) {qw : Int32} (hQ : ∀ I', hmFd (h + 35) dk I I' → Q (some (.int (spJudge O tk D qw))) 0 sh R L I') : ∀ n i J, n + i = D.length → hmFd (h + 35) dk I J → hmR J (h + 35) (hmJd O tk D i).1 → Ex (d + 5) 0 0 MX8_judgeDay 0 sh R L J 19 [some (.ref h), some (.int (nI tk)), some (.int qw), some (.int ((hmJd O tk D i).2.1)), some (.int ((hmJd O tk D i).2.2)), some (.int (nI i)), none] [] Q := by
  have hdd := xH_27 hx
  have hpp := xH_28 hx
  intro n
  induction n with
  | zero =>
    intro i J hi gJ hHJ
    have hDJ : hmPl J pl D := hD.kept (fun x a b => gJ x (by omega) (by omega))
    obtain ⟨hokJ, hmJ⟩ := hmOk_jd (tk := tk) ho hDk i (by omega)
    have hsJ := hHJ.2.2.1
    have hlJ := hDJ.2.1
    have d40 := hDJ.1
    refine Ex_iload 21 dX8_judgeDay_19 rfl rfl ?_
    refine Ex_aload_n 22 (i := 0) dX8_judgeDay_21 rfl rfl rfl ?_
    refine Ex_getR 25 dX8_judgeDay_22 fX8_29 (xH_0 hx) rfl (xH_4 hx) rfl ?_
    refine Ex_gI 28 (J pl 3) dX8_judgeDay_25 fX8_287 (xH_16 hx).1 rfl rfl rfl ?_
    rw [hlJ]
    refine Ex_icmp_ge 31 86 dX8_judgeDay_28 (by decide) rfl (fun c1 => ?_) (fun c1 => absurd c1 (fun q => q (nI_le (by omega) (by omega))))
    refine Ex_iload_n 87 (i := 2) dX8_judgeDay_86 rfl rfl rfl ?_
    refine Ex_iconst 88 (v := 2) dX8_judgeDay_87 (by decide) rfl ?_
    refine Ex_icmp_ne 91 102 dX8_judgeDay_88 (by decide) rfl (fun c2 => ?_) (fun c2 => ?_)
    · refine Ex_iload_n 103 (i := 2) dX8_judgeDay_102 rfl rfl rfl ?_
      refine Ex_if_ne 106 110 dX8_judgeDay_103 (by decide) rfl (fun c3 => ?_) (fun c3 => ?_)
      · refine Ex_iload 112 dX8_judgeDay_110 rfl rfl ?_
        refine Ex_iret dX8_judgeDay_112 rfl rfl (Or.inl rfl) ?_
        have e : spJudge O tk D qw = (hmJd O tk D i).2.2 := by
          unfold spJudge
          rw [if_neg c2, if_neg c3, show D.length = i by omega]
        rw [← e]
        exact hQ J gJ
      · refine Ex_iload_n 107 (i := 3) dX8_judgeDay_106 rfl rfl rfl ?_
        refine Ex_goto 112 dX8_judgeDay_107 (by decide) ?_
        refine Ex_iret dX8_judgeDay_112 rfl rfl (Or.inl rfl) ?_
        have e : spJudge O tk D qw = (hmJd O tk D i).2.1 := by
          unfold spJudge
          rw [if_neg c2, if_pos c3, show D.length = i by omega]
        rw [← e]
        exact hQ J gJ
    · refine Ex_aload_n 92 (i := 0) dX8_judgeDay_91 rfl rfl rfl ?_
      refine Ex_getR 95 dX8_judgeDay_92 fX8_43 (xH_0 hx) rfl (xH_7 hx) rfl ?_
      refine Ex_gI 98 (J (h + 35) 5) dX8_judgeDay_95 fX8_112 (xH_19 hx).1 rfl rfl rfl ?_
      rw [hsJ]
      refine Ex_callS (M' := MJ6_bitCount_0f7a4) 101 [.int (hmSet (hmJd O tk D i).1)] (rest := []) dX8_judgeDay_98 lX8_203 mJ6_bitCount_0f7a4 rfl rfl (Nat.le_of_ble_eq_true rfl) (Nat.le_of_ble_eq_true rfl) rfl ?_
      refine c_bitCountS (hm_s610 hokJ.2.2.2.1) ?_
      simp only [Option.toList, List.cons_append, List.nil_append]
      refine Ex_iret dX8_judgeDay_101 rfl rfl (Or.inl rfl) ?_
      have e : spJudge O tk D qw = hmCnt (hmSet (hmJd O tk D i).1) := by
        unfold spJudge
        rw [if_pos c2, show D.length = i by omega]
      rw [← e]
      exact hQ J gJ
  | succ n ih =>
    intro i J hi gJ hHJ
    have hDJ : hmPl J pl D := hD.kept (fun x a b => gJ x (by omega) (by omega))
    obtain ⟨hokJ, hmJ⟩ := hmOk_jd (tk := tk) ho hDk i (by omega)
    have hsJ := hHJ.2.2.1
    have hlJ := hDJ.2.1
    have d40 := hDJ.1
    refine Ex_iload 21 dX8_judgeDay_19 rfl rfl ?_
    refine Ex_aload_n 22 (i := 0) dX8_judgeDay_21 rfl rfl rfl ?_
    refine Ex_getR 25 dX8_judgeDay_22 fX8_29 (xH_0 hx) rfl (xH_4 hx) rfl ?_
    refine Ex_gI 28 (J pl 3) dX8_judgeDay_25 fX8_287 (xH_16 hx).1 rfl rfl rfl ?_
    rw [hlJ]
    refine Ex_icmp_ge 31 86 dX8_judgeDay_28 (by decide) rfl (fun c1 => absurd c1 (nI_ge (by omega) (by omega))) (fun c1 => ?_)
    refine Ex_aload_n 32 (i := 0) dX8_judgeDay_31 rfl rfl rfl ?_
    refine Ex_getR 35 dX8_judgeDay_32 fX8_43 (xH_0 hx) rfl (xH_7 hx) rfl ?_
    refine Ex_gI 38 (J (h + 35) 5) dX8_judgeDay_35 fX8_112 (xH_19 hx).1 rfl rfl rfl ?_
    rw [hsJ]
    refine Ex_istore 40 (ls' := [some (.ref h), some (.int (nI tk)), some (.int qw), some (.int ((hmJd O tk D i).2.1)), some (.int ((hmJd O tk D i).2.2)), some (.int (nI i)), some (.int (hmSet (hmJd O tk D i).1))]) dX8_judgeDay_38 (Nat.le_of_ble_eq_true rfl) rfl rfl rfl ?_
    refine Ex_aload_n 41 (i := 0) dX8_judgeDay_40 rfl rfl rfl ?_
    refine Ex_iload 43 dX8_judgeDay_41 rfl rfl ?_
    refine Ex_iload_n 44 (i := 1) dX8_judgeDay_43 rfl rfl rfl ?_
    refine Ex_callV (M' := MX8_doLine) 47 [.int (nI i), .int (nI tk)] (rest := []) dX8_judgeDay_44 lX8_307 mX8_doLine rfl (xH_0 hx) rfl (Nat.le_of_ble_eq_true rfl) (Nat.le_of_ble_eq_true rfl) rfl ?_
    refine c_doLine hx (hO.fd gJ (by omega)) ho hHJ hokJ hDJ hDk (show i < D.length by omega) htk htk2 (by omega) (fun I1 g1 hH1 => ?_)
    have gJ1 := gJ.tr g1
    have hs1 := hH1.2.2.1
    simp only [Option.toList, List.nil_append, List.cons_append]
    refine Ex_if_ne 50 58 dX8_judgeDay_47 (by decide) rfl (fun c2 => ?_) (fun c2 => ?_)
    · refine Ex_aload_n 59 (i := 0) dX8_judgeDay_58 rfl rfl rfl ?_
      refine Ex_getR 62 dX8_judgeDay_59 fX8_43 (xH_0 hx) rfl (xH_7 hx) rfl ?_
      refine Ex_gI 65 (I1 (h + 35) 5) dX8_judgeDay_62 fX8_112 (xH_19 hx).1 rfl rfl rfl ?_
      rw [hs1]
      refine Ex_iload 67 dX8_judgeDay_65 rfl rfl ?_
      refine Ex_icmp_eq 70 80 dX8_judgeDay_67 (by decide) rfl (fun c3 => ?_) (fun c3 => ?_)
      · refine Ex_iinc 83 (v := (nI (i + 1))) (ls' := [some (.ref h), some (.int (nI tk)), some (.int qw), some (.int ((hmJd O tk D i).2.1)), some (.int ((hmJd O tk D i).2.2)), some (.int (nI (i + 1))), some (.int (hmSet (hmJd O tk D i).1))]) dX8_judgeDay_80 rfl (xinc _) (Nat.le_of_ble_eq_true rfl) rfl rfl rfl ?_
        refine Ex_goto 19 dX8_judgeDay_83 (by decide) ?_
        have e1 : (hmJd O tk D (i + 1)).2.1 = (hmJd O tk D i).2.1 := by
          show (if (hmDo O tk (D.getD i (3, 0, 0)) (hmJd O tk D i).1).2 = false ∧ (hmJd O tk D i).2.1 = -1 then _ else _) = _
          rw [if_neg (fun q => absurd (hmB_ne c2) (by rw [q.1]; decide))]
        have e2 : (hmJd O tk D (i + 1)).2.2 = (hmJd O tk D i).2.2 := by
          show (if ¬ hmSet (hmDo O tk (D.getD i (3, 0, 0)) (hmJd O tk D i).1).1 = hmSet (hmJd O tk D i).1 ∧ (hmJd O tk D i).2.2 = -1 then _ else _) = _
          rw [if_neg (fun q => q.1 c3)]
        refine Ex_fgt (ls' := [some (.ref h), some (.int (nI tk)), some (.int qw), some (.int ((hmJd O tk D i).2.1)), some (.int ((hmJd O tk D i).2.2)), some (.int (nI (i + 1))), none]) (by simp [xsub]) ?_
        refine Ex_l (ls' := [some (.ref h), some (.int (nI tk)), some (.int qw), some (.int ((hmJd O tk D (i + 1)).2.1)), some (.int ((hmJd O tk D (i + 1)).2.2)), some (.int (nI (i + 1))), none]) (by rw [e1, e2]) ?_
        exact ih (i + 1) I1 (by omega) gJ1 hH1
      · refine Ex_iload 72 dX8_judgeDay_70 rfl rfl ?_
        refine Ex_iconst 73 (v := (-1)) dX8_judgeDay_72 (by decide) rfl ?_
        refine Ex_icmp_ne 76 80 dX8_judgeDay_73 (by decide) rfl (fun c4 => ?_) (fun c4 => ?_)
        · refine Ex_iinc 83 (v := (nI (i + 1))) (ls' := [some (.ref h), some (.int (nI tk)), some (.int qw), some (.int ((hmJd O tk D i).2.1)), some (.int ((hmJd O tk D i).2.2)), some (.int (nI (i + 1))), some (.int (hmSet (hmJd O tk D i).1))]) dX8_judgeDay_80 rfl (xinc _) (Nat.le_of_ble_eq_true rfl) rfl rfl rfl ?_
          refine Ex_goto 19 dX8_judgeDay_83 (by decide) ?_
          have e1 : (hmJd O tk D (i + 1)).2.1 = (hmJd O tk D i).2.1 := by
            show (if (hmDo O tk (D.getD i (3, 0, 0)) (hmJd O tk D i).1).2 = false ∧ (hmJd O tk D i).2.1 = -1 then _ else _) = _
            rw [if_neg (fun q => absurd (hmB_ne c2) (by rw [q.1]; decide))]
          have e2 : (hmJd O tk D (i + 1)).2.2 = (hmJd O tk D i).2.2 := by
            show (if ¬ hmSet (hmDo O tk (D.getD i (3, 0, 0)) (hmJd O tk D i).1).1 = hmSet (hmJd O tk D i).1 ∧ (hmJd O tk D i).2.2 = -1 then _ else _) = _
            rw [if_neg (fun q => c4 q.2)]
          refine Ex_fgt (ls' := [some (.ref h), some (.int (nI tk)), some (.int qw), some (.int ((hmJd O tk D i).2.1)), some (.int ((hmJd O tk D i).2.2)), some (.int (nI (i + 1))), none]) (by simp [xsub]) ?_
          refine Ex_l (ls' := [some (.ref h), some (.int (nI tk)), some (.int qw), some (.int ((hmJd O tk D (i + 1)).2.1)), some (.int ((hmJd O tk D (i + 1)).2.2)), some (.int (nI (i + 1))), none]) (by rw [e1, e2]) ?_
          exact ih (i + 1) I1 (by omega) gJ1 hH1
        · refine Ex_iload 78 dX8_judgeDay_76 rfl rfl ?_
          refine Ex_istore 80 (ls' := [some (.ref h), some (.int (nI tk)), some (.int qw), some (.int ((hmJd O tk D i).2.1)), some (.int (nI i)), some (.int (nI i)), some (.int (hmSet (hmJd O tk D i).1))]) dX8_judgeDay_78 (Nat.le_of_ble_eq_true rfl) rfl rfl rfl ?_
          refine Ex_iinc 83 (v := (nI (i + 1))) (ls' := [some (.ref h), some (.int (nI tk)), some (.int qw), some (.int ((hmJd O tk D i).2.1)), some (.int (nI i)), some (.int (nI (i + 1))), some (.int (hmSet (hmJd O tk D i).1))]) dX8_judgeDay_80 rfl (xinc _) (Nat.le_of_ble_eq_true rfl) rfl rfl rfl ?_
          refine Ex_goto 19 dX8_judgeDay_83 (by decide) ?_
          have e1 : (hmJd O tk D (i + 1)).2.1 = (hmJd O tk D i).2.1 := by
            show (if (hmDo O tk (D.getD i (3, 0, 0)) (hmJd O tk D i).1).2 = false ∧ (hmJd O tk D i).2.1 = -1 then _ else _) = _
            rw [if_neg (fun q => absurd (hmB_ne c2) (by rw [q.1]; decide))]
          have e2 : (hmJd O tk D (i + 1)).2.2 = nI i := by
            show (if ¬ hmSet (hmDo O tk (D.getD i (3, 0, 0)) (hmJd O tk D i).1).1 = hmSet (hmJd O tk D i).1 ∧ (hmJd O tk D i).2.2 = -1 then _ else _) = _
            rw [if_pos ⟨c3, c4⟩]
          refine Ex_fgt (ls' := [some (.ref h), some (.int (nI tk)), some (.int qw), some (.int ((hmJd O tk D i).2.1)), some (.int (nI i)), some (.int (nI (i + 1))), none]) (by simp [xsub]) ?_
          refine Ex_l (ls' := [some (.ref h), some (.int (nI tk)), some (.int qw), some (.int ((hmJd O tk D (i + 1)).2.1)), some (.int ((hmJd O tk D (i + 1)).2.2)), some (.int (nI (i + 1))), none]) (by rw [e1, e2]) ?_
          exact ih (i + 1) I1 (by omega) gJ1 hH1
    · refine Ex_iload_n 51 (i := 3) dX8_judgeDay_50 rfl rfl rfl ?_
      refine Ex_iconst 52 (v := (-1)) dX8_judgeDay_51 (by decide) rfl ?_
      refine Ex_icmp_ne 55 58 dX8_judgeDay_52 (by decide) rfl (fun c5 => ?_) (fun c5 => ?_)
      · refine Ex_aload_n 59 (i := 0) dX8_judgeDay_58 rfl rfl rfl ?_
        refine Ex_getR 62 dX8_judgeDay_59 fX8_43 (xH_0 hx) rfl (xH_7 hx) rfl ?_
        refine Ex_gI 65 (I1 (h + 35) 5) dX8_judgeDay_62 fX8_112 (xH_19 hx).1 rfl rfl rfl ?_
        rw [hs1]
        refine Ex_iload 67 dX8_judgeDay_65 rfl rfl ?_
        refine Ex_icmp_eq 70 80 dX8_judgeDay_67 (by decide) rfl (fun c6 => ?_) (fun c6 => ?_)
        · refine Ex_iinc 83 (v := (nI (i + 1))) (ls' := [some (.ref h), some (.int (nI tk)), some (.int qw), some (.int ((hmJd O tk D i).2.1)), some (.int ((hmJd O tk D i).2.2)), some (.int (nI (i + 1))), some (.int (hmSet (hmJd O tk D i).1))]) dX8_judgeDay_80 rfl (xinc _) (Nat.le_of_ble_eq_true rfl) rfl rfl rfl ?_
          refine Ex_goto 19 dX8_judgeDay_83 (by decide) ?_
          have e1 : (hmJd O tk D (i + 1)).2.1 = (hmJd O tk D i).2.1 := by
            show (if (hmDo O tk (D.getD i (3, 0, 0)) (hmJd O tk D i).1).2 = false ∧ (hmJd O tk D i).2.1 = -1 then _ else _) = _
            rw [if_neg (fun q => c5 q.2)]
          have e2 : (hmJd O tk D (i + 1)).2.2 = (hmJd O tk D i).2.2 := by
            show (if ¬ hmSet (hmDo O tk (D.getD i (3, 0, 0)) (hmJd O tk D i).1).1 = hmSet (hmJd O tk D i).1 ∧ (hmJd O tk D i).2.2 = -1 then _ else _) = _
            rw [if_neg (fun q => q.1 c6)]
          refine Ex_fgt (ls' := [some (.ref h), some (.int (nI tk)), some (.int qw), some (.int ((hmJd O tk D i).2.1)), some (.int ((hmJd O tk D i).2.2)), some (.int (nI (i + 1))), none]) (by simp [xsub]) ?_
          refine Ex_l (ls' := [some (.ref h), some (.int (nI tk)), some (.int qw), some (.int ((hmJd O tk D (i + 1)).2.1)), some (.int ((hmJd O tk D (i + 1)).2.2)), some (.int (nI (i + 1))), none]) (by rw [e1, e2]) ?_
          exact ih (i + 1) I1 (by omega) gJ1 hH1
        · refine Ex_iload 72 dX8_judgeDay_70 rfl rfl ?_
          refine Ex_iconst 73 (v := (-1)) dX8_judgeDay_72 (by decide) rfl ?_
          refine Ex_icmp_ne 76 80 dX8_judgeDay_73 (by decide) rfl (fun c7 => ?_) (fun c7 => ?_)
          · refine Ex_iinc 83 (v := (nI (i + 1))) (ls' := [some (.ref h), some (.int (nI tk)), some (.int qw), some (.int ((hmJd O tk D i).2.1)), some (.int ((hmJd O tk D i).2.2)), some (.int (nI (i + 1))), some (.int (hmSet (hmJd O tk D i).1))]) dX8_judgeDay_80 rfl (xinc _) (Nat.le_of_ble_eq_true rfl) rfl rfl rfl ?_
            refine Ex_goto 19 dX8_judgeDay_83 (by decide) ?_
            have e1 : (hmJd O tk D (i + 1)).2.1 = (hmJd O tk D i).2.1 := by
              show (if (hmDo O tk (D.getD i (3, 0, 0)) (hmJd O tk D i).1).2 = false ∧ (hmJd O tk D i).2.1 = -1 then _ else _) = _
              rw [if_neg (fun q => c5 q.2)]
            have e2 : (hmJd O tk D (i + 1)).2.2 = (hmJd O tk D i).2.2 := by
              show (if ¬ hmSet (hmDo O tk (D.getD i (3, 0, 0)) (hmJd O tk D i).1).1 = hmSet (hmJd O tk D i).1 ∧ (hmJd O tk D i).2.2 = -1 then _ else _) = _
              rw [if_neg (fun q => c7 q.2)]
            refine Ex_fgt (ls' := [some (.ref h), some (.int (nI tk)), some (.int qw), some (.int ((hmJd O tk D i).2.1)), some (.int ((hmJd O tk D i).2.2)), some (.int (nI (i + 1))), none]) (by simp [xsub]) ?_
            refine Ex_l (ls' := [some (.ref h), some (.int (nI tk)), some (.int qw), some (.int ((hmJd O tk D (i + 1)).2.1)), some (.int ((hmJd O tk D (i + 1)).2.2)), some (.int (nI (i + 1))), none]) (by rw [e1, e2]) ?_
            exact ih (i + 1) I1 (by omega) gJ1 hH1
          · refine Ex_iload 78 dX8_judgeDay_76 rfl rfl ?_
            refine Ex_istore 80 (ls' := [some (.ref h), some (.int (nI tk)), some (.int qw), some (.int ((hmJd O tk D i).2.1)), some (.int (nI i)), some (.int (nI i)), some (.int (hmSet (hmJd O tk D i).1))]) dX8_judgeDay_78 (Nat.le_of_ble_eq_true rfl) rfl rfl rfl ?_
            refine Ex_iinc 83 (v := (nI (i + 1))) (ls' := [some (.ref h), some (.int (nI tk)), some (.int qw), some (.int ((hmJd O tk D i).2.1)), some (.int (nI i)), some (.int (nI (i + 1))), some (.int (hmSet (hmJd O tk D i).1))]) dX8_judgeDay_80 rfl (xinc _) (Nat.le_of_ble_eq_true rfl) rfl rfl rfl ?_
            refine Ex_goto 19 dX8_judgeDay_83 (by decide) ?_
            have e1 : (hmJd O tk D (i + 1)).2.1 = (hmJd O tk D i).2.1 := by
              show (if (hmDo O tk (D.getD i (3, 0, 0)) (hmJd O tk D i).1).2 = false ∧ (hmJd O tk D i).2.1 = -1 then _ else _) = _
              rw [if_neg (fun q => c5 q.2)]
            have e2 : (hmJd O tk D (i + 1)).2.2 = nI i := by
              show (if ¬ hmSet (hmDo O tk (D.getD i (3, 0, 0)) (hmJd O tk D i).1).1 = hmSet (hmJd O tk D i).1 ∧ (hmJd O tk D i).2.2 = -1 then _ else _) = _
              rw [if_pos ⟨c6, c7⟩]
            refine Ex_fgt (ls' := [some (.ref h), some (.int (nI tk)), some (.int qw), some (.int ((hmJd O tk D i).2.1)), some (.int (nI i)), some (.int (nI (i + 1))), none]) (by simp [xsub]) ?_
            refine Ex_l (ls' := [some (.ref h), some (.int (nI tk)), some (.int qw), some (.int ((hmJd O tk D (i + 1)).2.1)), some (.int ((hmJd O tk D (i + 1)).2.2)), some (.int (nI (i + 1))), none]) (by rw [e1, e2]) ?_
            exact ih (i + 1) I1 (by omega) gJ1 hH1
      · refine Ex_iload 57 dX8_judgeDay_55 rfl rfl ?_
        refine Ex_istore_n 58 (i := 3) (ls' := [some (.ref h), some (.int (nI tk)), some (.int qw), some (.int (nI i)), some (.int ((hmJd O tk D i).2.2)), some (.int (nI i)), some (.int (hmSet (hmJd O tk D i).1))]) dX8_judgeDay_57 rfl (Nat.le_of_ble_eq_true rfl) rfl rfl rfl ?_
        refine Ex_aload_n 59 (i := 0) dX8_judgeDay_58 rfl rfl rfl ?_
        refine Ex_getR 62 dX8_judgeDay_59 fX8_43 (xH_0 hx) rfl (xH_7 hx) rfl ?_
        refine Ex_gI 65 (I1 (h + 35) 5) dX8_judgeDay_62 fX8_112 (xH_19 hx).1 rfl rfl rfl ?_
        rw [hs1]
        refine Ex_iload 67 dX8_judgeDay_65 rfl rfl ?_
        refine Ex_icmp_eq 70 80 dX8_judgeDay_67 (by decide) rfl (fun c8 => ?_) (fun c8 => ?_)
        · refine Ex_iinc 83 (v := (nI (i + 1))) (ls' := [some (.ref h), some (.int (nI tk)), some (.int qw), some (.int (nI i)), some (.int ((hmJd O tk D i).2.2)), some (.int (nI (i + 1))), some (.int (hmSet (hmJd O tk D i).1))]) dX8_judgeDay_80 rfl (xinc _) (Nat.le_of_ble_eq_true rfl) rfl rfl rfl ?_
          refine Ex_goto 19 dX8_judgeDay_83 (by decide) ?_
          have e1 : (hmJd O tk D (i + 1)).2.1 = nI i := by
            show (if (hmDo O tk (D.getD i (3, 0, 0)) (hmJd O tk D i).1).2 = false ∧ (hmJd O tk D i).2.1 = -1 then _ else _) = _
            rw [if_pos ⟨hmB_eq c2, c5⟩]
          have e2 : (hmJd O tk D (i + 1)).2.2 = (hmJd O tk D i).2.2 := by
            show (if ¬ hmSet (hmDo O tk (D.getD i (3, 0, 0)) (hmJd O tk D i).1).1 = hmSet (hmJd O tk D i).1 ∧ (hmJd O tk D i).2.2 = -1 then _ else _) = _
            rw [if_neg (fun q => q.1 c8)]
          refine Ex_fgt (ls' := [some (.ref h), some (.int (nI tk)), some (.int qw), some (.int (nI i)), some (.int ((hmJd O tk D i).2.2)), some (.int (nI (i + 1))), none]) (by simp [xsub]) ?_
          refine Ex_l (ls' := [some (.ref h), some (.int (nI tk)), some (.int qw), some (.int ((hmJd O tk D (i + 1)).2.1)), some (.int ((hmJd O tk D (i + 1)).2.2)), some (.int (nI (i + 1))), none]) (by rw [e1, e2]) ?_
          exact ih (i + 1) I1 (by omega) gJ1 hH1
        · refine Ex_iload 72 dX8_judgeDay_70 rfl rfl ?_
          refine Ex_iconst 73 (v := (-1)) dX8_judgeDay_72 (by decide) rfl ?_
          refine Ex_icmp_ne 76 80 dX8_judgeDay_73 (by decide) rfl (fun c9 => ?_) (fun c9 => ?_)
          · refine Ex_iinc 83 (v := (nI (i + 1))) (ls' := [some (.ref h), some (.int (nI tk)), some (.int qw), some (.int (nI i)), some (.int ((hmJd O tk D i).2.2)), some (.int (nI (i + 1))), some (.int (hmSet (hmJd O tk D i).1))]) dX8_judgeDay_80 rfl (xinc _) (Nat.le_of_ble_eq_true rfl) rfl rfl rfl ?_
            refine Ex_goto 19 dX8_judgeDay_83 (by decide) ?_
            have e1 : (hmJd O tk D (i + 1)).2.1 = nI i := by
              show (if (hmDo O tk (D.getD i (3, 0, 0)) (hmJd O tk D i).1).2 = false ∧ (hmJd O tk D i).2.1 = -1 then _ else _) = _
              rw [if_pos ⟨hmB_eq c2, c5⟩]
            have e2 : (hmJd O tk D (i + 1)).2.2 = (hmJd O tk D i).2.2 := by
              show (if ¬ hmSet (hmDo O tk (D.getD i (3, 0, 0)) (hmJd O tk D i).1).1 = hmSet (hmJd O tk D i).1 ∧ (hmJd O tk D i).2.2 = -1 then _ else _) = _
              rw [if_neg (fun q => c9 q.2)]
            refine Ex_fgt (ls' := [some (.ref h), some (.int (nI tk)), some (.int qw), some (.int (nI i)), some (.int ((hmJd O tk D i).2.2)), some (.int (nI (i + 1))), none]) (by simp [xsub]) ?_
            refine Ex_l (ls' := [some (.ref h), some (.int (nI tk)), some (.int qw), some (.int ((hmJd O tk D (i + 1)).2.1)), some (.int ((hmJd O tk D (i + 1)).2.2)), some (.int (nI (i + 1))), none]) (by rw [e1, e2]) ?_
            exact ih (i + 1) I1 (by omega) gJ1 hH1
          · refine Ex_iload 78 dX8_judgeDay_76 rfl rfl ?_
            refine Ex_istore 80 (ls' := [some (.ref h), some (.int (nI tk)), some (.int qw), some (.int (nI i)), some (.int (nI i)), some (.int (nI i)), some (.int (hmSet (hmJd O tk D i).1))]) dX8_judgeDay_78 (Nat.le_of_ble_eq_true rfl) rfl rfl rfl ?_
            refine Ex_iinc 83 (v := (nI (i + 1))) (ls' := [some (.ref h), some (.int (nI tk)), some (.int qw), some (.int (nI i)), some (.int (nI i)), some (.int (nI (i + 1))), some (.int (hmSet (hmJd O tk D i).1))]) dX8_judgeDay_80 rfl (xinc _) (Nat.le_of_ble_eq_true rfl) rfl rfl rfl ?_
            refine Ex_goto 19 dX8_judgeDay_83 (by decide) ?_
            have e1 : (hmJd O tk D (i + 1)).2.1 = nI i := by
              show (if (hmDo O tk (D.getD i (3, 0, 0)) (hmJd O tk D i).1).2 = false ∧ (hmJd O tk D i).2.1 = -1 then _ else _) = _
              rw [if_pos ⟨hmB_eq c2, c5⟩]
            have e2 : (hmJd O tk D (i + 1)).2.2 = nI i := by
              show (if ¬ hmSet (hmDo O tk (D.getD i (3, 0, 0)) (hmJd O tk D i).1).1 = hmSet (hmJd O tk D i).1 ∧ (hmJd O tk D i).2.2 = -1 then _ else _) = _
              rw [if_pos ⟨c8, c9⟩]
            refine Ex_fgt (ls' := [some (.ref h), some (.int (nI tk)), some (.int qw), some (.int (nI i)), some (.int (nI i)), some (.int (nI (i + 1))), none]) (by simp [xsub]) ?_
            refine Ex_l (ls' := [some (.ref h), some (.int (nI tk)), some (.int qw), some (.int ((hmJd O tk D (i + 1)).2.1)), some (.int ((hmJd O tk D (i + 1)).2.2)), some (.int (nI (i + 1))), none]) (by rw [e1, e2]) ?_
            exact ih (i + 1) I1 (by omega) gJ1 hH1
set_option maxHeartbeats 4000000 in
theorem c_judgeDay {d : Nat} {sh : xSh} {R : xR} {L : xL} {I : xI} {Q : xQ} {h dk dd pl pd : Nat} {O : hmO} (hx : xHM sh R h dk dd pl pd) (hO : hmD I dk O) (ho : hmOok O) {D : hmDay} (hD : hmPl I pl D) (hDk : hmDok O D) {tk : Nat} (htk : 1 ≤ tk) (htk2 : tk ≤ 20) {qw : Int32} (hQ : ∀ I', hmFd (h + 35) dk I I' → Q (some (.int (spJudge O tk D qw))) 0 sh R L I') : Ex (d + 5) 0 0 MX8_judgeDay 0 sh R L I 0 [some (.ref h), some (.int (nI tk)), some (.int qw), none, none, none, none] [] Q := by
  have hdd := xH_27 hx
  refine Ex_iconst 1 (v := (-1)) dX8_judgeDay_0 (by decide) rfl ?_
  refine Ex_istore_n 2 (i := 3) (ls' := [some (.ref h), some (.int (nI tk)), some (.int qw), some (.int (-1)), none, none, none]) dX8_judgeDay_1 rfl (Nat.le_of_ble_eq_true rfl) rfl rfl rfl ?_
  refine Ex_iconst 3 (v := (-1)) dX8_judgeDay_2 (by decide) rfl ?_
  refine Ex_istore 5 (ls' := [some (.ref h), some (.int (nI tk)), some (.int qw), some (.int (-1)), some (.int (-1)), none, none]) dX8_judgeDay_3 (Nat.le_of_ble_eq_true rfl) rfl rfl rfl ?_
  refine Ex_aload_n 6 (i := 0) dX8_judgeDay_5 rfl rfl rfl ?_
  refine Ex_getR 9 dX8_judgeDay_6 fX8_43 (xH_0 hx) rfl (xH_7 hx) rfl ?_
  refine Ex_aload_n 10 (i := 0) dX8_judgeDay_9 rfl rfl rfl ?_
  refine Ex_getR 13 dX8_judgeDay_10 fX8_19 (xH_0 hx) rfl (xH_2 hx) rfl ?_
  refine Ex_callV (M' := MX1_begin) 16 [.ref dk] (rest := []) dX8_judgeDay_13 lX8_290 mX1_begin rfl (xH_19 hx).1 rfl (Nat.le_of_ble_eq_true rfl) (Nat.le_of_ble_eq_true rfl) rfl ?_
  refine c_begin (xH_19 hx) (xH_14 hx) (by omega) hO ho.1 (fun I1 hF1 hH1 => ?_)
  simp only [Option.toList, List.nil_append, List.cons_append]
  refine Ex_iconst 17 (v := 0) dX8_judgeDay_16 (by decide) rfl ?_
  refine Ex_istore 19 (ls' := [some (.ref h), some (.int (nI tk)), some (.int qw), some (.int (-1)), some (.int (-1)), some (.int 0), none]) dX8_judgeDay_17 (Nat.le_of_ble_eq_true rfl) rfl rfl rfl ?_
  exact c_judgeDay_loop hx hO ho hD hDk htk htk2 hQ D.length 0 I1 (by omega) (hmFd.of hF1) hH1
set_option maxHeartbeats 4000000 in
theorem c_judged {d : Nat} {sh : xSh} {R : xR} {L : xL} {I : xI} {Q : xQ} {h dk dd pl pd : Nat} {O : hmO} (hx : xHM sh R h dk dd pl pd) (hO : hmD I dk O) (ho : hmOok O) {D : hmDay} (hD : hmPl I pl D) (hDk : hmDok O D) {qv : Int32} (hQ : ∀ I', hmQf h dk I I' → Q (some (.int (spJudged O D qv))) 0 sh R L I') : Ex (d + 6) 0 0 MX8_judged 0 sh R L I 0 [some (.ref h), some (.int qv)] [] Q := by
  refine Ex_iload_n 1 (i := 1) dX8_judged_0 rfl rfl rfl ?_
  refine Ex_if_lt 4 9 dX8_judged_1 (by decide) rfl (fun c1 => ?_) (fun c1 => ?_)
  · refine Ex_bipush 11 (v := (-2)) dX8_judged_9 (by decide) rfl ?_
    refine Ex_goto 26 dX8_judged_11 (by decide) ?_
    refine Ex_iret dX8_judged_26 rfl rfl (Or.inl rfl) ?_
    have e : spJudged O D qv = -2 := by
      have h1 : hmCal 3 qv = false := by
        simp only [hmCal, decide_eq_false_iff_not]
        intro q
        exact absurd (hm_lt0.mp c1) (by omega)
      simp [spJudged, h1]
    rw [← e]
    exact hQ _ hmQf.rf
  · refine Ex_iload_n 5 (i := 1) dX8_judged_4 rfl rfl rfl ?_
    refine Ex_iconst 6 (v := 2) dX8_judged_5 (by decide) rfl ?_
    refine Ex_icmp_le 9 14 dX8_judged_6 (by decide) rfl (fun c2 => ?_) (fun c2 => ?_)
    · refine Ex_aload_n 15 (i := 0) dX8_judged_14 rfl rfl rfl ?_
      refine Ex_aload_n 16 (i := 0) dX8_judged_15 rfl rfl rfl ?_
      refine Ex_getR 19 dX8_judged_16 fX8_19 (xH_0 hx) rfl (xH_2 hx) rfl ?_
      refine Ex_gI 22 (I dk 7) dX8_judged_19 fX8_153 (xH_14 hx).1 rfl rfl rfl ?_
      rw [hO.2.1]
      refine Ex_iload_n 23 (i := 1) dX8_judged_22 rfl rfl rfl ?_
      refine Ex_callV (M' := MX8_judgeDay) 26 [.int (nI (hmTk O)), .int qv] (rest := []) dX8_judged_23 lX8_174 mX8_judgeDay rfl (xH_0 hx) rfl (Nat.le_of_ble_eq_true rfl) (Nat.le_of_ble_eq_true rfl) rfl ?_
      refine c_judgeDay (tk := (hmTk O)) hx hO ho hD hDk ho.2.1 ho.2.2.1 (fun I1 g1 => ?_)
      simp only [Option.toList, List.nil_append, List.cons_append]
      refine Ex_iret dX8_judged_26 rfl rfl (Or.inl rfl) ?_
      have hct : hmCal 3 qv = true := by
        simp only [hmCal, decide_eq_true_eq]
        have h1 : ¬ qv.toInt < 0 := fun q => c1 (hm_lt0.mpr q)
        have h2 : qv.toInt ≤ (2 : Int32).toInt := Int32.le_iff_toInt_le.mp c2
        have e2 : (2 : Int32).toInt = 2 := by decide
        omega
      have e : spJudged O D qv = spJudge O (hmTk O) D qv := if_pos hct
      rw [← e]
      exact hQ I1 (hmQf.fd g1)
    · refine Ex_bipush 11 (v := (-2)) dX8_judged_9 (by decide) rfl ?_
      refine Ex_goto 26 dX8_judged_11 (by decide) ?_
      refine Ex_iret dX8_judged_26 rfl rfl (Or.inl rfl) ?_
      have e : spJudged O D qv = -2 := by
        have h1 : hmCal 3 qv = false := by
          simp only [hmCal, decide_eq_false_iff_not]
          intro q
          have h2 : (2 : Int32).toInt < qv.toInt := Int32.lt_iff_toInt_lt.mp (Int32.not_le.mp c2)
          have e2 : (2 : Int32).toInt = 2 := by decide
          omega
        simp [spJudged, h1]
      rw [← e]
      exact hQ _ hmQf.rf
set_option maxHeartbeats 4000000 in
theorem c_other {d : Nat} {sh : xSh} {R : xR} {L : xL} {I : xI} {Q : xQ} {h dk dd pl pd : Nat} {O : hmO} (hx : xHM sh R h dk dd pl pd) (hO : hmD I dk O) (ho : hmOok O) {D : hmDay} (hD : hmPl I pl D) (hDk : hmDok O D) {qv : Int32} (hQ : ∀ I', hmQf h dk I I' → Q (some (.int (spOther O D qv))) 0 sh R L I') : Ex (d + 6) 0 0 MX8_other 0 sh R L I 0 [some (.ref h), some (.int qv)] [] Q := by
  refine Ex_iload_n 1 (i := 1) dX8_other_0 rfl rfl rfl ?_
  refine Ex_iconst 2 (v := 1) dX8_other_1 (by decide) rfl ?_
  refine Ex_icmp_lt 5 11 dX8_other_2 (by decide) rfl (fun c1 => ?_) (fun c1 => ?_)
  · refine Ex_iconst 12 (v := (-1)) dX8_other_11 (by decide) rfl ?_
    refine Ex_goto 21 dX8_other_12 (by decide) ?_
    refine Ex_iret dX8_other_21 rfl rfl (Or.inl rfl) ?_
    have e : spOther O D qv = -1 := by
      have h1 : ¬ (hmCal 21 qv = true ∧ ¬ qv = 0) := by
        intro q
        have q1 : 0 ≤ qv.toInt ∧ qv.toInt < 21 := by simpa [hmCal] using q.1
        have h2 : qv.toInt < (1 : Int32).toInt := Int32.lt_iff_toInt_lt.mp c1
        have e1 : (1 : Int32).toInt = 1 := by decide
        have h3 : qv.toInt = 0 := by omega
        exact q.2 (hm_toInt (k := 0) h3)
      simp only [spOther, if_neg h1]
    rw [← e]
    exact hQ _ hmQf.rf
  · refine Ex_iload_n 6 (i := 1) dX8_other_5 rfl rfl rfl ?_
    refine Ex_bipush 8 (v := 20) dX8_other_6 (by decide) rfl ?_
    refine Ex_icmp_le 11 15 dX8_other_8 (by decide) rfl (fun c2 => ?_) (fun c2 => ?_)
    · have h1 : (1 : Int32).toInt ≤ qv.toInt := Int32.le_iff_toInt_le.mp (Int32.not_lt.mp c1)
      have h2 : qv.toInt ≤ (20 : Int32).toInt := Int32.le_iff_toInt_le.mp c2
      have e1 : (1 : Int32).toInt = 1 := by decide
      have e2 : (20 : Int32).toInt = 20 := by decide
      have hct : hmCal 21 qv = true := by
        simp only [hmCal, decide_eq_true_eq]
        omega
      obtain ⟨w, hw, rfl⟩ := hmCal_of hct
      rw [nI_toInt (by omega)] at h1 h2
      have hix : hmIx (nI w) = w := hmIx_nI (by omega)
      have hn0 : ¬ nI w = 0 := fun q => by
        have := (nI_eq (b := 0) (by omega) (by omega)).mp q
        omega
      refine Ex_aload_n 16 (i := 0) dX8_other_15 rfl rfl rfl ?_
      refine Ex_iload_n 17 (i := 1) dX8_other_16 rfl rfl rfl ?_
      refine Ex_iconst 18 (v := 2) dX8_other_17 (by decide) rfl ?_
      refine Ex_callV (M' := MX8_judgeDay) 21 [.int (nI w), .int 2] (rest := []) dX8_other_18 lX8_174 mX8_judgeDay rfl (xH_0 hx) rfl (Nat.le_of_ble_eq_true rfl) (Nat.le_of_ble_eq_true rfl) rfl ?_
      refine c_judgeDay (tk := w) hx hO ho hD hDk (by omega) (by omega) (fun I1 g1 => ?_)
      simp only [Option.toList, List.nil_append, List.cons_append]
      refine Ex_iret dX8_other_21 rfl rfl (Or.inl rfl) ?_
      have e : spOther O D (nI w) = spJudge O w D 2 := by
        simp only [spOther, if_pos (show hmCal 21 (nI w) = true ∧ ¬ nI w = 0 from ⟨hct, hn0⟩), hix]
      rw [← e]
      exact hQ I1 (hmQf.fd g1)
    · refine Ex_iconst 12 (v := (-1)) dX8_other_11 (by decide) rfl ?_
      refine Ex_goto 21 dX8_other_12 (by decide) ?_
      refine Ex_iret dX8_other_21 rfl rfl (Or.inl rfl) ?_
      have e : spOther O D qv = -1 := by
        have h1 : ¬ (hmCal 21 qv = true ∧ ¬ qv = 0) := by
          intro q
          have q1 : 0 ≤ qv.toInt ∧ qv.toInt < 21 := by simpa [hmCal] using q.1
          have h2 : (20 : Int32).toInt < qv.toInt := Int32.lt_iff_toInt_lt.mp (Int32.not_le.mp c2)
          have e2 : (20 : Int32).toInt = 20 := by decide
          omega
        simp only [spOther, if_neg h1]
      rw [← e]
      exact hQ _ hmQf.rf
