theorem hm_lcmp0 {a : Nat} (ha : a < 2 ^ 63) : (lg_cmp (nL a) 0 = 0 ↔ a = 0) := by
  have e0 : (0 : Int64) = nL 0 := rfl
  unfold lg_cmp
  constructor
  · intro h
    by_cases e : a = 0
    · exact e
    · exfalso
      have h1 : (0 : Int64) < nL a := by
        rw [Int64.lt_iff_toInt_lt, e0, nL_toInt (by omega), nL_toInt (by omega)]
        omega
      have h2 : ¬ nL a < 0 := fun q => by
        rw [Int64.lt_iff_toInt_lt, e0, nL_toInt (by omega), nL_toInt (by omega)] at q
        omega
      simp [h1, h2] at h
  · intro h
    subst h
    decide
set_option maxHeartbeats 4000000 in
theorem c_drawAfter {d : Nat} {sh : xSh} {R : xR} {L : xL} {I : xI} {Q : xQ} {n : Nat} (hn : n < 2147483648) (hQ : Q (some (.long (nL (hmDraw n)))) 0 sh R L I) : Ex d 0 0 MX8_drawAfter 0 sh R L I 0 [some (.long (nL n)), none] [] Q := by
  refine Ex_lload_n 1 (i := 0) dX8_drawAfter_0 rfl rfl rfl ?_
  refine Ex_ldc2 4 (v := 1103515245) dX8_drawAfter_1 kX8_329 rfl ?_
  refine Ex_lmul 5 dX8_drawAfter_4 rfl ?_
  refine Ex_ldc2 8 (v := 12345) dX8_drawAfter_5 kX8_331 rfl ?_
  refine Ex_ladd 9 dX8_drawAfter_8 rfl ?_
  refine Ex_ldc2 12 (v := 2147483648) dX8_drawAfter_9 kX8_333 rfl ?_
  refine Ex_lrem 13 dX8_drawAfter_12 (by decide) rfl ?_
  refine Ex_lret dX8_drawAfter_13 rfl (Or.inl rfl) ?_
  rw [hm_draw hn]
  exact hQ
set_option maxHeartbeats 4000000 in
theorem c_actByDraw {d : Nat} {sh : xSh} {R : xR} {L : xL} {I : xI} {Q : xQ} {h dk dd pl pd : Nat} {O : hmO} {H : hmH} (hx : xHM sh R h dk dd pl pd) (hO : hmD I dk O) (ho : hmOok O) (hH : hmR I (h + 35) H) (hok : hmOk O H) {n : Nat} (hn : n < 2147483648) (hQ : ∀ I', hmFd (h + 35) dk I I' → hmR I' (h + 35) (hmAct O H n).1 → Q (some (.long (nL (hmAct O H n).2))) 0 sh R L I') : Ex (d + 2) 0 0 MX8_actByDraw 0 sh R L I 0 [some (.ref h), some (.long (nL n)), none, none, none, none] [] Q := by
  obtain ⟨on, otk, ow, olen, olaw⟩ := id hO
  have o6 := ho.1
  have h6 := hH.1
  have hdd := xH_27 hx
  have hd1 := hmDraw_lt n
  have hd2 := hmDraw_lt (hmDraw n)
  have hlN : ∀ x, x ∈ hmLine H → x < 6 := fun x hx => by
    have := hok.2.1 x hx
    omega
  refine Ex_aload_n 1 (i := 0) dX8_actByDraw_0 rfl rfl rfl ?_
  refine Ex_getR 4 dX8_actByDraw_1 fX8_19 (xH_0 hx) rfl (xH_2 hx) rfl ?_
  refine Ex_gI 7 (I dk 6) dX8_actByDraw_4 fX8_187 (xH_14 hx).1 rfl rfl rfl ?_
  rw [on]
  refine Ex_if_ne 10 12 dX8_actByDraw_7 (by decide) rfl (fun c1 => ?_) (fun c1 => ?_)
  · have hN0 : hmN O ≠ 0 := fun q => c1 (by rw [q]; rfl)
    obtain ⟨w, ew⟩ : ∃ w, hmWhom (hmN O) (hmDraw n) = w := ⟨_, rfl⟩
    have hw : w < hmN O := by rw [← ew]; exact hmWhom_lt (by omega)
    have hnz : nL (hmN O) ≠ 0 := fun q => by
      have h1 := congrArg Int64.toInt q
      rw [nL_toInt (by omega)] at h1
      have e0 : (0 : Int64).toInt = 0 := by decide
      omega
    refine Ex_lload_n 13 (i := 1) dX8_actByDraw_12 rfl rfl rfl ?_
    refine Ex_callS (M' := MX8_drawAfter) 16 [.long (nL n)] (rest := []) dX8_actByDraw_13 lX8_335 mX8_drawAfter rfl rfl (Nat.le_of_ble_eq_true rfl) (Nat.le_of_ble_eq_true rfl) rfl ?_
    refine c_drawAfter (n := n) hn ?_
    simp only [Option.toList, List.cons_append, List.nil_append]
    refine Ex_lstore_n 17 (i := 3) (ls' := [some (.ref h), some (.long (nL n)), none, some (.long (nL (hmDraw n))), none, none]) dX8_actByDraw_16 rfl (Nat.le_of_ble_eq_true rfl) rfl rfl rfl ?_
    refine Ex_lload_n 18 (i := 3) dX8_actByDraw_17 rfl rfl rfl ?_
    refine Ex_ldc2 21 (v := 65536) dX8_actByDraw_18 kX8_338 rfl ?_
    refine Ex_ldiv 22 dX8_actByDraw_21 (by decide) rfl ?_
    refine Ex_aload_n 23 (i := 0) dX8_actByDraw_22 rfl rfl rfl ?_
    refine Ex_getR 26 dX8_actByDraw_23 fX8_19 (xH_0 hx) rfl (xH_2 hx) rfl ?_
    refine Ex_gI 29 (I dk 6) dX8_actByDraw_26 fX8_187 (xH_14 hx).1 rfl rfl rfl ?_
    rw [on]
    refine Ex_i2l 30 dX8_actByDraw_29 rfl ?_
    rw [hm_i2l (by omega)]
    refine Ex_lrem 31 dX8_actByDraw_30 hnz rfl ?_
    rw [hm_whom hd1 o6, ew]
    refine Ex_l2i 32 dX8_actByDraw_31 rfl ?_
    rw [hm_l2i (by omega)]
    refine Ex_istore 34 (ls' := [some (.ref h), some (.long (nL n)), none, some (.long (nL (hmDraw n))), none, some (.int (nI w))]) dX8_actByDraw_32 (Nat.le_of_ble_eq_true rfl) rfl rfl rfl ?_
    refine Ex_aload_n 35 (i := 0) dX8_actByDraw_34 rfl rfl rfl ?_
    refine Ex_getR 38 dX8_actByDraw_35 fX8_43 (xH_0 hx) rfl (xH_7 hx) rfl ?_
    refine Ex_iload 40 dX8_actByDraw_38 rfl rfl ?_
    refine Ex_callV (M' := MX1_canRing) 43 [.int (nI w)] (rest := []) dX8_actByDraw_40 lX8_133 mX1_canRing rfl (xH_19 hx).1 rfl (Nat.le_of_ble_eq_true rfl) (Nat.le_of_ble_eq_true rfl) rfl ?_
    refine c_canRing (xH_19 hx) hH (by omega) (fun x hx => by have := hlN x hx; omega) ?_
    simp only [Option.toList, List.cons_append, List.nil_append]
    refine Ex_if_eq 46 58 dX8_actByDraw_43 (by decide) rfl (fun c2 => ?_) (fun c2 => ?_)
    · refine Ex_aload_n 59 (i := 0) dX8_actByDraw_58 rfl rfl rfl ?_
      refine Ex_getR 62 dX8_actByDraw_59 fX8_43 (xH_0 hx) rfl (xH_7 hx) rfl ?_
      refine Ex_iload 64 dX8_actByDraw_62 rfl rfl ?_
      refine Ex_callV (M' := MX1_placeOf) 67 [.int (nI w)] (rest := []) dX8_actByDraw_64 lX8_115 mX1_placeOf rfl (xH_19 hx).1 rfl (Nat.le_of_ble_eq_true rfl) (Nat.le_of_ble_eq_true rfl) rfl ?_
      refine c_placeOf (xH_19 hx) hH (by omega) (fun x hx => by have := hlN x hx; omega) ?_
      simp only [Option.toList, List.cons_append, List.nil_append]
      refine Ex_iconst 68 (v := (-1)) dX8_actByDraw_67 (by decide) rfl ?_
      refine Ex_icmp_eq 71 99 dX8_actByDraw_68 (by decide) rfl (fun c3 => ?_) (fun c3 => ?_)
      · refine Ex_lload_n 100 (i := 3) dX8_actByDraw_99 rfl rfl rfl ?_
        refine Ex_lret dX8_actByDraw_100 rfl (Or.inl rfl) ?_
        have hni := (hmPlc_ne (by omega)).mp c3
        have e : hmAct O H n = (H, hmDraw n) := by
          unfold hmAct
          rw [if_neg hN0, ew, if_neg (by rw [hmB_eq c2]; decide), if_neg hni]
        rw [e] at hQ
        exact hQ I .rf hH
      · refine Ex_lload_n 72 (i := 3) dX8_actByDraw_71 rfl rfl rfl ?_
        refine Ex_callS (M' := MX8_drawAfter) 75 [.long (nL (hmDraw n))] (rest := []) dX8_actByDraw_72 lX8_335 mX8_drawAfter rfl rfl (Nat.le_of_ble_eq_true rfl) (Nat.le_of_ble_eq_true rfl) rfl ?_
        refine c_drawAfter (n := (hmDraw n)) hd1 ?_
        simp only [Option.toList, List.cons_append, List.nil_append]
        refine Ex_lstore_n 76 (i := 3) (ls' := [some (.ref h), some (.long (nL n)), none, some (.long (nL (hmDraw (hmDraw n)))), none, some (.int (nI w))]) dX8_actByDraw_75 rfl (Nat.le_of_ble_eq_true rfl) rfl rfl rfl ?_
        refine Ex_lload_n 77 (i := 3) dX8_actByDraw_76 rfl rfl rfl ?_
        refine Ex_ldc2 80 (v := 65536) dX8_actByDraw_77 kX8_338 rfl ?_
        refine Ex_ldiv 81 dX8_actByDraw_80 (by decide) rfl ?_
        refine Ex_ldc2 84 (v := 4) dX8_actByDraw_81 kX8_340 rfl ?_
        refine Ex_lrem 85 dX8_actByDraw_84 (by decide) rfl ?_
        rw [show (4 : Int64) = nL 4 from rfl, hm_whom hd2 (by omega)]
        refine Ex_lconst 86 (v := 0) dX8_actByDraw_85 rfl rfl ?_
        have hq4 := hmWhom_lt (k := 4) (g := hmDraw (hmDraw n)) (by omega)
        refine Ex_lcmp 87 dX8_actByDraw_86 rfl ?_
        refine Ex_if_ne 90 99 dX8_actByDraw_87 (by decide) rfl (fun c4 => ?_) (fun c4 => ?_)
        · refine Ex_lload_n 100 (i := 3) dX8_actByDraw_99 rfl rfl rfl ?_
          refine Ex_lret dX8_actByDraw_100 rfl (Or.inl rfl) ?_
          have hwm : w ∈ hmLine H := by
            by_cases z : w ∈ hmLine H
            · exact z
            · exact absurd ((hmPlc_ne (by omega)).mpr z) c3
          have h0 : ¬ hmWhom 4 (hmDraw (hmDraw n)) = 0 := fun q => c4 ((hm_lcmp0 (by omega)).mpr q)
          have e : hmAct O H n = (H, hmDraw (hmDraw n)) := by
            unfold hmAct
            rw [if_neg hN0, ew, if_neg (by rw [hmB_eq c2]; decide), if_pos hwm, if_neg h0]
          rw [e] at hQ
          exact hQ I .rf hH
        · refine Ex_aload_n 91 (i := 0) dX8_actByDraw_90 rfl rfl rfl ?_
          refine Ex_getR 94 dX8_actByDraw_91 fX8_43 (xH_0 hx) rfl (xH_7 hx) rfl ?_
          refine Ex_iload 96 dX8_actByDraw_94 rfl rfl ?_
          refine Ex_callV (M' := MX1_leave) 99 [.int (nI w)] (rest := []) dX8_actByDraw_96 lX8_146 mX1_leave rfl (xH_19 hx).1 rfl (Nat.le_of_ble_eq_true rfl) (Nat.le_of_ble_eq_true rfl) rfl ?_
          refine c_leave (xH_19 hx) hH (by omega) hlN (fun I1 hF1 hH1 => ?_)
          have g1 : hmFd (h + 35) dk I I1 := hmFd.of (fun x a => hF1 x (fun q => a (by unfold hmIn at q; omega)))
          simp only [Option.toList, List.nil_append, List.cons_append]
          refine Ex_lload_n 100 (i := 3) dX8_actByDraw_99 rfl rfl rfl ?_
          refine Ex_lret dX8_actByDraw_100 rfl (Or.inl rfl) ?_
          have hwm : w ∈ hmLine H := by
            by_cases z : w ∈ hmLine H
            · exact z
            · exact absurd ((hmPlc_ne (by omega)).mpr z) c3
          have h0 : hmWhom 4 (hmDraw (hmDraw n)) = 0 := (hm_lcmp0 (by omega)).mp c4
          have e : hmAct O H n = (hmLeave H w, hmDraw (hmDraw n)) := by
            unfold hmAct
            rw [if_neg hN0, ew, if_neg (by rw [hmB_eq c2]; decide), if_pos hwm, if_pos h0]
          rw [e] at hQ
          exact hQ I1 g1 hH1
    · refine Ex_aload_n 47 (i := 0) dX8_actByDraw_46 rfl rfl rfl ?_
      refine Ex_getR 50 dX8_actByDraw_47 fX8_43 (xH_0 hx) rfl (xH_7 hx) rfl ?_
      refine Ex_iload 52 dX8_actByDraw_50 rfl rfl ?_
      refine Ex_callV (M' := MX1_comeToEnd) 55 [.int (nI w)] (rest := []) dX8_actByDraw_52 lX8_139 mX1_comeToEnd rfl (xH_19 hx).1 rfl (Nat.le_of_ble_eq_true rfl) (Nat.le_of_ble_eq_true rfl) rfl ?_
      have hcan := hmB_ne c2
      have hni : w ∉ hmLine H := by
        have h2 : hmBit (hmSet H) w = false ∧ w ∉ hmLine H := by simpa [hmCanRing] using hcan
        exact h2.2
      have hroom := hmOk_room hok ho hw hni
      refine c_comeToEnd (xH_19 hx) hH (by omega) hroom (fun I1 hF1 hH1 => ?_)
      have g1 : hmFd (h + 35) dk I I1 := hmFd.of (fun x a => hF1 x (fun q => a (by unfold hmIn at q; omega)))
      simp only [Option.toList, List.nil_append, List.cons_append]
      refine Ex_goto 99 dX8_actByDraw_55 (by decide) ?_
      refine Ex_lload_n 100 (i := 3) dX8_actByDraw_99 rfl rfl rfl ?_
      refine Ex_lret dX8_actByDraw_100 rfl (Or.inl rfl) ?_
      have e : hmAct O H n = (hmCome H w, hmDraw n) := by
        unfold hmAct
        rw [if_neg hN0, ew, if_pos hcan]
      rw [e] at hQ
      exact hQ I1 g1 hH1
  · refine Ex_lload_n 11 (i := 1) dX8_actByDraw_10 rfl rfl rfl ?_
    refine Ex_lret dX8_actByDraw_11 rfl (Or.inl rfl) ?_
    have hN0 : hmN O = 0 := (nI_eq (b := 0) (by omega) (by omega)).mp c1
    have e : hmAct O H n = (H, n) := if_pos hN0
    rw [e] at hQ
    exact hQ I .rf hH
set_option maxHeartbeats 4000000 in
theorem c_days_loop {d : Nat} {sh : xSh} {R : xR} {L : xL} {I : xI} {Q : xQ} {h dk dd pl pd : Nat} {O : hmO} {H : hmH} (hx : xHM sh R h dk dd pl pd) (hO : hmD I dk O) (ho : hmOok O) (hok : hmOk O H) (hmn : hmMin H < 800000) {s u : Nat} (hs : s < 10000) (hu : u < 100) {qw : Int32} (hQ : ∀ I', hmFd (h + 35) dk I I' → Q (some (.int (if qw = 0 then (hmRun O H s u).2.2 else if qw = 1 then hmBits (hmLine (hmRun O H s u).1) else hmAll (hmHas (hmRun O H s u).1) (hmN O)))) 0 sh R L I') : ∀ n k J, n + k = u → hmFd (h + 35) dk I J → hmR J (h + 35) (hmRun O H s k).1 → Ex (d + 4) 0 0 MX8_days 0 sh R L J 66 [some (.ref h), some (.int (nI s)), some (.int (nI u)), some (.int qw), some (.int 1), some (.long (nL (hmRun O H s k).2.1)), none, some (.int ((hmRun O H s k).2.2)), some (.int (nI k))] [] Q := by
  have hdd := xH_27 hx
  intro n
  induction n with
  | zero =>
    intro k J hk gJ hHJ
    have hOJ : hmD J dk O := hO.fd gJ (by omega)
    obtain ⟨on, otk, ow, olen, olaw⟩ := id hOJ
    have o6 := ho.1
    obtain ⟨hokJ, hmJ, hgJ⟩ := hmRun_ok (s := s) hok ho (by omega) k
    have hku : k = u := by omega
    subst hku
    refine Ex_iload 68 dX8_days_66 rfl rfl ?_
    refine Ex_iload_n 69 (i := 2) dX8_days_68 rfl rfl rfl ?_
    refine Ex_icmp_ge 72 112 dX8_days_69 (by decide) rfl (fun c1 => ?_) (fun c1 => absurd c1 (fun q => q (nI_le (by omega) (by omega))))
    refine Ex_iload_n 113 (i := 3) dX8_days_112 rfl rfl rfl ?_
    refine Ex_if_ne 116 119 dX8_days_113 (by decide) rfl (fun c2 => ?_) (fun c2 => ?_)
    · refine Ex_iload_n 120 (i := 3) dX8_days_119 rfl rfl rfl ?_
      refine Ex_iconst 121 (v := 1) dX8_days_120 (by decide) rfl ?_
      refine Ex_icmp_ne 124 134 dX8_days_121 (by decide) rfl (fun c3 => ?_) (fun c3 => ?_)
      · refine Ex_aload_n 135 (i := 0) dX8_days_134 rfl rfl rfl ?_
        refine Ex_getR 138 dX8_days_135 fX8_43 (xH_0 hx) rfl (xH_7 hx) rfl ?_
        refine Ex_aload_n 139 (i := 0) dX8_days_138 rfl rfl rfl ?_
        refine Ex_getR 142 dX8_days_139 fX8_19 (xH_0 hx) rfl (xH_2 hx) rfl ?_
        refine Ex_gI 145 (J dk 6) dX8_days_142 fX8_187 (xH_14 hx).1 rfl rfl rfl ?_
        rw [on]
        refine Ex_callV (M' := MX1_answersInAll) 148 [.int (nI (hmN O))] (rest := []) dX8_days_145 lX8_268 mX1_answersInAll rfl (xH_19 hx).1 rfl (Nat.le_of_ble_eq_true rfl) (Nat.le_of_ble_eq_true rfl) rfl ?_
        refine c_answersInAll (n := hmN O) (f := hmHas (hmRun O H s k).1) (xH_19 hx) (fun w hw => hHJ.2.2.2.2.2.2.1 w (by omega)) (fun w hw => hokJ.2.2.1 w (by omega)) o6 ?_
        simp only [Option.toList, List.cons_append, List.nil_append]
        refine Ex_iret dX8_days_148 rfl rfl (Or.inl rfl) ?_
        have e : (if qw = 0 then (hmRun O H s k).2.2 else if qw = 1 then hmBits (hmLine (hmRun O H s k).1) else hmAll (hmHas (hmRun O H s k).1) (hmN O)) = hmAll (hmHas (hmRun O H s k).1) (hmN O) := by
          rw [if_neg c2, if_neg c3]
        rw [← e]
        exact hQ J gJ
      · refine Ex_aload_n 125 (i := 0) dX8_days_124 rfl rfl rfl ?_
        refine Ex_getR 128 dX8_days_125 fX8_43 (xH_0 hx) rfl (xH_7 hx) rfl ?_
        refine Ex_callV (M' := MX1_lineBits) 131 [] (rest := []) dX8_days_128 lX8_215 mX1_lineBits rfl (xH_19 hx).1 rfl (Nat.le_of_ble_eq_true rfl) (Nat.le_of_ble_eq_true rfl) rfl ?_
        refine c_lineBits (xH_19 hx) hHJ ?_
        simp only [Option.toList, List.cons_append, List.nil_append]
        refine Ex_goto 148 dX8_days_131 (by decide) ?_
        refine Ex_iret dX8_days_148 rfl rfl (Or.inl rfl) ?_
        have e : (if qw = 0 then (hmRun O H s k).2.2 else if qw = 1 then hmBits (hmLine (hmRun O H s k).1) else hmAll (hmHas (hmRun O H s k).1) (hmN O)) = hmBits (hmLine (hmRun O H s k).1) := by
          rw [if_neg c2, if_pos c3]
        rw [← e]
        exact hQ J gJ
    · refine Ex_iload 118 dX8_days_116 rfl rfl ?_
      refine Ex_iret dX8_days_118 rfl rfl (Or.inl rfl) ?_
      have e : (if qw = 0 then (hmRun O H s k).2.2 else if qw = 1 then hmBits (hmLine (hmRun O H s k).1) else hmAll (hmHas (hmRun O H s k).1) (hmN O)) = (hmRun O H s k).2.2 := by
        rw [if_pos c2]
      rw [← e]
      exact hQ J gJ
  | succ n ih =>
    intro k J hk gJ hHJ
    have hOJ : hmD J dk O := hO.fd gJ (by omega)
    obtain ⟨on, otk, ow, olen, olaw⟩ := id hOJ
    have o6 := ho.1
    obtain ⟨hokJ, hmJ, hgJ⟩ := hmRun_ok (s := s) hok ho (by omega) k
    refine Ex_iload 68 dX8_days_66 rfl rfl ?_
    refine Ex_iload_n 69 (i := 2) dX8_days_68 rfl rfl rfl ?_
    refine Ex_icmp_ge 72 112 dX8_days_69 (by decide) rfl (fun c1 => absurd c1 (nI_ge (by omega) (by omega))) (fun c1 => ?_)
    refine Ex_aload_n 73 (i := 0) dX8_days_72 rfl rfl rfl ?_
    refine Ex_lload 75 dX8_days_73 rfl rfl ?_
    refine Ex_callV (M' := MX8_actByDraw) 78 [.long (nL (hmRun O H s k).2.1)] (rest := []) dX8_days_75 lX8_264 mX8_actByDraw rfl (xH_0 hx) rfl (Nat.le_of_ble_eq_true rfl) (Nat.le_of_ble_eq_true rfl) rfl ?_
    refine c_actByDraw hx hOJ ho hHJ hokJ hgJ (fun I1 g1 hH1 => ?_)
    obtain ⟨a1, a2, a3⟩ := hmAct_ok hokJ ho hgJ
    have gJ1 := gJ.tr g1
    have hO1 : hmD I1 dk O := hO.fd gJ1 (by omega)
    simp only [Option.toList, List.nil_append, List.cons_append]
    refine Ex_lstore 80 (ls' := [some (.ref h), some (.int (nI s)), some (.int (nI u)), some (.int qw), some (.int 1), some (.long (nL (hmAct O (hmRun O H s k).1 (hmRun O H s k).2.1).2)), none, some (.int ((hmRun O H s k).2.2)), some (.int (nI k))]) dX8_days_78 (Nat.le_of_ble_eq_true rfl) rfl rfl rfl ?_
    refine Ex_iload 82 dX8_days_80 rfl rfl ?_
    refine Ex_aload_n 83 (i := 0) dX8_days_82 rfl rfl rfl ?_
    refine Ex_getR 86 dX8_days_83 fX8_43 (xH_0 hx) rfl (xH_7 hx) rfl ?_
    refine Ex_aload_n 87 (i := 0) dX8_days_86 rfl rfl rfl ?_
    refine Ex_getR 90 dX8_days_87 fX8_19 (xH_0 hx) rfl (xH_2 hx) rfl ?_
    refine Ex_aload_n 91 (i := 0) dX8_days_90 rfl rfl rfl ?_
    refine Ex_getR 94 dX8_days_91 fX8_19 (xH_0 hx) rfl (xH_2 hx) rfl ?_
    refine Ex_gI 97 (I1 dk 7) dX8_days_94 fX8_153 (xH_14 hx).1 rfl rfl rfl ?_
    rw [hO1.2.1]
    refine Ex_callV (M' := MX1_passMinute) 100 [.ref dk, .int (nI (hmTk O))] (rest := [.int ((hmRun O H s k).2.2)]) dX8_days_97 lX8_156 mX1_passMinute rfl (xH_19 hx).1 rfl (Nat.le_of_ble_eq_true rfl) (Nat.le_of_ble_eq_true rfl) rfl ?_
    refine c_passMinute (xH_19 hx) (xH_14 hx) (by omega) hH1 hO1 ho a1 ho.2.1 ho.2.2.1 (by omega) (fun I2 g2 hH2 => ?_)
    have hs2 : hmS6 (hmSet (hmMinute O (hmTk O) (hmAct O (hmRun O H s k).1 (hmRun O H s k).2.1).1) &&& (hmSet (hmAct O (hmRun O H s k).1 (hmRun O H s k).2.1).1 ^^^ -1)) := hm_s6_and (hmOk_minute a1 ho).2.2.2.1
    simp only [Option.toList, List.nil_append, List.cons_append]
    refine Ex_callS (M' := MJ6_bitCount_0f7a4) 103 [.int (hmSet (hmMinute O (hmTk O) (hmAct O (hmRun O H s k).1 (hmRun O H s k).2.1).1) &&& (hmSet (hmAct O (hmRun O H s k).1 (hmRun O H s k).2.1).1 ^^^ -1))] (rest := [.int ((hmRun O H s k).2.2)]) dX8_days_100 lX8_203 mJ6_bitCount_0f7a4 rfl rfl (Nat.le_of_ble_eq_true rfl) (Nat.le_of_ble_eq_true rfl) rfl ?_
    refine c_bitCountS (hm_s610 hs2) ?_
    simp only [Option.toList, List.cons_append, List.nil_append]
    refine Ex_iadd 104 dX8_days_103 rfl ?_
    refine Ex_istore 106 (ls' := [some (.ref h), some (.int (nI s)), some (.int (nI u)), some (.int qw), some (.int 1), some (.long (nL (hmAct O (hmRun O H s k).1 (hmRun O H s k).2.1).2)), none, some (.int (((hmRun O H s k).2.2) + (hmCnt (hmSet (hmMinute O (hmTk O) (hmAct O (hmRun O H s k).1 (hmRun O H s k).2.1).1) &&& (hmSet (hmAct O (hmRun O H s k).1 (hmRun O H s k).2.1).1 ^^^ -1))))), some (.int (nI k))]) dX8_days_104 (Nat.le_of_ble_eq_true rfl) rfl rfl rfl ?_
    refine Ex_iinc 109 (v := (nI (k + 1))) (ls' := [some (.ref h), some (.int (nI s)), some (.int (nI u)), some (.int qw), some (.int 1), some (.long (nL (hmAct O (hmRun O H s k).1 (hmRun O H s k).2.1).2)), none, some (.int (((hmRun O H s k).2.2) + (hmCnt (hmSet (hmMinute O (hmTk O) (hmAct O (hmRun O H s k).1 (hmRun O H s k).2.1).1) &&& (hmSet (hmAct O (hmRun O H s k).1 (hmRun O H s k).2.1).1 ^^^ -1))))), some (.int (nI (k + 1)))]) dX8_days_106 rfl (xinc _) (Nat.le_of_ble_eq_true rfl) rfl rfl rfl ?_
    refine Ex_goto 66 dX8_days_109 (by decide) ?_
    exact ih (k + 1) I2 (by omega) (gJ1.tr g2) hH2
set_option maxHeartbeats 4000000 in
theorem c_days {d : Nat} {sh : xSh} {R : xR} {L : xL} {I : xI} {Q : xQ} {h dk dd pl pd : Nat} {O : hmO} {H : hmH} (hx : xHM sh R h dk dd pl pd) (hO : hmD I dk O) (ho : hmOok O) (hH : hmR I (h + 30) H) (hok : hmOk O H) (hmn : hmMin H < 800000) {qv qu qw : Int32} (hQ : ∀ I', hmQf h dk I I' → Q (some (.int (spDays O H qv qu qw))) 0 sh R L I') : Ex (d + 4) 0 0 MX8_days 0 sh R L I 0 [some (.ref h), some (.int qv), some (.int qu), some (.int qw), none, none, none, none, none] [] Q := by
  obtain ⟨h6, hlen, hset, htak, hmin, hline, hhas, hheld, htalk⟩ := id hH
  obtain ⟨on, otk, ow, olen, olaw⟩ := id hO
  obtain ⟨o6, ot1, ot2, oo, oll, owf⟩ := id ho
  have hdd := xH_27 hx
  have hlN := hok.2.1
  refine Ex_iload_n 1 (i := 1) dX8_days_0 rfl rfl rfl ?_
  refine Ex_if_lt 4 26 dX8_days_1 (by decide) rfl (fun c1 => ?_) (fun c1 => ?_)
  · refine Ex_iconst 27 (v := 0) dX8_days_26 (by decide) rfl ?_
    refine Ex_istore 29 (ls' := [some (.ref h), some (.int qv), some (.int qu), some (.int qw), some (.int 0), none, none, none, none]) dX8_days_27 (Nat.le_of_ble_eq_true rfl) rfl rfl rfl ?_
    refine Ex_iload 31 dX8_days_29 rfl rfl ?_
    refine Ex_if_eq 34 43 dX8_days_31 (by decide) rfl (fun c2 => ?_) (fun c2 => absurd c2 (fun q => q (by decide)))
    refine Ex_iconst 44 (v := (-1)) dX8_days_43 (by decide) rfl ?_
    refine Ex_iret dX8_days_44 rfl rfl (Or.inl rfl) ?_
    have hno : ¬ (hmCal 10000 qv = true ∧ (hmCal 100 qu = true ∧ ¬ qu = 0) ∧ hmCal 3 qw = true) := by
      intro q
      have q1 : 0 ≤ qv.toInt ∧ qv.toInt < 10000 := by simpa [hmCal] using q.1
      have q2 : 0 ≤ qu.toInt ∧ qu.toInt < 100 := by simpa [hmCal] using q.2.1.1
      have q3 : ¬ qu.toInt = 0 := fun z => q.2.1.2 (Int32.toInt_inj.mp (z.trans (by decide)))
      have q4 : 0 ≤ qw.toInt ∧ qw.toInt < 3 := by simpa [hmCal] using q.2.2
      have hc := Int32.lt_iff_toInt_lt.mp c1
      have el : (0 : Int32).toInt = 0 := by decide
      omega
    have e : spDays O H qv qu qw = -1 := by
      unfold spDays
      rw [if_neg hno]
    rw [← e]
    exact hQ _ hmQf.rf
  · refine Ex_iload_n 5 (i := 1) dX8_days_4 rfl rfl rfl ?_
    refine Ex_sipush 8 (v := 9999) dX8_days_5 (by decide) rfl ?_
    refine Ex_icmp_gt 11 26 dX8_days_8 (by decide) rfl (fun c3 => ?_) (fun c3 => ?_)
    · refine Ex_iconst 27 (v := 0) dX8_days_26 (by decide) rfl ?_
      refine Ex_istore 29 (ls' := [some (.ref h), some (.int qv), some (.int qu), some (.int qw), some (.int 0), none, none, none, none]) dX8_days_27 (Nat.le_of_ble_eq_true rfl) rfl rfl rfl ?_
      refine Ex_iload 31 dX8_days_29 rfl rfl ?_
      refine Ex_if_eq 34 43 dX8_days_31 (by decide) rfl (fun c4 => ?_) (fun c4 => absurd c4 (fun q => q (by decide)))
      refine Ex_iconst 44 (v := (-1)) dX8_days_43 (by decide) rfl ?_
      refine Ex_iret dX8_days_44 rfl rfl (Or.inl rfl) ?_
      have hno : ¬ (hmCal 10000 qv = true ∧ (hmCal 100 qu = true ∧ ¬ qu = 0) ∧ hmCal 3 qw = true) := by
        intro q
        have q1 : 0 ≤ qv.toInt ∧ qv.toInt < 10000 := by simpa [hmCal] using q.1
        have q2 : 0 ≤ qu.toInt ∧ qu.toInt < 100 := by simpa [hmCal] using q.2.1.1
        have q3 : ¬ qu.toInt = 0 := fun z => q.2.1.2 (Int32.toInt_inj.mp (z.trans (by decide)))
        have q4 : 0 ≤ qw.toInt ∧ qw.toInt < 3 := by simpa [hmCal] using q.2.2
        have hc := Int32.lt_iff_toInt_lt.mp c3
        have el : (9999 : Int32).toInt = 9999 := by decide
        omega
      have e : spDays O H qv qu qw = -1 := by
        unfold spDays
        rw [if_neg hno]
      rw [← e]
      exact hQ _ hmQf.rf
    · refine Ex_iload_n 12 (i := 2) dX8_days_11 rfl rfl rfl ?_
      refine Ex_iconst 13 (v := 1) dX8_days_12 (by decide) rfl ?_
      refine Ex_icmp_lt 16 26 dX8_days_13 (by decide) rfl (fun c5 => ?_) (fun c5 => ?_)
      · refine Ex_iconst 27 (v := 0) dX8_days_26 (by decide) rfl ?_
        refine Ex_istore 29 (ls' := [some (.ref h), some (.int qv), some (.int qu), some (.int qw), some (.int 0), none, none, none, none]) dX8_days_27 (Nat.le_of_ble_eq_true rfl) rfl rfl rfl ?_
        refine Ex_iload 31 dX8_days_29 rfl rfl ?_
        refine Ex_if_eq 34 43 dX8_days_31 (by decide) rfl (fun c6 => ?_) (fun c6 => absurd c6 (fun q => q (by decide)))
        refine Ex_iconst 44 (v := (-1)) dX8_days_43 (by decide) rfl ?_
        refine Ex_iret dX8_days_44 rfl rfl (Or.inl rfl) ?_
        have hno : ¬ (hmCal 10000 qv = true ∧ (hmCal 100 qu = true ∧ ¬ qu = 0) ∧ hmCal 3 qw = true) := by
          intro q
          have q1 : 0 ≤ qv.toInt ∧ qv.toInt < 10000 := by simpa [hmCal] using q.1
          have q2 : 0 ≤ qu.toInt ∧ qu.toInt < 100 := by simpa [hmCal] using q.2.1.1
          have q3 : ¬ qu.toInt = 0 := fun z => q.2.1.2 (Int32.toInt_inj.mp (z.trans (by decide)))
          have q4 : 0 ≤ qw.toInt ∧ qw.toInt < 3 := by simpa [hmCal] using q.2.2
          have hc := Int32.lt_iff_toInt_lt.mp c5
          have el : (1 : Int32).toInt = 1 := by decide
          omega
        have e : spDays O H qv qu qw = -1 := by
          unfold spDays
          rw [if_neg hno]
        rw [← e]
        exact hQ _ hmQf.rf
      · refine Ex_iload_n 17 (i := 2) dX8_days_16 rfl rfl rfl ?_
        refine Ex_bipush 19 (v := 99) dX8_days_17 (by decide) rfl ?_
        refine Ex_icmp_gt 22 26 dX8_days_19 (by decide) rfl (fun c7 => ?_) (fun c7 => ?_)
        · refine Ex_iconst 27 (v := 0) dX8_days_26 (by decide) rfl ?_
          refine Ex_istore 29 (ls' := [some (.ref h), some (.int qv), some (.int qu), some (.int qw), some (.int 0), none, none, none, none]) dX8_days_27 (Nat.le_of_ble_eq_true rfl) rfl rfl rfl ?_
          refine Ex_iload 31 dX8_days_29 rfl rfl ?_
          refine Ex_if_eq 34 43 dX8_days_31 (by decide) rfl (fun c8 => ?_) (fun c8 => absurd c8 (fun q => q (by decide)))
          refine Ex_iconst 44 (v := (-1)) dX8_days_43 (by decide) rfl ?_
          refine Ex_iret dX8_days_44 rfl rfl (Or.inl rfl) ?_
          have hno : ¬ (hmCal 10000 qv = true ∧ (hmCal 100 qu = true ∧ ¬ qu = 0) ∧ hmCal 3 qw = true) := by
            intro q
            have q1 : 0 ≤ qv.toInt ∧ qv.toInt < 10000 := by simpa [hmCal] using q.1
            have q2 : 0 ≤ qu.toInt ∧ qu.toInt < 100 := by simpa [hmCal] using q.2.1.1
            have q3 : ¬ qu.toInt = 0 := fun z => q.2.1.2 (Int32.toInt_inj.mp (z.trans (by decide)))
            have q4 : 0 ≤ qw.toInt ∧ qw.toInt < 3 := by simpa [hmCal] using q.2.2
            have hc := Int32.lt_iff_toInt_lt.mp c7
            have el : (99 : Int32).toInt = 99 := by decide
            omega
          have e : spDays O H qv qu qw = -1 := by
            unfold spDays
            rw [if_neg hno]
          rw [← e]
          exact hQ _ hmQf.rf
        · refine Ex_iconst 23 (v := 1) dX8_days_22 (by decide) rfl ?_
          refine Ex_goto 27 dX8_days_23 (by decide) ?_
          refine Ex_istore 29 (ls' := [some (.ref h), some (.int qv), some (.int qu), some (.int qw), some (.int 1), none, none, none, none]) dX8_days_27 (Nat.le_of_ble_eq_true rfl) rfl rfl rfl ?_
          refine Ex_iload 31 dX8_days_29 rfl rfl ?_
          refine Ex_if_eq 34 43 dX8_days_31 (by decide) rfl (fun c9 => absurd c9 (by decide)) (fun c9 => ?_)
          refine Ex_iload_n 35 (i := 3) dX8_days_34 rfl rfl rfl ?_
          refine Ex_if_lt 38 43 dX8_days_35 (by decide) rfl (fun c10 => ?_) (fun c10 => ?_)
          · refine Ex_iconst 44 (v := (-1)) dX8_days_43 (by decide) rfl ?_
            refine Ex_iret dX8_days_44 rfl rfl (Or.inl rfl) ?_
            have hno : ¬ (hmCal 10000 qv = true ∧ (hmCal 100 qu = true ∧ ¬ qu = 0) ∧ hmCal 3 qw = true) := by
              intro q
              have q1 : 0 ≤ qv.toInt ∧ qv.toInt < 10000 := by simpa [hmCal] using q.1
              have q2 : 0 ≤ qu.toInt ∧ qu.toInt < 100 := by simpa [hmCal] using q.2.1.1
              have q3 : ¬ qu.toInt = 0 := fun z => q.2.1.2 (Int32.toInt_inj.mp (z.trans (by decide)))
              have q4 : 0 ≤ qw.toInt ∧ qw.toInt < 3 := by simpa [hmCal] using q.2.2
              have hc := Int32.lt_iff_toInt_lt.mp c10
              have el : (0 : Int32).toInt = 0 := by decide
              omega
            have e : spDays O H qv qu qw = -1 := by
              unfold spDays
              rw [if_neg hno]
            rw [← e]
            exact hQ _ hmQf.rf
          · refine Ex_iload_n 39 (i := 3) dX8_days_38 rfl rfl rfl ?_
            refine Ex_iconst 40 (v := 2) dX8_days_39 (by decide) rfl ?_
            refine Ex_icmp_le 43 45 dX8_days_40 (by decide) rfl (fun c11 => ?_) (fun c11 => ?_)
            · have hc1 := Int32.le_iff_toInt_le.mp (Int32.not_lt.mp c1)
              have hc2 := Int32.le_iff_toInt_le.mp (Int32.not_lt.mp c3)
              have hc3 := Int32.le_iff_toInt_le.mp (Int32.not_lt.mp c5)
              have hc4 := Int32.le_iff_toInt_le.mp (Int32.not_lt.mp c7)
              have hc5 := Int32.le_iff_toInt_le.mp (Int32.not_lt.mp c10)
              have hc6 := Int32.le_iff_toInt_le.mp c11
              have el0 : (0 : Int32).toInt = 0 := by decide
              have el1 : (1 : Int32).toInt = 1 := by decide
              have el2 : (2 : Int32).toInt = 2 := by decide
              have el3 : (99 : Int32).toInt = 99 := by decide
              have el4 : (9999 : Int32).toInt = 9999 := by decide
              have k1 : hmCal 10000 qv = true := by
                simp only [hmCal, decide_eq_true_eq]
                omega
              have k2 : hmCal 100 qu = true := by
                simp only [hmCal, decide_eq_true_eq]
                omega
              have k3 : hmCal 3 qw = true := by
                simp only [hmCal, decide_eq_true_eq]
                omega
              have k4 : ¬ qu = 0 := fun q => by
                rw [q, el0] at hc3
                omega
              obtain ⟨s, hs, rfl⟩ := hmCal_of k1
              obtain ⟨u, hu, rfl⟩ := hmCal_of k2
              have es : hmIx (nI s) = s := hmIx_nI (by omega)
              have eu : hmIx (nI u) = u := hmIx_nI (by omega)
              have ed : spDays O H (nI s) (nI u) qw = (if qw = 0 then (hmRun O H s u).2.2 else if qw = 1 then hmBits (hmLine (hmRun O H s u).1) else hmAll (hmHas (hmRun O H s u).1) (hmN O)) := by
                unfold spDays
                rw [if_pos ⟨k1, ⟨k2, k4⟩, k3⟩, es, eu]
              rw [ed] at hQ
              refine Ex_aload_n 46 (i := 0) dX8_days_45 rfl rfl rfl ?_
              refine Ex_getR 49 dX8_days_46 fX8_43 (xH_0 hx) rfl (xH_7 hx) rfl ?_
              refine Ex_aload_n 50 (i := 0) dX8_days_49 rfl rfl rfl ?_
              refine Ex_getR 53 dX8_days_50 fX8_39 (xH_0 hx) rfl (xH_6 hx) rfl ?_
              refine Ex_callV (M' := MX1_copyFrom) 56 [.ref (h + 30)] (rest := []) dX8_days_53 lX8_166 mX1_copyFrom rfl (xH_19 hx).1 rfl (Nat.le_of_ble_eq_true rfl) (Nat.le_of_ble_eq_true rfl) rfl ?_
              refine c_copyFrom (xH_19 hx) (xH_18 hx) (by omega) hH (fun I0 hF0 hH0 => ?_)
              have g0 : hmFd (h + 35) dk I I0 := hmFd.of (fun x a => hF0 x (fun q => a (by unfold hmIn at q; omega)))
              simp only [Option.toList, List.nil_append, List.cons_append]
              refine Ex_iload_n 57 (i := 1) dX8_days_56 rfl rfl rfl ?_
              refine Ex_i2l 58 dX8_days_57 rfl ?_
              rw [hm_i2l (by omega)]
              refine Ex_lstore 60 (ls' := [some (.ref h), some (.int (nI s)), some (.int (nI u)), some (.int qw), some (.int 1), some (.long (nL s)), none, none, none]) dX8_days_58 (Nat.le_of_ble_eq_true rfl) rfl rfl rfl ?_
              refine Ex_iconst 61 (v := 0) dX8_days_60 (by decide) rfl ?_
              refine Ex_istore 63 (ls' := [some (.ref h), some (.int (nI s)), some (.int (nI u)), some (.int qw), some (.int 1), some (.long (nL s)), none, some (.int 0), none]) dX8_days_61 (Nat.le_of_ble_eq_true rfl) rfl rfl rfl ?_
              refine Ex_iconst 64 (v := 0) dX8_days_63 (by decide) rfl ?_
              refine Ex_istore 66 (ls' := [some (.ref h), some (.int (nI s)), some (.int (nI u)), some (.int qw), some (.int 1), some (.long (nL s)), none, some (.int 0), some (.int 0)]) dX8_days_64 (Nat.le_of_ble_eq_true rfl) rfl rfl rfl ?_
              exact c_days_loop hx hO ho hok hmn hs hu (fun I' g => hQ I' (hmQf.fd g)) u 0 I0 (by omega) g0 hH0
            · refine Ex_iconst 44 (v := (-1)) dX8_days_43 (by decide) rfl ?_
              refine Ex_iret dX8_days_44 rfl rfl (Or.inl rfl) ?_
              have hno : ¬ (hmCal 10000 qv = true ∧ (hmCal 100 qu = true ∧ ¬ qu = 0) ∧ hmCal 3 qw = true) := by
                intro q
                have q1 : 0 ≤ qv.toInt ∧ qv.toInt < 10000 := by simpa [hmCal] using q.1
                have q2 : 0 ≤ qu.toInt ∧ qu.toInt < 100 := by simpa [hmCal] using q.2.1.1
                have q3 : ¬ qu.toInt = 0 := fun z => q.2.1.2 (Int32.toInt_inj.mp (z.trans (by decide)))
                have q4 : 0 ≤ qw.toInt ∧ qw.toInt < 3 := by simpa [hmCal] using q.2.2
                have hc := Int32.lt_iff_toInt_lt.mp (Int32.not_le.mp c11)
                have el : (2 : Int32).toInt = 2 := by decide
                omega
              have e : spDays O H qv qu qw = -1 := by
                unfold spDays
                rw [if_neg hno]
              rw [← e]
              exact hQ _ hmQf.rf
