theorem hm_lcmp0 {a : Nat} (ha : a < 2 ^ 63) : (lg_cmp (nL a) 0 = 0 ↔ a = 0) := by
  have e0 : (0 : Int64) = nL 0 := rfl
  unfold lg_cmp
  constructor
  · intro h
    by_cases e : a = 0
    · exact e
    · exfalso
      have h1 : (0 : Int64) < nL a := by
        rw [Int64.lt_iff_toInt_lt, e0, nL_toInt (by omega), nL_toInt (by omega)]
        omega
      have h2 : ¬ nL a < 0 := fun q => by
        rw [Int64.lt_iff_toInt_lt, e0, nL_toInt (by omega), nL_toInt (by omega)] at q
        omega
      simp [h1, h2] at h
  · intro h
    subst h
    decide
set_option maxHeartbeats 4000000 in
theorem c_drawAfter {d : Nat} {sh : xSh} {R : xR} {L : xL} {I : xI} {Q : xQ} {n : Nat} (hn : n < 2147483648) (hQ : Q (some (.long (nL (hmDraw n)))) 0 sh R L I) : Ex d 0 0 MX8_drawAfter 0 sh R L I 0 [some (.long (nL n)), none] [] Q := by
  refine Ex_lload_n 1 (i := 0) dX8_drawAfter_0 rfl rfl rfl ?_
  refine Ex_ldc2 4 (v := 1103515245) dX8_drawAfter_1 kX8_329 rfl ?_
  refine Ex_lmul 5 dX8_drawAfter_4 rfl ?_
  refine Ex_ldc2 8 (v := 12345) dX8_drawAfter_5 kX8_331 rfl ?_
  refine Ex_ladd 9 dX8_drawAfter_8 rfl ?_
  refine Ex_ldc2 12 (v := 2147483648) dX8_drawAfter_9 kX8_333 rfl ?_
  refine Ex_lrem 13 dX8_drawAfter_12 (by decide) rfl ?_
  refine Ex_lret dX8_drawAfter_13 rfl (Or.inl rfl) ?_
  rw [hm_draw hn]
  exact hQ
set_option maxHeartbeats 4000000 in
theorem c_actByDraw {d : Nat} {sh : xSh} {R : xR} {L : xL} {I : xI} {Q : xQ} {h dk dd pl pd : Nat} {O : hmO} {H : hmH} (hx : xHM sh R h dk dd pl pd) (hO : hmD I dk O) (ho : hmOok O) (hH : hmR I (h + 35) H) (hok : hmOk O H) {n : Nat} (hn : n < 2147483648) (hQ : ∀ I', hmFd (h + 35) dk I I' → hmR I' (h + 35) (hmAct O H n).1 → Q (some (.long (nL (hmAct O H n).2))) 0 sh R L I') : Ex (d + 2) 0 0 MX8_actByDraw 0 sh R L I 0 [some (.ref h), some (.long (nL n)), none, none, none, none] [] Q := by
  obtain ⟨on, otk, ow, olen, olaw⟩ := id hO
  have o6 := ho.1
  have h6 := hH.1
  have hdd := xH_27 hx
  have hd1 := hmDraw_lt n
  have hd2 := hmDraw_lt (hmDraw n)
  have hlN : ∀ x, x ∈ hmLine H → x < 6 := fun x hx => by
    have := hok.2.1 x hx
    omega
  refine Ex_aload_n 1 (i := 0) dX8_actByDraw_0 rfl rfl rfl ?_
  refine Ex_getR 4 dX8_actByDraw_1 fX8_19 (xH_0 hx) rfl (xH_2 hx) rfl ?_
  refine Ex_gI 7 (I dk 6) dX8_actByDraw_4 fX8_187 (xH_14 hx).1 rfl rfl rfl ?_
  rw [on]
  refine Ex_if_ne 10 12 dX8_actByDraw_7 (by decide) rfl (fun c1 => ?_) (fun c1 => ?_)
  · have hN0 : hmN O ≠ 0 := fun q => c1 (by rw [q]; rfl)
    obtain ⟨w, ew⟩ : ∃ w, hmWhom (hmN O) (hmDraw n) = w := ⟨_, rfl⟩
    have hw : w < hmN O := by rw [← ew]; exact hmWhom_lt (by omega)
    have hnz : nL (hmN O) ≠ 0 := fun q => by
      have h1 := congrArg Int64.toInt q
      rw [nL_toInt (by omega)] at h1
      have e0 : (0 : Int64).toInt = 0 := by decide
      omega
    refine Ex_lload_n 13 (i := 1) dX8_actByDraw_12 rfl rfl rfl ?_
    refine Ex_callS (M' := MX8_drawAfter) 16 [.long (nL n)] (rest := []) dX8_actByDraw_13 lX8_335 mX8_drawAfter rfl rfl (Nat.le_of_ble_eq_true rfl) (Nat.le_of_ble_eq_true rfl) rfl ?_
    refine c_drawAfter (n := n) hn ?_
    simp only [Option.toList, List.cons_append, List.nil_append]
    refine Ex_lstore_n 17 (i := 3) (ls' := [some (.ref h), some (.long (nL n)), none, some (.long (nL (hmDraw n))), none, none]) dX8_actByDraw_16 rfl (Nat.le_of_ble_eq_true rfl) rfl rfl rfl ?_
    refine Ex_lload_n 18 (i := 3) dX8_actByDraw_17 rfl rfl rfl ?_
    refine Ex_ldc2 21 (v := 65536) dX8_actByDraw_18 kX8_338 rfl ?_
    refine Ex_ldiv 22 dX8_actByDraw_21 (by decide) rfl ?_
    refine Ex_aload_n 23 (i := 0) dX8_actByDraw_22 rfl rfl rfl ?_
    refine Ex_getR 26 dX8_actByDraw_23 fX8_19 (xH_0 hx) rfl (xH_2 hx) rfl ?_
    refine Ex_gI 29 (I dk 6) dX8_actByDraw_26 fX8_187 (xH_14 hx).1 rfl rfl rfl ?_
    rw [on]
    refine Ex_i2l 30 dX8_actByDraw_29 rfl ?_
    rw [hm_i2l (by omega)]
    refine Ex_lrem 31 dX8_actByDraw_30 hnz rfl ?_
    rw [hm_whom hd1 o6, ew]
    refine Ex_l2i 32 dX8_actByDraw_31 rfl ?_
    rw [hm_l2i (by omega)]
    refine Ex_istore 34 (ls' := [some (.ref h), some (.long (nL n)), none, some (.long (nL (hmDraw n))), none, some (.int (nI w))]) dX8_actByDraw_32 (Nat.le_of_ble_eq_true rfl) rfl rfl rfl ?_
    refine Ex_aload_n 35 (i := 0) dX8_actByDraw_34 rfl rfl rfl ?_
    refine Ex_getR 38 dX8_actByDraw_35 fX8_43 (xH_0 hx) rfl (xH_7 hx) rfl ?_
    refine Ex_iload 40 dX8_actByDraw_38 rfl rfl ?_
    refine Ex_callV (M' := MX1_canRing) 43 [.int (nI w)] (rest := []) dX8_actByDraw_40 lX8_133 mX1_canRing rfl (xH_19 hx).1 rfl (Nat.le_of_ble_eq_true rfl) (Nat.le_of_ble_eq_true rfl) rfl ?_
    refine c_canRing (xH_19 hx) hH (by omega) (fun x hx => by have := hlN x hx; omega) ?_
    simp only [Option.toList, List.cons_append, List.nil_append]
    refine Ex_if_eq 46 58 dX8_actByDraw_43 (by decide) rfl (fun c2 => ?_) (fun c2 => ?_)
    · refine Ex_aload_n 59 (i := 0) dX8_actByDraw_58 rfl rfl rfl ?_
      refine Ex_getR 62 dX8_actByDraw_59 fX8_43 (xH_0 hx) rfl (xH_7 hx) rfl ?_
      refine Ex_iload 64 dX8_actByDraw_62 rfl rfl ?_
      refine Ex_callV (M' := MX1_placeOf) 67 [.int (nI w)] (rest := []) dX8_actByDraw_64 lX8_115 mX1_placeOf rfl (xH_19 hx).1 rfl (Nat.le_of_ble_eq_true rfl) (Nat.le_of_ble_eq_true rfl) rfl ?_
      refine c_placeOf (xH_19 hx) hH (by omega) (fun x hx => by have := hlN x hx; omega) ?_
      simp only [Option.toList, List.cons_append, List.nil_append]
      refine Ex_iconst 68 (v := (-1)) dX8_actByDraw_67 (by decide) rfl ?_
      refine Ex_icmp_eq 71 99 dX8_actByDraw_68 (by decide) rfl (fun c3 => ?_) (fun c3 => ?_)
      · refine Ex_lload_n 100 (i := 3) dX8_actByDraw_99 rfl rfl rfl ?_
        refine Ex_lret dX8_actByDraw_100 rfl (Or.inl rfl) ?_
        have hni := (hmPlc_ne (by omega)).mp c3
        have e : hmAct O H n = (H, hmDraw n) := by
          unfold hmAct
          rw [if_neg hN0, ew, if_neg (by rw [hmB_eq c2]; decide), if_neg hni]
        rw [e] at hQ
        exact hQ I .rf hH
      · refine Ex_lload_n 72 (i := 3) dX8_actByDraw_71 rfl rfl rfl ?_
        refine Ex_callS (M' := MX8_drawAfter) 75 [.long (nL (hmDraw n))] (rest := []) dX8_actByDraw_72 lX8_335 mX8_drawAfter rfl rfl (Nat.le_of_ble_eq_true rfl) (Nat.le_of_ble_eq_true rfl) rfl ?_
        refine c_drawAfter (n := (hmDraw n)) hd1 ?_
        simp only [Option.toList, List.cons_append, List.nil_append]
        refine Ex_lstore_n 76 (i := 3) (ls' := [some (.ref h), some (.long (nL n)), none, some (.long (nL (hmDraw (hmDraw n)))), none, some (.int (nI w))]) dX8_actByDraw_75 rfl (Nat.le_of_ble_eq_true rfl) rfl rfl rfl ?_
        refine Ex_lload_n 77 (i := 3) dX8_actByDraw_76 rfl rfl rfl ?_
        refine Ex_ldc2 80 (v := 65536) dX8_actByDraw_77 kX8_338 rfl ?_
        refine Ex_ldiv 81 dX8_actByDraw_80 (by decide) rfl ?_
        refine Ex_ldc2 84 (v := 4) dX8_actByDraw_81 kX8_340 rfl ?_
        refine Ex_lrem 85 dX8_actByDraw_84 (by decide) rfl ?_
        rw [show (4 : Int64) = nL 4 from rfl, hm_whom hd2 (by omega)]
        refine Ex_lconst 86 (v := 0) dX8_actByDraw_85 rfl rfl ?_
        have hq4 := hmWhom_lt (k := 4) (g := hmDraw (hmDraw n)) (by omega)
        refine Ex_lcmp 87 dX8_actByDraw_86 rfl ?_
        refine Ex_if_ne 90 99 dX8_actByDraw_87 (by decide) rfl (fun c4 => ?_) (fun c4 => ?_)
        · refine Ex_lload_n 100 (i := 3) dX8_actByDraw_99 rfl rfl rfl ?_
          refine Ex_lret dX8_actByDraw_100 rfl (Or.inl rfl) ?_
          have hwm : w ∈ hmLine H := by
            by_cases z : w ∈ hmLine H
            · exact z
            · exact absurd ((hmPlc_ne (by omega)).mpr z) c3
          have h0 : ¬ hmWhom 4 (hmDraw (hmDraw n)) = 0 := fun q => c4 ((hm_lcmp0 (by omega)).mpr q)
          have e : hmAct O H n = (H, hmDraw (hmDraw n)) := by
            unfold hmAct
            rw [if_neg hN0, ew, if_neg (by rw [hmB_eq c2]; decide), if_pos hwm, if_neg h0]
          rw [e] at hQ
          exact hQ I .rf hH
        · refine Ex_aload_n 91 (i := 0) dX8_actByDraw_90 rfl rfl rfl ?_
          refine Ex_getR 94 dX8_actByDraw_91 fX8_43 (xH_0 hx) rfl (xH_7 hx) rfl ?_
          refine Ex_iload 96 dX8_actByDraw_94 rfl rfl ?_
          refine Ex_callV (M' := MX1_leave) 99 [.int (nI w)] (rest := []) dX8_actByDraw_96 lX8_146 mX1_leave rfl (xH_19 hx).1 rfl (Nat.le_of_ble_eq_true rfl) (Nat.le_of_ble_eq_true rfl) rfl ?_
          refine c_leave (xH_19 hx) hH (by omega) hlN (fun I1 hF1 hH1 => ?_)
          have g1 : hmFd (h + 35) dk I I1 := hmFd.of (fun x a => hF1 x (fun q => a (by unfold hmIn at q; omega)))
          simp only [Option.toList, List.nil_append, List.cons_append]
          refine Ex_lload_n 100 (i := 3) dX8_actByDraw_99 rfl rfl rfl ?_
          refine Ex_lret dX8_actByDraw_100 rfl (Or.inl rfl) ?_
          have hwm : w ∈ hmLine H := by
            by_cases z : w ∈ hmLine H
            · exact z
            · exact absurd ((hmPlc_ne (by omega)).mpr z) c3
          have h0 : hmWhom 4 (hmDraw (hmDraw n)) = 0 := (hm_lcmp0 (by omega)).mp c4
          have e : hmAct O H n = (hmLeave H w, hmDraw (hmDraw n)) := by
            unfold hmAct
            rw [if_neg hN0, ew, if_neg (by rw [hmB_eq c2]; decide), if_pos hwm, if_pos h0]
          rw [e] at hQ
          exact hQ I1 g1 hH1
    · refine Ex_aload_n 47 (i := 0) dX8_actByDraw_46 rfl rfl rfl ?_
      refine Ex_getR 50 dX8_actByDraw_47 fX8_43 (xH_0 hx) rfl (xH_7 hx) rfl ?_
      refine Ex_iload 52 dX8_actByDraw_50 rfl rfl ?_
      refine Ex_callV (M' := MX1_comeToEnd) 55 [.int (nI w)] (rest := []) dX8_actByDraw_52 lX8_139 mX1_comeToEnd rfl (xH_19 hx).1 rfl (Nat.le_of_ble_eq_true rfl) (Nat.le_of_ble_eq_true rfl) rfl ?_
      have hcan := hmB_ne c2
      have hni : w ∉ hmLine H := by
        have h2 : hmBit (hmSet H) w = false ∧ w ∉ hmLine H := by simpa [hmCanRing] using hcan
        exact h2.2
      have hroom := hmOk_room hok ho hw hni
      refine c_comeToEnd (xH_19 hx) hH (by omega) hroom (fun I1 hF1 hH1 => ?_)
      have g1 : hmFd (h + 35) dk I I1 := hmFd.of (fun x a => hF1 x (fun q => a (by unfold hmIn at q; omega)))
      simp only [Option.toList, List.nil_append, List.cons_append]
      refine Ex_goto 99 dX8_actByDraw_55 (by decide) ?_
      refine Ex_lload_n 100 (i := 3) dX8_actByDraw_99 rfl rfl rfl ?_
      refine Ex_lret dX8_actByDraw_100 rfl (Or.inl rfl) ?_
      have e : hmAct O H n = (hmCome H w, hmDraw n) := by
        unfold hmAct
        rw [if_neg hN0, ew, if_pos hcan]
      rw [e] at hQ
      exact hQ I1 g1 hH1
  · refine Ex_lload_n 11 (i := 1) dX8_actByDraw_10 rfl rfl rfl ?_
    refine Ex_lret dX8_actByDraw_11 rfl (Or.inl rfl) ?_
    have hN0 : hmN O = 0 := (nI_eq (b := 0) (by omega) (by omega)).mp c1
    have e : hmAct O H n = (H, n) := if_pos hN0
    rw [e] at hQ
    exact hQ I .rf hH
