set_option maxHeartbeats 4000000 in
theorem mb_gone_loop {d : Nat} {sh : xSh} {R : xR} {L : xL} {I : xI} {Q : xQ} {m : Nat} {O : hmO} (hm : xModel sh R m) (ho : hmOok O) {w : Nat} (hw : w < 6) : ∀ n k J H, n + k = 30 → hmMr (J (m + 28)) H → hmMo J m O → hmOk O H → J m 46 = nI (hmTk O) → hmMin H + n < 900000 → hmGone k H → (∀ I', hmGf m J I' → Q (some (.int (nI (k + hmGo O n H w)))) 0 sh R L (va_up I' (m + 28) (va_cpy (I' (m + 30)) (I' (m + 28)) 0 0 58))) → Ex (d + 7) 0 0 MX9_gone 0 sh R L J 38 [some (.ref m), some (.int (nI w)), some (.int (nI k))] [] Q := by
  intro n
  induction n with
  | zero =>
    intro k J H hk hS hO hok h46 hmn hg hQ
    obtain ⟨s6, smin, slen, sset, stak, sline, sheld, shas, stalk⟩ := id hS
    have hlN : ∀ x, x ∈ hmLine H → x < 6 := fun x hx => by
      have := hok.2.1 x hx
      have := ho.1
      omega
    have hl := hmGone_30 hok ho (by rw [show k = 30 by omega] at hg; exact hg)
    have hp : hmPlc (hmLine H) w = -1 := by rw [hl]; rfl
    refine Ex_aload_n 39 (i := 0) dX9_gone_38 rfl rfl rfl ?_
    refine Ex_iload_n 40 (i := 1) dX9_gone_39 rfl rfl rfl ?_
    refine Ex_callV (M' := MX9_placeOf) 43 [.int (nI w)] (rest := []) dX9_gone_40 lX9_319 mX9_placeOf rfl (xMs_0 hm) rfl (Nat.le_of_ble_eq_true rfl) (Nat.le_of_ble_eq_true rfl) rfl ?_
    refine mc_placeOf hm hS (by omega) (fun x hx => by have := hlN x hx; omega) ?_
    simp only [Option.toList, List.cons_append, List.nil_append]
    rw [hp]
    refine Ex_if_lt 46 57 dX9_gone_43 (by decide) rfl (fun c1 => ?_) (fun c1 => absurd c1 (fun q => q (by decide)))
    refine Ex_aload_n 58 (i := 0) dX9_gone_57 rfl rfl rfl ?_
    refine Ex_getR 61 dX9_gone_58 fX9_99 (xMs_0 hm) rfl (xMr_41 hm) rfl ?_
    refine Ex_iconst 62 (v := 0) dX9_gone_61 (by decide) rfl ?_
    refine Ex_aload_n 63 (i := 0) dX9_gone_62 rfl rfl rfl ?_
    refine Ex_getR 66 dX9_gone_63 fX9_93 (xMs_0 hm) rfl (xMr_39 hm) rfl ?_
    refine Ex_iconst 67 (v := 0) dX9_gone_66 (by decide) rfl ?_
    refine Ex_callS (M' := MX9_copies) 70 [.ref (m + 30), .int 0, .ref (m + 28), .int 0] (rest := []) dX9_gone_67 lX9_350 mX9_copies rfl rfl (Nat.le_of_ble_eq_true rfl) (Nat.le_of_ble_eq_true rfl) rfl ?_
    refine mc_cp (np := 58) (nq := 58) (a := 0) (b := 0) (J := (va_up J (m + 28) (va_cpy (J (m + 30)) (J (m + 28)) 0 0 58))) (xMs_30 hm) (xMs_28 hm) (by omega) (by omega) (by omega) (by omega) (by omega) rfl rfl rfl ?_
    simp only [Option.toList, List.nil_append, List.cons_append]
    refine Ex_iload_n 71 (i := 2) dX9_gone_70 rfl rfl rfl ?_
    refine Ex_iret dX9_gone_71 rfl rfl (Or.inl rfl) ?_
    exact hQ J hmGf.rf
  | succ n ih =>
    intro k J H hk hS hO hok h46 hmn hg hQ
    obtain ⟨s6, smin, slen, sset, stak, sline, sheld, shas, stalk⟩ := id hS
    have hlN : ∀ x, x ∈ hmLine H → x < 6 := fun x hx => by
      have := hok.2.1 x hx
      have := ho.1
      omega
    refine Ex_aload_n 39 (i := 0) dX9_gone_38 rfl rfl rfl ?_
    refine Ex_iload_n 40 (i := 1) dX9_gone_39 rfl rfl rfl ?_
    refine Ex_callV (M' := MX9_placeOf) 43 [.int (nI w)] (rest := []) dX9_gone_40 lX9_319 mX9_placeOf rfl (xMs_0 hm) rfl (Nat.le_of_ble_eq_true rfl) (Nat.le_of_ble_eq_true rfl) rfl ?_
    refine mc_placeOf hm hS (by omega) (fun x hx => by have := hlN x hx; omega) ?_
    simp only [Option.toList, List.cons_append, List.nil_append]
    refine Ex_if_lt 46 57 dX9_gone_43 (by decide) rfl (fun c1 => ?_) (fun c1 => ?_)
    · refine Ex_aload_n 58 (i := 0) dX9_gone_57 rfl rfl rfl ?_
      refine Ex_getR 61 dX9_gone_58 fX9_99 (xMs_0 hm) rfl (xMr_41 hm) rfl ?_
      refine Ex_iconst 62 (v := 0) dX9_gone_61 (by decide) rfl ?_
      refine Ex_aload_n 63 (i := 0) dX9_gone_62 rfl rfl rfl ?_
      refine Ex_getR 66 dX9_gone_63 fX9_93 (xMs_0 hm) rfl (xMr_39 hm) rfl ?_
      refine Ex_iconst 67 (v := 0) dX9_gone_66 (by decide) rfl ?_
      refine Ex_callS (M' := MX9_copies) 70 [.ref (m + 30), .int 0, .ref (m + 28), .int 0] (rest := []) dX9_gone_67 lX9_350 mX9_copies rfl rfl (Nat.le_of_ble_eq_true rfl) (Nat.le_of_ble_eq_true rfl) rfl ?_
      refine mc_cp (np := 58) (nq := 58) (a := 0) (b := 0) (J := (va_up J (m + 28) (va_cpy (J (m + 30)) (J (m + 28)) 0 0 58))) (xMs_30 hm) (xMs_28 hm) (by omega) (by omega) (by omega) (by omega) (by omega) rfl rfl rfl ?_
      simp only [Option.toList, List.nil_append, List.cons_append]
      refine Ex_iload_n 71 (i := 2) dX9_gone_70 rfl rfl rfl ?_
      refine Ex_iret dX9_gone_71 rfl rfl (Or.inl rfl) ?_
      have hn : w ∉ hmLine H := (hmPlc_lt (by omega)).mp c1
      have e : hmGo O (n + 1) H w = 0 := by
        show (if w ∈ hmLine H then _ else _) = _
        rw [if_neg hn]
      rw [e] at hQ
      exact hQ J hmGf.rf
    · refine Ex_aload_n 47 (i := 0) dX9_gone_46 rfl rfl rfl ?_
      refine Ex_callV (M' := MX9_passes) 50 [] (rest := []) dX9_gone_47 lX9_369 mX9_passes rfl (xMs_0 hm) rfl (Nat.le_of_ble_eq_true rfl) (Nat.le_of_ble_eq_true rfl) rfl ?_
      refine mc_passes hm hS hO ho hok h46 ho.2.1 ho.2.2.1 (by omega) (fun I1 hF1 hS1 => ?_)
      have g1 : hmGf m J I1 := hmGf.fm hF1
      have hok1 := hmOk_minute (tk := hmTk O) hok ho
      have hm1 := hmMinute_min O (hmTk O) H
      simp only [Option.toList, List.nil_append, List.cons_append]
      refine Ex_pop 51 dX9_gone_50 rfl rfl ?_
      refine Ex_iinc 54 (v := (nI (k + 1))) (ls' := [some (.ref m), some (.int (nI w)), some (.int (nI (k + 1)))]) dX9_gone_51 rfl (xinc _) (Nat.le_of_ble_eq_true rfl) rfl rfl rfl ?_
      refine Ex_goto 38 dX9_gone_54 (by decide) ?_
      have hn : w ∈ hmLine H := by
        by_cases z : w ∈ hmLine H
        · exact z
        · exact absurd ((hmPlc_lt (by omega)).mpr z) c1
      have e : hmGo O (n + 1) H w = hmGo O n (hmMinute O (hmTk O) H) w + 1 := by
        show (if w ∈ hmLine H then _ else _) = _
        rw [if_pos hn]
      rw [e] at hQ
      refine ih (k + 1) I1 (hmMinute O (hmTk O) H) (by omega) hS1 (g1.mo hO) hok1 (by rw [g1.2 46 (by omega) (by omega)]; exact h46) (by omega) (hmGone_s hok hg) (fun I' g => ?_)
      rw [show k + 1 + hmGo O n (hmMinute O (hmTk O) H) w = k + (hmGo O n (hmMinute O (hmTk O) H) w + 1) by omega]
      exact hQ I' (g1.tr g)
set_option maxHeartbeats 4000000 in
theorem mb_gone {d : Nat} {sh : xSh} {R : xR} {L : xL} {I : xI} {Q : xQ} {m : Nat} {O : hmO} {H : hmH} (hm : xModel sh R m) (hS : hmMr (I (m + 28)) H) (hO : hmMo I m O) (ho : hmOok O) (hok : hmOk O H) (h46 : I m 46 = nI (hmTk O)) (hmn : hmMin H < 800000) {qv : Int32} (hQ : ∀ I', hmMg m I I' → hmMr (I' (m + 28)) H → Q (some (.int (spGone O H qv))) 0 sh R L I') : Ex (d + 7) 0 0 MX9_gone 0 sh R L I 5 [some (.ref m), some (.int qv), none] [] Q := by
  obtain ⟨s6, smin, slen, sset, stak, sline, sheld, shas, stalk⟩ := id hS
  obtain ⟨o6, ot1, ot2, oo, oll, owf⟩ := id ho
  obtain ⟨on, otk, ow, cd, cfrom, cto, clen, ccd, csem⟩ := id hO
  have hlN := hok.2.1
  refine Ex_aload_n 6 (i := 0) dX9_gone_5 rfl rfl rfl ?_
  refine Ex_iload_n 7 (i := 1) dX9_gone_6 rfl rfl rfl ?_
  refine Ex_callV (M' := MX9_isCaller) 10 [.int qv] (rest := []) dX9_gone_7 lX9_347 mX9_isCaller rfl (xMs_0 hm) rfl (Nat.le_of_ble_eq_true rfl) (Nat.le_of_ble_eq_true rfl) rfl ?_
  refine mc_isCaller hm on o6 ?_
  simp only [Option.toList, List.cons_append, List.nil_append]
  refine Ex_if_eq 13 21 dX9_gone_10 (by decide) rfl (fun c1 => ?_) (fun c1 => ?_)
  · refine Ex_iconst 22 (v := (-1)) dX9_gone_21 (by decide) rfl ?_
    refine Ex_iret dX9_gone_22 rfl rfl (Or.inl rfl) ?_
    have e : spGone O H qv = -1 := by
      simp [spGone, hmOn_no (hmB_eq c1)]
    rw [← e]
    exact hQ _ hmMg.rf hS
  · have hct := hmB_ne c1
    obtain ⟨w, hw, rfl⟩ := hmCal_of hct
    have hix : hmIx (nI w) = w := hmIx_nI (by omega)
    refine Ex_aload_n 14 (i := 0) dX9_gone_13 rfl rfl rfl ?_
    refine Ex_iload_n 15 (i := 1) dX9_gone_14 rfl rfl rfl ?_
    refine Ex_callV (M' := MX9_placeOf) 18 [.int (nI w)] (rest := []) dX9_gone_15 lX9_319 mX9_placeOf rfl (xMs_0 hm) rfl (Nat.le_of_ble_eq_true rfl) (Nat.le_of_ble_eq_true rfl) rfl ?_
    refine mc_placeOf hm hS (by omega) (fun x hx => by have := hlN x hx; omega) ?_
    simp only [Option.toList, List.cons_append, List.nil_append]
    refine Ex_if_ge 21 23 dX9_gone_18 (by decide) rfl (fun c2 => ?_) (fun c2 => ?_)
    · have hwm : w ∈ hmLine H := by
        by_cases z : w ∈ hmLine H
        · exact z
        · exact absurd ((hmPlc_lt (by omega)).mpr z) (Int32.not_lt.mpr c2)
      have hon := hmOn_yes hw (by omega) hwm
      refine Ex_aload_n 24 (i := 0) dX9_gone_23 rfl rfl rfl ?_
      refine Ex_getR 27 dX9_gone_24 fX9_93 (xMs_0 hm) rfl (xMr_39 hm) rfl ?_
      refine Ex_iconst 28 (v := 0) dX9_gone_27 (by decide) rfl ?_
      refine Ex_aload_n 29 (i := 0) dX9_gone_28 rfl rfl rfl ?_
      refine Ex_getR 32 dX9_gone_29 fX9_99 (xMs_0 hm) rfl (xMr_41 hm) rfl ?_
      refine Ex_iconst 33 (v := 0) dX9_gone_32 (by decide) rfl ?_
      refine Ex_callS (M' := MX9_copies) 36 [.ref (m + 28), .int 0, .ref (m + 30), .int 0] (rest := []) dX9_gone_33 lX9_350 mX9_copies rfl rfl (Nat.le_of_ble_eq_true rfl) (Nat.le_of_ble_eq_true rfl) rfl ?_
      refine mc_cp (np := 58) (nq := 58) (a := 0) (b := 0) (J := (va_up I (m + 30) (va_cpy (I (m + 28)) (I (m + 30)) 0 0 58))) (xMs_28 hm) (xMs_30 hm) (by omega) (by omega) (by omega) (by omega) (by omega) rfl rfl rfl ?_
      simp only [Option.toList, List.nil_append, List.cons_append]
      refine Ex_iconst 37 (v := 0) dX9_gone_36 (by decide) rfl ?_
      refine Ex_istore_n 38 (i := 2) (ls' := [some (.ref m), some (.int (nI w)), some (.int 0)]) dX9_gone_37 rfl (Nat.le_of_ble_eq_true rfl) rfl rfl rfl ?_
      have e : spGone O H (nI w) = nI (0 + hmGo O 30 H w) := by
        rw [Nat.zero_add]
        simp only [spGone, hon, hix, if_true]
      rw [e] at hQ
      refine mb_gone_loop (I := I) hm ho (by omega) 30 0 _ H rfl (by rw [va_up_ne _ _ (by omega)]; exact hS) (hO.kept (fun z a b => by rw [va_up_ne _ _ (by omega)])) hok (by rw [va_up_ne _ _ (by omega)]; exact h46) (by omega) (hmGone_0 H) (fun I' g => ?_)
      have gg : hmMg m I I' := hmMg.tr (hmMg.up hmMg.rf (by unfold hmMt; omega)) g.mg
      refine hQ _ (hmMg.up gg (by unfold hmMt; omega)) ?_
      rw [va_up_self, g.1 (m + 30) (by omega) (by omega) (by omega) (by omega), va_up_self]
      exact hS.cpy rfl _
    · refine Ex_iconst 22 (v := (-1)) dX9_gone_21 (by decide) rfl ?_
      refine Ex_iret dX9_gone_22 rfl rfl (Or.inl rfl) ?_
      have e : spGone O H (nI w) = -1 := by
        have hz : w ∉ hmLine H := (hmPlc_lt (by omega)).mp (Int32.not_le.mp c2)
        simp [spGone, hmOn_no2 (by omega) hz]
      rw [← e]
      exact hQ _ hmMg.rf hS
set_option maxHeartbeats 4000000 in
theorem mq_gone {d : Nat} {sh : xSh} {R : xR} {L : xL} {I : xI} {Q : xQ} {m : Nat} {O : hmO} {H : hmH} (hm : xModel sh R m) (hS : hmMr (I (m + 28)) H) (hO : hmMo I m O) (ho : hmOok O) (hok : hmOk O H) (h46 : I m 46 = nI (hmTk O)) (hmn : hmMin H < 800000) {qv : Int32} (hQ : ∀ I', hmMg m (hmTh I m) I' → hmMr (I' (m + 28)) H → Q (some (.int (spGone O H qv))) 0 sh R L I') : Ex (d + 7) 0 0 MX9_gone 0 sh R L I 0 [some (.ref m), some (.int qv), none] [] Q := by
  refine Ex_aload_n 1 (i := 0) dX9_gone_0 rfl rfl rfl ?_
  refine Ex_iconst 2 (v := 0) dX9_gone_1 (by decide) rfl ?_
  refine Ex_pI 5 (I m) (va_up I m (va_up (I m) 0 0)) dX9_gone_2 fX9_130 rfl (xMs_0 hm) rfl (fun _ => rfl) rfl rfl rfl rfl ?_
  exact mb_gone hm (hmTh_mr hS) (hmTh_mo hO) ho hok ((hmTh_f (by omega)).trans h46) hmn  hQ
theorem hm_nI0 {a : Nat} (h2 : a < 2147483648) : (0 : Int32) ≤ nI a := by
  rw [Int32.le_iff_toInt_le, nI_toInt (by omega)]
  have e0 : (0 : Int32).toInt = 0 := by decide
  omega
set_option maxHeartbeats 4000000 in
theorem mb_meets_loop {d : Nat} {sh : xSh} {R : xR} {L : xL} {I : xI} {Q : xQ} {m : Nat} {O : hmO} (hm : xModel sh R m) (ho : hmOok O) {x y b : Nat} (hx : x < 6) (hy : y < 6) (hb : b < 10000000) : ∀ n k J H, n + k = 30 → hmMr (J (m + 28)) H → hmMo J m O → hmOk O H → J m 46 = nI (hmTk O) → hmMin H + n < 900000 → hmGone k H → hmTkb H → (∀ I', hmGf m J I' → Q (some (.int (hmWv k (hmMeets O b n H x y)))) 0 sh R L (va_up I' (m + 28) (va_cpy (I' (m + 30)) (I' (m + 28)) 0 0 58))) → Ex (d + 7) 0 0 MX9_meets 0 sh R L J 62 [some (.ref m), some (.int (nI x)), some (.int (nI y)), some (.int (nI b)), some (.int (nI k)), some (.int (-1))] [] Q := by
  intro n
  induction n with
  | zero =>
    intro k J H hk hS hO hok h46 hmn hg htb hQ
    obtain ⟨s6, smin, slen, sset, stak, sline, sheld, shas, stalk⟩ := id hS
    have hlN : ∀ x, x ∈ hmLine H → x < 6 := fun x hx => by
      have := hok.2.1 x hx
      have := ho.1
      omega
    have hl := hmGone_30 hok ho (by rw [show k = 30 by omega] at hg; exact hg)
    have hl0 : (hmLine H).length = 0 := by rw [hl]; rfl
    refine Ex_aload_n 63 (i := 0) dX9_meets_62 rfl rfl rfl ?_
    refine Ex_getR 66 dX9_meets_63 fX9_93 (xMs_0 hm) rfl (xMr_39 hm) rfl ?_
    refine Ex_iconst 67 (v := 1) dX9_meets_66 (by decide) rfl ?_
    refine Ex_aI 68 1 (J (m + 28) 1) dX9_meets_67 (xMs_28 hm) rfl (by decide) (by decide) rfl rfl ?_
    rw [slen, hl0]
    refine Ex_if_le 71 109 dX9_meets_68 (by decide) rfl (fun c1 => ?_) (fun c1 => absurd c1 (fun q => q (by decide)))
    refine Ex_aload_n 110 (i := 0) dX9_meets_109 rfl rfl rfl ?_
    refine Ex_getR 113 dX9_meets_110 fX9_99 (xMs_0 hm) rfl (xMr_41 hm) rfl ?_
    refine Ex_iconst 114 (v := 0) dX9_meets_113 (by decide) rfl ?_
    refine Ex_aload_n 115 (i := 0) dX9_meets_114 rfl rfl rfl ?_
    refine Ex_getR 118 dX9_meets_115 fX9_93 (xMs_0 hm) rfl (xMr_39 hm) rfl ?_
    refine Ex_iconst 119 (v := 0) dX9_meets_118 (by decide) rfl ?_
    refine Ex_callS (M' := MX9_copies) 122 [.ref (m + 30), .int 0, .ref (m + 28), .int 0] (rest := []) dX9_meets_119 lX9_350 mX9_copies rfl rfl (Nat.le_of_ble_eq_true rfl) (Nat.le_of_ble_eq_true rfl) rfl ?_
    refine mc_cp (np := 58) (nq := 58) (a := 0) (b := 0) (J := (va_up J (m + 28) (va_cpy (J (m + 30)) (J (m + 28)) 0 0 58))) (xMs_30 hm) (xMs_28 hm) (by omega) (by omega) (by omega) (by omega) (by omega) rfl rfl rfl ?_
    simp only [Option.toList, List.nil_append, List.cons_append]
    refine Ex_iload 124 dX9_meets_122 rfl rfl ?_
    refine Ex_iret dX9_meets_124 rfl rfl (Or.inl rfl) ?_
    exact hQ J hmGf.rf
  | succ n ih =>
    intro k J H hk hS hO hok h46 hmn hg htb hQ
    obtain ⟨s6, smin, slen, sset, stak, sline, sheld, shas, stalk⟩ := id hS
    have hlN : ∀ x, x ∈ hmLine H → x < 6 := fun x hx => by
      have := hok.2.1 x hx
      have := ho.1
      omega
    refine Ex_aload_n 63 (i := 0) dX9_meets_62 rfl rfl rfl ?_
    refine Ex_getR 66 dX9_meets_63 fX9_93 (xMs_0 hm) rfl (xMr_39 hm) rfl ?_
    refine Ex_iconst 67 (v := 1) dX9_meets_66 (by decide) rfl ?_
    refine Ex_aI 68 1 (J (m + 28) 1) dX9_meets_67 (xMs_28 hm) rfl (by decide) (by decide) rfl rfl ?_
    rw [slen]
    refine Ex_if_le 71 109 dX9_meets_68 (by decide) rfl (fun c1 => ?_) (fun c1 => ?_)
    · refine Ex_aload_n 110 (i := 0) dX9_meets_109 rfl rfl rfl ?_
      refine Ex_getR 113 dX9_meets_110 fX9_99 (xMs_0 hm) rfl (xMr_41 hm) rfl ?_
      refine Ex_iconst 114 (v := 0) dX9_meets_113 (by decide) rfl ?_
      refine Ex_aload_n 115 (i := 0) dX9_meets_114 rfl rfl rfl ?_
      refine Ex_getR 118 dX9_meets_115 fX9_93 (xMs_0 hm) rfl (xMr_39 hm) rfl ?_
      refine Ex_iconst 119 (v := 0) dX9_meets_118 (by decide) rfl ?_
      refine Ex_callS (M' := MX9_copies) 122 [.ref (m + 30), .int 0, .ref (m + 28), .int 0] (rest := []) dX9_meets_119 lX9_350 mX9_copies rfl rfl (Nat.le_of_ble_eq_true rfl) (Nat.le_of_ble_eq_true rfl) rfl ?_
      refine mc_cp (np := 58) (nq := 58) (a := 0) (b := 0) (J := (va_up J (m + 28) (va_cpy (J (m + 30)) (J (m + 28)) 0 0 58))) (xMs_30 hm) (xMs_28 hm) (by omega) (by omega) (by omega) (by omega) (by omega) rfl rfl rfl ?_
      simp only [Option.toList, List.nil_append, List.cons_append]
      refine Ex_iload 124 dX9_meets_122 rfl rfl ?_
      refine Ex_iret dX9_meets_124 rfl rfl (Or.inl rfl) ?_
      have hl : hmLine H = [] := by
        have h1 : (hmLine H).length = 0 := by
          by_cases z : (hmLine H).length = 0
          · exact z
          · exact absurd c1 (Int32.not_le.mpr (hm_nIpos (by omega) (by omega)))
        exact List.eq_nil_of_length_eq_zero h1
      have e : hmMeets O b (n + 1) H x y = none := by
        show (if hmLine H = [] then _ else _) = _
        rw [if_pos hl]
      rw [e] at hQ
      exact hQ J hmGf.rf
    · refine Ex_iload 73 dX9_meets_71 rfl rfl ?_
      refine Ex_if_ge 76 109 dX9_meets_73 (by decide) rfl (fun c2 => absurd c2 (by decide)) (fun c2 => ?_)
      have hlne : hmLine H ≠ [] := fun z => c1 (by rw [z]; decide)
      have htb1 := hmTkb_minute (O := O) (tk := hmTk O) (hmOk_len hok ho) htb
      refine Ex_aload_n 77 (i := 0) dX9_meets_76 rfl rfl rfl ?_
      refine Ex_callV (M' := MX9_passes) 80 [] (rest := []) dX9_meets_77 lX9_369 mX9_passes rfl (xMs_0 hm) rfl (Nat.le_of_ble_eq_true rfl) (Nat.le_of_ble_eq_true rfl) rfl ?_
      refine mc_passes hm hS hO ho hok h46 ho.2.1 ho.2.2.1 (by omega) (fun I1 hF1 hS1 => ?_)
      have g1 : hmGf m J I1 := hmGf.fm hF1
      have hok1 := hmOk_minute (tk := hmTk O) hok ho
      have hm1 := hmMinute_min O (hmTk O) H
      simp only [Option.toList, List.nil_append, List.cons_append]
      refine Ex_pop 81 dX9_meets_80 rfl rfl ?_
      refine Ex_iinc 84 (v := (nI (k + 1))) (ls' := [some (.ref m), some (.int (nI x)), some (.int (nI y)), some (.int (nI b)), some (.int (nI (k + 1))), some (.int (-1))]) dX9_meets_81 rfl (xinc _) (Nat.le_of_ble_eq_true rfl) rfl rfl rfl ?_
      refine Ex_aload_n 85 (i := 0) dX9_meets_84 rfl rfl rfl ?_
      refine Ex_getR 88 dX9_meets_85 fX9_93 (xMs_0 hm) rfl (xMr_39 hm) rfl ?_
      refine Ex_bipush 90 (v := 22) dX9_meets_88 (by decide) rfl ?_
      refine Ex_bipush 92 (v := 6) dX9_meets_90 (by decide) rfl ?_
      refine Ex_iload_n 93 (i := 1) dX9_meets_92 rfl rfl rfl ?_
      refine Ex_imul 94 dX9_meets_93 rfl ?_
      refine Ex_iadd 95 dX9_meets_94 rfl ?_
      refine Ex_iload_n 96 (i := 2) dX9_meets_95 rfl rfl rfl ?_
      refine Ex_iadd 97 dX9_meets_96 rfl ?_
      refine Ex_aI 98 ((22 + (6 * x)) + y) (I1 (m + 28) ((22 + (6 * x)) + y)) dX9_meets_97 (xMs_28 hm) (hm_ad (hm_ad rfl (hm_mu rfl rfl)) rfl) (by omega) (by decide) rfl rfl ?_
      rw [hS1.2.2.2.2.2.2.2.2 x hx y hy]
      refine Ex_iload_n 99 (i := 3) dX9_meets_98 rfl rfl rfl ?_
      refine Ex_icmp_le 102 62 dX9_meets_99 (by decide) rfl (fun c3 => ?_) (fun c3 => ?_)
      · have h1 : ¬ hmTalk (hmMinute O (hmTk O) H) x y > b := fun z => absurd ((nI_ltI (by omega) (by have := htb1 x y; omega)).mpr z) (Int32.not_lt.mpr c3)
        have e : hmMeets O b (n + 1) H x y = (hmMeets O b n (hmMinute O (hmTk O) H) x y).map (· + 1) := by
          show (if hmLine H = [] then _ else if _ then _ else _) = _
          rw [if_neg hlne, if_neg h1]
        rw [e, hmWv_map] at hQ
        exact ih (k + 1) I1 (hmMinute O (hmTk O) H) (by omega) hS1 (g1.mo hO) hok1 (by rw [g1.2 46 (by omega) (by omega)]; exact h46) (by omega) (hmGone_s hok hg) htb1 (fun I' g => hQ I' (g1.tr g))
      · refine Ex_iload 104 dX9_meets_102 rfl rfl ?_
        refine Ex_istore 106 (ls' := [some (.ref m), some (.int (nI x)), some (.int (nI y)), some (.int (nI b)), some (.int (nI (k + 1))), some (.int (nI (k + 1)))]) dX9_meets_104 (Nat.le_of_ble_eq_true rfl) rfl rfl rfl ?_
        refine Ex_goto 62 dX9_meets_106 (by decide) ?_
        have h1 : hmTalk (hmMinute O (hmTk O) H) x y > b := (nI_ltI (by omega) (by have := htb1 x y; omega)).mp (Int32.not_le.mp c3)
        have e : hmMeets O b (n + 1) H x y = some 1 := by
          show (if hmLine H = [] then _ else if _ then _ else _) = _
          rw [if_neg hlne, if_pos h1]
        rw [e] at hQ
        obtain ⟨t6, tmin, tlen, tset, ttak, tline, theld, thas, ttalk⟩ := id hS1
        refine Ex_aload_n 63 (i := 0) dX9_meets_62 rfl rfl rfl ?_
        refine Ex_getR 66 dX9_meets_63 fX9_93 (xMs_0 hm) rfl (xMr_39 hm) rfl ?_
        refine Ex_iconst 67 (v := 1) dX9_meets_66 (by decide) rfl ?_
        refine Ex_aI 68 1 (I1 (m + 28) 1) dX9_meets_67 (xMs_28 hm) rfl (by decide) (by decide) rfl rfl ?_
        refine Ex_if_le 71 109 dX9_meets_68 (by decide) rfl (fun c61 => ?_) (fun c61 => ?_)
        · refine Ex_aload_n 110 (i := 0) dX9_meets_109 rfl rfl rfl ?_
          refine Ex_getR 113 dX9_meets_110 fX9_99 (xMs_0 hm) rfl (xMr_41 hm) rfl ?_
          refine Ex_iconst 114 (v := 0) dX9_meets_113 (by decide) rfl ?_
          refine Ex_aload_n 115 (i := 0) dX9_meets_114 rfl rfl rfl ?_
          refine Ex_getR 118 dX9_meets_115 fX9_93 (xMs_0 hm) rfl (xMr_39 hm) rfl ?_
          refine Ex_iconst 119 (v := 0) dX9_meets_118 (by decide) rfl ?_
          refine Ex_callS (M' := MX9_copies) 122 [.ref (m + 30), .int 0, .ref (m + 28), .int 0] (rest := []) dX9_meets_119 lX9_350 mX9_copies rfl rfl (Nat.le_of_ble_eq_true rfl) (Nat.le_of_ble_eq_true rfl) rfl ?_
          refine mc_cp (np := 58) (nq := 58) (a := 0) (b := 0) (J := (va_up I1 (m + 28) (va_cpy (I1 (m + 30)) (I1 (m + 28)) 0 0 58))) (xMs_30 hm) (xMs_28 hm) (by omega) (by omega) (by omega) (by omega) (by omega) rfl rfl rfl ?_
          simp only [Option.toList, List.nil_append, List.cons_append]
          refine Ex_iload 124 dX9_meets_122 rfl rfl ?_
          refine Ex_iret dX9_meets_124 rfl rfl (Or.inl rfl) ?_
          exact hQ I1 g1
        · refine Ex_iload 73 dX9_meets_71 rfl rfl ?_
          refine Ex_if_ge 76 109 dX9_meets_73 (by decide) rfl (fun c62 => ?_) (fun c62 => absurd c62 (fun q => q (hm_nI0 (by omega))))
          refine Ex_aload_n 110 (i := 0) dX9_meets_109 rfl rfl rfl ?_
          refine Ex_getR 113 dX9_meets_110 fX9_99 (xMs_0 hm) rfl (xMr_41 hm) rfl ?_
          refine Ex_iconst 114 (v := 0) dX9_meets_113 (by decide) rfl ?_
          refine Ex_aload_n 115 (i := 0) dX9_meets_114 rfl rfl rfl ?_
          refine Ex_getR 118 dX9_meets_115 fX9_93 (xMs_0 hm) rfl (xMr_39 hm) rfl ?_
          refine Ex_iconst 119 (v := 0) dX9_meets_118 (by decide) rfl ?_
          refine Ex_callS (M' := MX9_copies) 122 [.ref (m + 30), .int 0, .ref (m + 28), .int 0] (rest := []) dX9_meets_119 lX9_350 mX9_copies rfl rfl (Nat.le_of_ble_eq_true rfl) (Nat.le_of_ble_eq_true rfl) rfl ?_
          refine mc_cp (np := 58) (nq := 58) (a := 0) (b := 0) (J := (va_up I1 (m + 28) (va_cpy (I1 (m + 30)) (I1 (m + 28)) 0 0 58))) (xMs_30 hm) (xMs_28 hm) (by omega) (by omega) (by omega) (by omega) (by omega) rfl rfl rfl ?_
          simp only [Option.toList, List.nil_append, List.cons_append]
          refine Ex_iload 124 dX9_meets_122 rfl rfl ?_
          refine Ex_iret dX9_meets_124 rfl rfl (Or.inl rfl) ?_
          exact hQ I1 g1
set_option maxHeartbeats 4000000 in
theorem mb_meets {d : Nat} {sh : xSh} {R : xR} {L : xL} {I : xI} {Q : xQ} {m : Nat} {O : hmO} {H : hmH} (hm : xModel sh R m) (hS : hmMr (I (m + 28)) H) (hO : hmMo I m O) (ho : hmOok O) (hok : hmOk O H) (h46 : I m 46 = nI (hmTk O)) (hmn : hmMin H < 800000) {qv qu : Int32} (htb : hmTkb H) (hQ : ∀ I', hmMg m I I' → hmMr (I' (m + 28)) H → Q (some (.int (spMeets O H qv qu))) 0 sh R L I') : Ex (d + 7) 0 0 MX9_meets 0 sh R L I 5 [some (.ref m), some (.int qv), some (.int qu), none, none, none] [] Q := by
  obtain ⟨s6, smin, slen, sset, stak, sline, sheld, shas, stalk⟩ := id hS
  obtain ⟨o6, ot1, ot2, oo, oll, owf⟩ := id ho
  obtain ⟨on, otk, ow, cd, cfrom, cto, clen, ccd, csem⟩ := id hO
  have hlN := hok.2.1
  refine Ex_aload_n 6 (i := 0) dX9_meets_5 rfl rfl rfl ?_
  refine Ex_iload_n 7 (i := 1) dX9_meets_6 rfl rfl rfl ?_
  refine Ex_callV (M' := MX9_isCaller) 10 [.int qv] (rest := []) dX9_meets_7 lX9_347 mX9_isCaller rfl (xMs_0 hm) rfl (Nat.le_of_ble_eq_true rfl) (Nat.le_of_ble_eq_true rfl) rfl ?_
  refine mc_isCaller hm on o6 ?_
  simp only [Option.toList, List.cons_append, List.nil_append]
  refine Ex_if_eq 13 26 dX9_meets_10 (by decide) rfl (fun c1 => ?_) (fun c1 => ?_)
  · refine Ex_iconst 27 (v := (-1)) dX9_meets_26 (by decide) rfl ?_
    refine Ex_iret dX9_meets_27 rfl rfl (Or.inl rfl) ?_
    have e : spMeets O H qv qu = -1 := by
      simp [spMeets, hmTwo_n1 (hmB_eq c1)]
    rw [← e]
    exact hQ _ hmMg.rf hS
  · refine Ex_aload_n 14 (i := 0) dX9_meets_13 rfl rfl rfl ?_
    refine Ex_iload_n 15 (i := 2) dX9_meets_14 rfl rfl rfl ?_
    refine Ex_callV (M' := MX9_isCaller) 18 [.int qu] (rest := []) dX9_meets_15 lX9_347 mX9_isCaller rfl (xMs_0 hm) rfl (Nat.le_of_ble_eq_true rfl) (Nat.le_of_ble_eq_true rfl) rfl ?_
    refine mc_isCaller hm on o6 ?_
    simp only [Option.toList, List.cons_append, List.nil_append]
    refine Ex_if_eq 21 26 dX9_meets_18 (by decide) rfl (fun c2 => ?_) (fun c2 => ?_)
    · refine Ex_iconst 27 (v := (-1)) dX9_meets_26 (by decide) rfl ?_
      refine Ex_iret dX9_meets_27 rfl rfl (Or.inl rfl) ?_
      have e : spMeets O H qv qu = -1 := by
        simp [spMeets, hmTwo_n2 (hmB_eq c2)]
      rw [← e]
      exact hQ _ hmMg.rf hS
    · refine Ex_iload_n 22 (i := 1) dX9_meets_21 rfl rfl rfl ?_
      refine Ex_iload_n 23 (i := 2) dX9_meets_22 rfl rfl rfl ?_
      refine Ex_icmp_ne 26 28 dX9_meets_23 (by decide) rfl (fun c3 => ?_) (fun c3 => ?_)
      · have htw := hmTwo_mk (hmB_ne c1) (hmB_ne c2) c3
        obtain ⟨x, y, hxN, hyN, hxy, rfl, rfl⟩ := hmTwo_of htw
        have hix : hmIx (nI x) = x := hmIx_nI (by omega)
        have hiy : hmIx (nI y) = y := hmIx_nI (by omega)
        refine Ex_aload_n 29 (i := 0) dX9_meets_28 rfl rfl rfl ?_
        refine Ex_getR 32 dX9_meets_29 fX9_93 (xMs_0 hm) rfl (xMr_39 hm) rfl ?_
        refine Ex_iconst 33 (v := 0) dX9_meets_32 (by decide) rfl ?_
        refine Ex_aload_n 34 (i := 0) dX9_meets_33 rfl rfl rfl ?_
        refine Ex_getR 37 dX9_meets_34 fX9_99 (xMs_0 hm) rfl (xMr_41 hm) rfl ?_
        refine Ex_iconst 38 (v := 0) dX9_meets_37 (by decide) rfl ?_
        refine Ex_callS (M' := MX9_copies) 41 [.ref (m + 28), .int 0, .ref (m + 30), .int 0] (rest := []) dX9_meets_38 lX9_350 mX9_copies rfl rfl (Nat.le_of_ble_eq_true rfl) (Nat.le_of_ble_eq_true rfl) rfl ?_
        refine mc_cp (np := 58) (nq := 58) (a := 0) (b := 0) (J := (va_up I (m + 30) (va_cpy (I (m + 28)) (I (m + 30)) 0 0 58))) (xMs_28 hm) (xMs_30 hm) (by omega) (by omega) (by omega) (by omega) (by omega) rfl rfl rfl ?_
        simp only [Option.toList, List.nil_append, List.cons_append]
        refine Ex_aload_n 42 (i := 0) dX9_meets_41 rfl rfl rfl ?_
        refine Ex_getR 45 dX9_meets_42 fX9_93 (xMs_0 hm) rfl (xMr_39 hm) rfl ?_
        refine Ex_bipush 47 (v := 22) dX9_meets_45 (by decide) rfl ?_
        refine Ex_bipush 49 (v := 6) dX9_meets_47 (by decide) rfl ?_
        refine Ex_iload_n 50 (i := 1) dX9_meets_49 rfl rfl rfl ?_
        refine Ex_imul 51 dX9_meets_50 rfl ?_
        refine Ex_iadd 52 dX9_meets_51 rfl ?_
        refine Ex_iload_n 53 (i := 2) dX9_meets_52 rfl rfl rfl ?_
        refine Ex_iadd 54 dX9_meets_53 rfl ?_
        refine Ex_aI 55 ((22 + (6 * x)) + y) (I (m + 28) ((22 + (6 * x)) + y)) dX9_meets_54 (xMs_28 hm) (hm_ad (hm_ad rfl (hm_mu rfl rfl)) rfl) (by omega) (by decide) (congrFun (va_up_ne _ _ (by omega)) _) rfl ?_
        rw [stalk x (by omega) y (by omega)]
        refine Ex_istore_n 56 (i := 3) (ls' := [some (.ref m), some (.int (nI x)), some (.int (nI y)), some (.int (nI (hmTalk H x y))), none, none]) dX9_meets_55 rfl (Nat.le_of_ble_eq_true rfl) rfl rfl rfl ?_
        refine Ex_iconst 57 (v := 0) dX9_meets_56 (by decide) rfl ?_
        refine Ex_istore 59 (ls' := [some (.ref m), some (.int (nI x)), some (.int (nI y)), some (.int (nI (hmTalk H x y))), some (.int 0), none]) dX9_meets_57 (Nat.le_of_ble_eq_true rfl) rfl rfl rfl ?_
        refine Ex_iconst 60 (v := (-1)) dX9_meets_59 (by decide) rfl ?_
        refine Ex_istore 62 (ls' := [some (.ref m), some (.int (nI x)), some (.int (nI y)), some (.int (nI (hmTalk H x y))), some (.int 0), some (.int (-1))]) dX9_meets_60 (Nat.le_of_ble_eq_true rfl) rfl rfl rfl ?_
        have e : spMeets O H (nI x) (nI y) = hmWv 0 (hmMeets O (hmTalk H x y) 30 H x y) := by simp only [spMeets, htw, hix, hiy, if_true]
        rw [e] at hQ
        refine mb_meets_loop (I := I) hm ho (x := x) (y := y) (b := hmTalk H x y) (by omega) (by omega) (by have := htb x y; omega) 30 0 _ H rfl (by rw [va_up_ne _ _ (by omega)]; exact hS) (hO.kept (fun z a b => by rw [va_up_ne _ _ (by omega)])) hok (by rw [va_up_ne _ _ (by omega)]; exact h46) (by omega) (hmGone_0 H) htb (fun I' g => ?_)
        have gg : hmMg m I I' := hmMg.tr (hmMg.up hmMg.rf (by unfold hmMt; omega)) g.mg
        refine hQ _ (hmMg.up gg (by unfold hmMt; omega)) ?_
        rw [va_up_self, g.1 (m + 30) (by omega) (by omega) (by omega) (by omega), va_up_self]
        exact hS.cpy rfl _
      · refine Ex_iconst 27 (v := (-1)) dX9_meets_26 (by decide) rfl ?_
        refine Ex_iret dX9_meets_27 rfl rfl (Or.inl rfl) ?_
        have e : spMeets O H qv qu = -1 := by
          simp [spMeets, hmTwo_n3 c3]
        rw [← e]
        exact hQ _ hmMg.rf hS
set_option maxHeartbeats 4000000 in
theorem mq_meets {d : Nat} {sh : xSh} {R : xR} {L : xL} {I : xI} {Q : xQ} {m : Nat} {O : hmO} {H : hmH} (hm : xModel sh R m) (hS : hmMr (I (m + 28)) H) (hO : hmMo I m O) (ho : hmOok O) (hok : hmOk O H) (h46 : I m 46 = nI (hmTk O)) (hmn : hmMin H < 800000) {qv qu : Int32} (htb : hmTkb H) (hQ : ∀ I', hmMg m (hmTh I m) I' → hmMr (I' (m + 28)) H → Q (some (.int (spMeets O H qv qu))) 0 sh R L I') : Ex (d + 7) 0 0 MX9_meets 0 sh R L I 0 [some (.ref m), some (.int qv), some (.int qu), none, none, none] [] Q := by
  refine Ex_aload_n 1 (i := 0) dX9_meets_0 rfl rfl rfl ?_
  refine Ex_iconst 2 (v := 0) dX9_meets_1 (by decide) rfl ?_
  refine Ex_pI 5 (I m) (va_up I m (va_up (I m) 0 0)) dX9_meets_2 fX9_130 rfl (xMs_0 hm) rfl (fun _ => rfl) rfl rfl rfl rfl ?_
  exact mb_meets hm (hmTh_mr hS) (hmTh_mo hO) ho hok ((hmTh_f (by omega)).trans h46) hmn htb hQ
