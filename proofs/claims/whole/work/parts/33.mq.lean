/-! the reference's queries -/
/-- the rows that a query of the reference may change -/
def hmMt (m x : Nat) : Prop := x = m ∨ (m + 11 ≤ x ∧ x < m + 23) ∨ (m + 28 ≤ x ∧ x < m + 31) ∨ (m + 34 ≤ x ∧ x < m + 38)
def hmMg (m : Nat) (I I' : xI) : Prop := (∀ x, ¬ hmMt m x → I' x = I x) ∧ I' m 0 = I m 0 ∧ I' m 1 = I m 1 ∧ I' m 45 = I m 45 ∧ I' m 46 = I m 46
theorem hmMg.rf {m : Nat} {I : xI} : hmMg m I I := ⟨fun _ _ => rfl, rfl, rfl, rfl, rfl⟩
theorem hmMg.tr {m : Nat} {I J K : xI} (h1 : hmMg m I J) (h2 : hmMg m J K) : hmMg m I K := ⟨fun x a => (h2.1 x a).trans (h1.1 x a), h2.2.1.trans h1.2.1, h2.2.2.1.trans h1.2.2.1, h2.2.2.2.1.trans h1.2.2.2.1, h2.2.2.2.2.trans h1.2.2.2.2⟩
theorem hmMg.fm {m : Nat} {I J : xI} (h1 : hmFm m I J) : hmMg m I J := by
  have h2 := h1 m (by omega) (by omega)
  refine ⟨fun x a => h1 x (fun q => a (by unfold hmMt; omega)) (fun q => a (by unfold hmMt; omega)), ?_, ?_, ?_, ?_⟩ <;> rw [h2]
theorem hmMg.up {m : Nat} {I J : xI} (h1 : hmMg m I J) {a : Nat} {r : Nat → Int32} (ha : hmMt m a ∧ a ≠ m) : hmMg m I (va_up J a r) := by
  refine ⟨fun x hx => ?_, ?_, ?_, ?_, ?_⟩
  · rw [va_up_ne _ _ (fun q => hx (by rw [q]; exact ha.1))]; exact h1.1 x hx
  · rw [va_up_ne _ _ (fun q => ha.2 q.symm)]; exact h1.2.1
  · rw [va_up_ne _ _ (fun q => ha.2 q.symm)]; exact h1.2.2.1
  · rw [va_up_ne _ _ (fun q => ha.2 q.symm)]; exact h1.2.2.2.1
  · rw [va_up_ne _ _ (fun q => ha.2 q.symm)]; exact h1.2.2.2.2
theorem hmMg.um {m : Nat} {I J : xI} (h1 : hmMg m I J) {k : Nat} {v : Int32} (hk : k ≠ 0 ∧ k ≠ 1 ∧ k ≠ 45 ∧ k ≠ 46) : hmMg m I (va_up J m (va_up (J m) k v)) := by
  refine ⟨fun x hx => ?_, ?_, ?_, ?_, ?_⟩
  · rw [va_up_ne _ _ (fun q => hx (Or.inl q))]; exact h1.1 x hx
  · rw [va_up_self, va_up_ne _ _ (by omega)]; exact h1.2.1
  · rw [va_up_self, va_up_ne _ _ (by omega)]; exact h1.2.2.1
  · rw [va_up_self, va_up_ne _ _ (by omega)]; exact h1.2.2.2.1
  · rw [va_up_self, va_up_ne _ _ (by omega)]; exact h1.2.2.2.2
theorem hmMg.mo {m : Nat} {I J : xI} {O : hmO} (h1 : hmMg m I J) (h : hmMo I m O) : hmMo J m O := h.kept (fun x a b => h1.1 x (by unfold hmMt; omega))
/-- nothing was thrown -/
def hmTh (I : xI) (m : Nat) : xI := va_up I m (va_up (I m) 0 0)
theorem hmTh_mo {m : Nat} {I : xI} {O : hmO} (h : hmMo I m O) : hmMo (hmTh I m) m O := h.kept (fun x a b => va_up_ne _ _ (by omega))
theorem hmTh_r {m k : Nat} {I : xI} (hk : 0 < k) : hmTh I m (m + k) = I (m + k) := va_up_ne _ _ (by omega)
theorem hmTh_mr {m : Nat} {I : xI} {H : hmH} (h : hmMr (I (m + 28)) H) : hmMr (hmTh I m (m + 28)) H := by
  rw [hmTh_r (by omega)]
  exact h
theorem hmTh_f {m k : Nat} {I : xI} (hk : k ≠ 0) : hmTh I m m k = I m k := by
  unfold hmTh
  rw [va_up_self, va_up_ne _ _ hk]
theorem hmTwo_mk {n : Nat} {v u : Int32} (h1 : hmCal n v = true) (h2 : hmCal n u = true) (h3 : ¬ v = u) : hmTwo n v u = true := by simp [hmTwo, h1, h2, h3]
theorem hmTwo_n1 {n : Nat} {v u : Int32} (h1 : hmCal n v = false) : hmTwo n v u = false := by simp [hmTwo, h1]
theorem hmTwo_n2 {n : Nat} {v u : Int32} (h1 : hmCal n u = false) : hmTwo n v u = false := by simp [hmTwo, h1]
theorem hmTwo_n3 {n : Nat} {v u : Int32} (h1 : v = u) : hmTwo n v u = false := by simp [hmTwo, h1]
theorem hmWith_cal {v : Int32} {k : Nat} (hk : k < 1000) : hmWith v 0 (nI k) = hmCal (k + 1) v := by
  unfold hmWith hmCal
  apply decide_eq_decide.mpr
  rw [Int32.not_lt, Int32.not_lt, Int32.le_iff_toInt_le, Int32.le_iff_toInt_le, nI_toInt (by omega)]
  have e0 : (0 : Int32).toInt = 0 := by decide
  omega
set_option maxHeartbeats 4000000 in
theorem mb_met {d : Nat} {sh : xSh} {R : xR} {L : xL} {I : xI} {Q : xQ} {m : Nat} {H : hmH} {O : hmO} (hm : xModel sh R m) (hS : hmMr (I (m + 28)) H) (hO : hmMo I m O) (ho : hmOok O) (hok : hmOk O H) {qv qu : Int32} (hQ : Q (some (.int (spMet (hmN O) H qv qu))) 0 sh R L I) : Ex (d + 1) 0 0 MX9_met 0 sh R L I 5 [some (.ref m), some (.int qv), some (.int qu)] [] Q := by
  obtain ⟨s6, smin, slen, sset, stak, sline, sheld, shas, stalk⟩ := id hS
  obtain ⟨o6, ot1, ot2, oo, oll, owf⟩ := id ho
  obtain ⟨on, otk, ow, cd, cfrom, cto, clen, ccd, csem⟩ := id hO
  have hlN := hok.2.1
  refine Ex_aload_n 6 (i := 0) dX9_met_5 rfl rfl rfl ?_
  refine Ex_iload_n 7 (i := 1) dX9_met_6 rfl rfl rfl ?_
  refine Ex_callV (M' := MX9_isCaller) 10 [.int qv] (rest := []) dX9_met_7 lX9_347 mX9_isCaller rfl (xMs_0 hm) rfl (Nat.le_of_ble_eq_true rfl) (Nat.le_of_ble_eq_true rfl) rfl ?_
  refine mc_isCaller hm on o6 ?_
  simp only [Option.toList, List.cons_append, List.nil_append]
  refine Ex_if_eq 13 43 dX9_met_10 (by decide) rfl (fun c1 => ?_) (fun c1 => ?_)
  · refine Ex_iconst 44 (v := (-1)) dX9_met_43 (by decide) rfl ?_
    refine Ex_iret dX9_met_44 rfl rfl (Or.inl rfl) ?_
    have e : spMet (hmN O) H qv qu = -1 := by
      simp [spMet, hmTwo_n1 (hmB_eq c1)]
    rw [← e]
    exact hQ
  · refine Ex_aload_n 14 (i := 0) dX9_met_13 rfl rfl rfl ?_
    refine Ex_iload_n 15 (i := 2) dX9_met_14 rfl rfl rfl ?_
    refine Ex_callV (M' := MX9_isCaller) 18 [.int qu] (rest := []) dX9_met_15 lX9_347 mX9_isCaller rfl (xMs_0 hm) rfl (Nat.le_of_ble_eq_true rfl) (Nat.le_of_ble_eq_true rfl) rfl ?_
    refine mc_isCaller hm on o6 ?_
    simp only [Option.toList, List.cons_append, List.nil_append]
    refine Ex_if_eq 21 43 dX9_met_18 (by decide) rfl (fun c2 => ?_) (fun c2 => ?_)
    · refine Ex_iconst 44 (v := (-1)) dX9_met_43 (by decide) rfl ?_
      refine Ex_iret dX9_met_44 rfl rfl (Or.inl rfl) ?_
      have e : spMet (hmN O) H qv qu = -1 := by
        simp [spMet, hmTwo_n2 (hmB_eq c2)]
      rw [← e]
      exact hQ
    · refine Ex_iload_n 22 (i := 1) dX9_met_21 rfl rfl rfl ?_
      refine Ex_iload_n 23 (i := 2) dX9_met_22 rfl rfl rfl ?_
      refine Ex_icmp_eq 26 43 dX9_met_23 (by decide) rfl (fun c3 => ?_) (fun c3 => ?_)
      · refine Ex_iconst 44 (v := (-1)) dX9_met_43 (by decide) rfl ?_
        refine Ex_iret dX9_met_44 rfl rfl (Or.inl rfl) ?_
        have e : spMet (hmN O) H qv qu = -1 := by
          simp [spMet, hmTwo_n3 c3]
        rw [← e]
        exact hQ
      · have htw := hmTwo_mk (hmB_ne c1) (hmB_ne c2) c3
        obtain ⟨x, y, hxN, hyN, hxy, rfl, rfl⟩ := hmTwo_of htw
        have hix : hmIx (nI x) = x := hmIx_nI (by omega)
        have hiy : hmIx (nI y) = y := hmIx_nI (by omega)
        refine Ex_aload_n 27 (i := 0) dX9_met_26 rfl rfl rfl ?_
        refine Ex_getR 30 dX9_met_27 fX9_93 (xMs_0 hm) rfl (xMr_39 hm) rfl ?_
        refine Ex_bipush 32 (v := 22) dX9_met_30 (by decide) rfl ?_
        refine Ex_bipush 34 (v := 6) dX9_met_32 (by decide) rfl ?_
        refine Ex_iload_n 35 (i := 1) dX9_met_34 rfl rfl rfl ?_
        refine Ex_imul 36 dX9_met_35 rfl ?_
        refine Ex_iadd 37 dX9_met_36 rfl ?_
        refine Ex_iload_n 38 (i := 2) dX9_met_37 rfl rfl rfl ?_
        refine Ex_iadd 39 dX9_met_38 rfl ?_
        refine Ex_aI 40 ((22 + (6 * x)) + y) (I (m + 28) ((22 + (6 * x)) + y)) dX9_met_39 (xMs_28 hm) (hm_ad (hm_ad rfl (hm_mu rfl rfl)) rfl) (by omega) (by decide) rfl rfl ?_
        rw [stalk x (by omega) y (by omega)]
        refine Ex_goto 44 dX9_met_40 (by decide) ?_
        refine Ex_iret dX9_met_44 rfl rfl (Or.inl rfl) ?_
        have e : spMet (hmN O) H (nI x) (nI y) = nI (hmTalk H x y) := by
          simp [spMet, htw, hix, hiy]
        rw [← e]
        exact hQ
set_option maxHeartbeats 4000000 in
theorem mq_met {d : Nat} {sh : xSh} {R : xR} {L : xL} {I : xI} {Q : xQ} {m : Nat} {H : hmH} {O : hmO} (hm : xModel sh R m) (hS : hmMr (I (m + 28)) H) (hO : hmMo I m O) (ho : hmOok O) (hok : hmOk O H) {qv qu : Int32} (hQ : ∀ I', hmMg m (hmTh I m) I' → hmMr (I' (m + 28)) H → Q (some (.int (spMet (hmN O) H qv qu))) 0 sh R L I') : Ex (d + 1) 0 0 MX9_met 0 sh R L I 0 [some (.ref m), some (.int qv), some (.int qu)] [] Q := by
  refine Ex_aload_n 1 (i := 0) dX9_met_0 rfl rfl rfl ?_
  refine Ex_iconst 2 (v := 0) dX9_met_1 (by decide) rfl ?_
  refine Ex_pI 5 (I m) (va_up I m (va_up (I m) 0 0)) dX9_met_2 fX9_130 rfl (xMs_0 hm) rfl (fun _ => rfl) rfl rfl rfl rfl ?_
  exact mb_met hm (hmTh_mr hS) (hmTh_mo hO) ho hok  (hQ _ hmMg.rf (hmTh_mr hS))
set_option maxHeartbeats 4000000 in
theorem mb_line {d : Nat} {sh : xSh} {R : xR} {L : xL} {I : xI} {Q : xQ} {m : Nat} {H : hmH} {O : hmO} (hm : xModel sh R m) (hS : hmMr (I (m + 28)) H) (hO : hmMo I m O) (ho : hmOok O) (hok : hmOk O H) {qv : Int32} (hQ : Q (some (.int (spLine H qv))) 0 sh R L I) : Ex d 0 0 MX9_line 0 sh R L I 5 [some (.ref m), some (.int qv)] [] Q := by
  obtain ⟨s6, smin, slen, sset, stak, sline, sheld, shas, stalk⟩ := id hS
  obtain ⟨o6, ot1, ot2, oo, oll, owf⟩ := id ho
  obtain ⟨on, otk, ow, cd, cfrom, cto, clen, ccd, csem⟩ := id hO
  have hlN := hok.2.1
  refine Ex_iload_n 6 (i := 1) dX9_line_5 rfl rfl rfl ?_
  refine Ex_if_lt 9 30 dX9_line_6 (by decide) rfl (fun c1 => ?_) (fun c1 => ?_)
  · refine Ex_iconst 31 (v := (-1)) dX9_line_30 (by decide) rfl ?_
    refine Ex_iret dX9_line_31 rfl rfl (Or.inl rfl) ?_
    have e : spLine H qv = -1 := by
      have h1 : hmCal (hmLine H).length qv = false := by
        simp only [hmCal, decide_eq_false_iff_not]; exact fun q => absurd (hm_lt0.mp c1) (by omega)
      simp [spLine, h1]
    rw [← e]
    exact hQ
  · refine Ex_iload_n 10 (i := 1) dX9_line_9 rfl rfl rfl ?_
    refine Ex_aload_n 11 (i := 0) dX9_line_10 rfl rfl rfl ?_
    refine Ex_getR 14 dX9_line_11 fX9_93 (xMs_0 hm) rfl (xMr_39 hm) rfl ?_
    refine Ex_iconst 15 (v := 1) dX9_line_14 (by decide) rfl ?_
    refine Ex_aI 16 1 (I (m + 28) 1) dX9_line_15 (xMs_28 hm) rfl (by decide) (by decide) rfl rfl ?_
    rw [slen]
    refine Ex_icmp_ge 19 30 dX9_line_16 (by decide) rfl (fun c2 => ?_) (fun c2 => ?_)
    · refine Ex_iconst 31 (v := (-1)) dX9_line_30 (by decide) rfl ?_
      refine Ex_iret dX9_line_31 rfl rfl (Or.inl rfl) ?_
      have e : spLine H qv = -1 := by
        have h1 : hmCal (hmLine H).length qv = false := by
          simp only [hmCal, decide_eq_false_iff_not]; exact fun q => absurd ((hm_leN (by omega)).mp c2) (by omega)
        simp [spLine, h1]
      rw [← e]
      exact hQ
    · have hct : hmCal (hmLine H).length qv = true := by
        simp only [hmCal, decide_eq_true_eq]
        have h1 : ¬ qv.toInt < 0 := fun q => c1 (hm_lt0.mpr q)
        have h2 : ¬ ((hmLine H).length : Int) ≤ qv.toInt := fun q => c2 ((hm_leN (by omega)).mpr q)
        omega
      obtain ⟨w, hw, rfl⟩ := hmCal_of hct
      have hix : hmIx (nI w) = w := hmIx_nI (by omega)
      refine Ex_aload_n 20 (i := 0) dX9_line_19 rfl rfl rfl ?_
      refine Ex_getR 23 dX9_line_20 fX9_93 (xMs_0 hm) rfl (xMr_39 hm) rfl ?_
      refine Ex_iconst 24 (v := 4) dX9_line_23 (by decide) rfl ?_
      refine Ex_iload_n 25 (i := 1) dX9_line_24 rfl rfl rfl ?_
      refine Ex_iadd 26 dX9_line_25 rfl ?_
      refine Ex_aI 27 (4 + w) (I (m + 28) (4 + w)) dX9_line_26 (xMs_28 hm) (hm_ad rfl rfl) (by omega) (by decide) rfl rfl ?_
      rw [sline w hw]
      refine Ex_goto 31 dX9_line_27 (by decide) ?_
      refine Ex_iret dX9_line_31 rfl rfl (Or.inl rfl) ?_
      have e : spLine H (nI w) = nI ((hmLine H).getD w 0) := by
        simp only [spLine, hct, hix, if_true]
      rw [← e]
      exact hQ
set_option maxHeartbeats 4000000 in
theorem mq_line {d : Nat} {sh : xSh} {R : xR} {L : xL} {I : xI} {Q : xQ} {m : Nat} {H : hmH} {O : hmO} (hm : xModel sh R m) (hS : hmMr (I (m + 28)) H) (hO : hmMo I m O) (ho : hmOok O) (hok : hmOk O H) {qv : Int32} (hQ : ∀ I', hmMg m (hmTh I m) I' → hmMr (I' (m + 28)) H → Q (some (.int (spLine H qv))) 0 sh R L I') : Ex d 0 0 MX9_line 0 sh R L I 0 [some (.ref m), some (.int qv)] [] Q := by
  refine Ex_aload_n 1 (i := 0) dX9_line_0 rfl rfl rfl ?_
  refine Ex_iconst 2 (v := 0) dX9_line_1 (by decide) rfl ?_
  refine Ex_pI 5 (I m) (va_up I m (va_up (I m) 0 0)) dX9_line_2 fX9_130 rfl (xMs_0 hm) rfl (fun _ => rfl) rfl rfl rfl rfl ?_
  exact mb_line hm (hmTh_mr hS) (hmTh_mo hO) ho hok  (hQ _ hmMg.rf (hmTh_mr hS))
theorem hm_w7 {v : Int32} (h : hmWith v 0 6 = true) : v = nI 0 ∨ v = nI 1 ∨ v = nI 2 ∨ v = nI 3 ∨ v = nI 4 ∨ v = nI 5 ∨ v = nI 6 := by
  have h1 : hmCal 7 v = true := by
    rw [← hmWith_cal (k := 6) (by omega)]
    exact h
  obtain ⟨w, hw, rfl⟩ := hmCal_of h1
  have h2 : w = 0 ∨ w = 1 ∨ w = 2 ∨ w = 3 ∨ w = 4 ∨ w = 5 ∨ w = 6 := by omega
  rcases h2 with rfl | rfl | rfl | rfl | rfl | rfl | rfl <;> simp
theorem hm_w7n {v : Int32} (h : hmWith v 0 6 = false) : ∀ k : Nat, k < 7 → ¬ v = nI k := by
  intro k hk q
  subst q
  have h1 : hmCal 7 (nI k) = false := by
    rw [← hmWith_cal (k := 6) (by omega)]
    exact h
  simp only [hmCal, decide_eq_false_iff_not] at h1
  rw [nI_toInt (by omega)] at h1
  omega
set_option maxHeartbeats 4000000 in
theorem mb_caller0 {d : Nat} {sh : xSh} {R : xR} {L : xL} {I : xI} {Q : xQ} {m : Nat} {H : hmH} {O : hmO} (hm : xModel sh R m) (hS : hmMr (I (m + 28)) H) (hO : hmMo I m O) (ho : hmOok O) (hok : hmOk O H) {w : Nat} (hw : w < hmN O) (hQ : Q (some (.int (spCaller O H (nI w) 0))) 0 sh R L I) : Ex (d + 1) 0 0 MX9_caller 0 sh R L I 26 [some (.ref m), some (.int (nI w)), some (.int 0)] [] Q := by
  obtain ⟨s6, smin, slen, sset, stak, sline, sheld, shas, stalk⟩ := id hS
  obtain ⟨o6, ot1, ot2, oo, oll, owf⟩ := id ho
  obtain ⟨on, otk, ow, cd, cfrom, cto, clen, ccd, csem⟩ := id hO
  have hlN := hok.2.1
  have hct : hmCal (hmN O) (nI w) = true := hmCal_nI hw (by omega)
  have hix : hmIx (nI w) = w := hmIx_nI (by omega)
  refine Ex_iload_n 27 (i := 2) dX9_caller_26 rfl rfl rfl ?_
  refine Ex_iconst 28 (v := 3) dX9_caller_27 (by decide) rfl ?_
  refine Ex_icmp_ge 31 65 dX9_caller_28 (by decide) rfl (fun c1 => absurd c1 (by decide)) (fun c1 => ?_)
  refine Ex_iload_n 32 (i := 2) dX9_caller_31 rfl rfl rfl ?_
  refine Ex_if_ne 35 44 dX9_caller_32 (by decide) rfl (fun c2 => absurd c2 (fun q => q (by decide))) (fun c2 => ?_)
  refine Ex_aload_n 36 (i := 0) dX9_caller_35 rfl rfl rfl ?_
  refine Ex_getR 39 dX9_caller_36 fX9_20 (xMs_0 hm) rfl (xMr_12 hm) rfl ?_
  refine Ex_iload_n 40 (i := 1) dX9_caller_39 rfl rfl rfl ?_
  refine Ex_aI 41 w (I (m + 4) w) dX9_caller_40 (xMs_4 hm) rfl (by omega) (by decide) rfl rfl ?_
  rw [(ow w hw).1]
  refine Ex_goto 64 dX9_caller_41 (by decide) ?_
  refine Ex_iret dX9_caller_64 rfl rfl (Or.inl rfl) ?_
  have e : spCaller O H (nI w) 0 = nI (hmKi O w) := by
    simp only [spCaller, hct, hix, if_true]
    try rfl
  rw [← e]
  exact hQ
set_option maxHeartbeats 4000000 in
theorem mb_caller1 {d : Nat} {sh : xSh} {R : xR} {L : xL} {I : xI} {Q : xQ} {m : Nat} {H : hmH} {O : hmO} (hm : xModel sh R m) (hS : hmMr (I (m + 28)) H) (hO : hmMo I m O) (ho : hmOok O) (hok : hmOk O H) {w : Nat} (hw : w < hmN O) (hQ : Q (some (.int (spCaller O H (nI w) 1))) 0 sh R L I) : Ex (d + 1) 0 0 MX9_caller 0 sh R L I 26 [some (.ref m), some (.int (nI w)), some (.int 1)] [] Q := by
  obtain ⟨s6, smin, slen, sset, stak, sline, sheld, shas, stalk⟩ := id hS
  obtain ⟨o6, ot1, ot2, oo, oll, owf⟩ := id ho
  obtain ⟨on, otk, ow, cd, cfrom, cto, clen, ccd, csem⟩ := id hO
  have hlN := hok.2.1
  have hct : hmCal (hmN O) (nI w) = true := hmCal_nI hw (by omega)
  have hix : hmIx (nI w) = w := hmIx_nI (by omega)
  refine Ex_iload_n 27 (i := 2) dX9_caller_26 rfl rfl rfl ?_
  refine Ex_iconst 28 (v := 3) dX9_caller_27 (by decide) rfl ?_
  refine Ex_icmp_ge 31 65 dX9_caller_28 (by decide) rfl (fun c1 => absurd c1 (by decide)) (fun c1 => ?_)
  refine Ex_iload_n 32 (i := 2) dX9_caller_31 rfl rfl rfl ?_
  refine Ex_if_ne 35 44 dX9_caller_32 (by decide) rfl (fun c2 => ?_) (fun c2 => absurd c2 (by decide))
  refine Ex_iload_n 45 (i := 2) dX9_caller_44 rfl rfl rfl ?_
  refine Ex_iconst 46 (v := 1) dX9_caller_45 (by decide) rfl ?_
  refine Ex_icmp_ne 49 58 dX9_caller_46 (by decide) rfl (fun c3 => absurd c3 (fun q => q (by decide))) (fun c3 => ?_)
  refine Ex_aload_n 50 (i := 0) dX9_caller_49 rfl rfl rfl ?_
  refine Ex_getR 53 dX9_caller_50 fX9_23 (xMs_0 hm) rfl (xMr_13 hm) rfl ?_
  refine Ex_iload_n 54 (i := 1) dX9_caller_53 rfl rfl rfl ?_
  refine Ex_aI 55 w (I (m + 5) w) dX9_caller_54 (xMs_5 hm) rfl (by omega) (by decide) rfl rfl ?_
  rw [(ow w hw).2.1]
  refine Ex_goto 64 dX9_caller_55 (by decide) ?_
  refine Ex_iret dX9_caller_64 rfl rfl (Or.inl rfl) ?_
  have e : spCaller O H (nI w) 1 = nI (hmTr O w) := by
    simp only [spCaller, hct, hix, if_true]
    try rfl
  rw [← e]
  exact hQ
set_option maxHeartbeats 4000000 in
theorem mb_caller2 {d : Nat} {sh : xSh} {R : xR} {L : xL} {I : xI} {Q : xQ} {m : Nat} {H : hmH} {O : hmO} (hm : xModel sh R m) (hS : hmMr (I (m + 28)) H) (hO : hmMo I m O) (ho : hmOok O) (hok : hmOk O H) {w : Nat} (hw : w < hmN O) (hQ : Q (some (.int (spCaller O H (nI w) 2))) 0 sh R L I) : Ex (d + 1) 0 0 MX9_caller 0 sh R L I 26 [some (.ref m), some (.int (nI w)), some (.int 2)] [] Q := by
  obtain ⟨s6, smin, slen, sset, stak, sline, sheld, shas, stalk⟩ := id hS
  obtain ⟨o6, ot1, ot2, oo, oll, owf⟩ := id ho
  obtain ⟨on, otk, ow, cd, cfrom, cto, clen, ccd, csem⟩ := id hO
  have hlN := hok.2.1
  have hct : hmCal (hmN O) (nI w) = true := hmCal_nI hw (by omega)
  have hix : hmIx (nI w) = w := hmIx_nI (by omega)
  refine Ex_iload_n 27 (i := 2) dX9_caller_26 rfl rfl rfl ?_
  refine Ex_iconst 28 (v := 3) dX9_caller_27 (by decide) rfl ?_
  refine Ex_icmp_ge 31 65 dX9_caller_28 (by decide) rfl (fun c1 => absurd c1 (by decide)) (fun c1 => ?_)
  refine Ex_iload_n 32 (i := 2) dX9_caller_31 rfl rfl rfl ?_
  refine Ex_if_ne 35 44 dX9_caller_32 (by decide) rfl (fun c2 => ?_) (fun c2 => absurd c2 (by decide))
  refine Ex_iload_n 45 (i := 2) dX9_caller_44 rfl rfl rfl ?_
  refine Ex_iconst 46 (v := 1) dX9_caller_45 (by decide) rfl ?_
  refine Ex_icmp_ne 49 58 dX9_caller_46 (by decide) rfl (fun c3 => ?_) (fun c3 => absurd c3 (by decide))
  refine Ex_aload_n 59 (i := 0) dX9_caller_58 rfl rfl rfl ?_
  refine Ex_getR 62 dX9_caller_59 fX9_29 (xMs_0 hm) rfl (xMr_15 hm) rfl ?_
  refine Ex_iload_n 63 (i := 1) dX9_caller_62 rfl rfl rfl ?_
  refine Ex_aI 64 w (I (m + 7) w) dX9_caller_63 (xMs_7 hm) rfl (by omega) (by decide) rfl rfl ?_
  rw [(ow w hw).2.2.2]
  refine Ex_iret dX9_caller_64 rfl rfl (Or.inl rfl) ?_
  have e : spCaller O H (nI w) 2 = nI (hmHo O w) := by
    simp only [spCaller, hct, hix, if_true]
    try rfl
  rw [← e]
  exact hQ
set_option maxHeartbeats 4000000 in
theorem mb_caller3 {d : Nat} {sh : xSh} {R : xR} {L : xL} {I : xI} {Q : xQ} {m : Nat} {H : hmH} {O : hmO} (hm : xModel sh R m) (hS : hmMr (I (m + 28)) H) (hO : hmMo I m O) (ho : hmOok O) (hok : hmOk O H) {w : Nat} (hw : w < hmN O) (hQ : Q (some (.int (spCaller O H (nI w) 3))) 0 sh R L I) : Ex (d + 1) 0 0 MX9_caller 0 sh R L I 26 [some (.ref m), some (.int (nI w)), some (.int 3)] [] Q := by
  obtain ⟨s6, smin, slen, sset, stak, sline, sheld, shas, stalk⟩ := id hS
  obtain ⟨o6, ot1, ot2, oo, oll, owf⟩ := id ho
  obtain ⟨on, otk, ow, cd, cfrom, cto, clen, ccd, csem⟩ := id hO
  have hlN := hok.2.1
  have hct : hmCal (hmN O) (nI w) = true := hmCal_nI hw (by omega)
  have hix : hmIx (nI w) = w := hmIx_nI (by omega)
  refine Ex_iload_n 27 (i := 2) dX9_caller_26 rfl rfl rfl ?_
  refine Ex_iconst 28 (v := 3) dX9_caller_27 (by decide) rfl ?_
  refine Ex_icmp_ge 31 65 dX9_caller_28 (by decide) rfl (fun c1 => ?_) (fun c1 => absurd c1 (fun q => q (by decide)))
  refine Ex_iload_n 66 (i := 2) dX9_caller_65 rfl rfl rfl ?_
  refine Ex_iconst 67 (v := 5) dX9_caller_66 (by decide) rfl ?_
  refine Ex_icmp_ge 70 101 dX9_caller_67 (by decide) rfl (fun c2 => absurd c2 (by decide)) (fun c2 => ?_)
  refine Ex_iload_n 71 (i := 2) dX9_caller_70 rfl rfl rfl ?_
  refine Ex_iconst 72 (v := 3) dX9_caller_71 (by decide) rfl ?_
  refine Ex_icmp_ne 75 87 dX9_caller_72 (by decide) rfl (fun c3 => absurd c3 (fun q => q (by decide))) (fun c3 => ?_)
  refine Ex_aload_n 76 (i := 0) dX9_caller_75 rfl rfl rfl ?_
  refine Ex_getR 79 dX9_caller_76 fX9_93 (xMs_0 hm) rfl (xMr_39 hm) rfl ?_
  refine Ex_bipush 81 (v := 16) dX9_caller_79 (by decide) rfl ?_
  refine Ex_iload_n 82 (i := 1) dX9_caller_81 rfl rfl rfl ?_
  refine Ex_iadd 83 dX9_caller_82 rfl ?_
  refine Ex_aI 84 (16 + w) (I (m + 28) (16 + w)) dX9_caller_83 (xMs_28 hm) (hm_ad rfl rfl) (by omega) (by decide) rfl rfl ?_
  rw [shas w (by omega)]
  refine Ex_goto 100 dX9_caller_84 (by decide) ?_
  refine Ex_iret dX9_caller_100 rfl rfl (Or.inl rfl) ?_
  have e : spCaller O H (nI w) 3 = hmHas H w := by
    simp only [spCaller, hct, hix, if_true]
    try rfl
  rw [← e]
  exact hQ
set_option maxHeartbeats 4000000 in
theorem mb_caller4 {d : Nat} {sh : xSh} {R : xR} {L : xL} {I : xI} {Q : xQ} {m : Nat} {H : hmH} {O : hmO} (hm : xModel sh R m) (hS : hmMr (I (m + 28)) H) (hO : hmMo I m O) (ho : hmOok O) (hok : hmOk O H) {w : Nat} (hw : w < hmN O) (hQ : Q (some (.int (spCaller O H (nI w) 4))) 0 sh R L I) : Ex (d + 1) 0 0 MX9_caller 0 sh R L I 26 [some (.ref m), some (.int (nI w)), some (.int 4)] [] Q := by
  obtain ⟨s6, smin, slen, sset, stak, sline, sheld, shas, stalk⟩ := id hS
  obtain ⟨o6, ot1, ot2, oo, oll, owf⟩ := id ho
  obtain ⟨on, otk, ow, cd, cfrom, cto, clen, ccd, csem⟩ := id hO
  have hlN := hok.2.1
  have hct : hmCal (hmN O) (nI w) = true := hmCal_nI hw (by omega)
  have hix : hmIx (nI w) = w := hmIx_nI (by omega)
  refine Ex_iload_n 27 (i := 2) dX9_caller_26 rfl rfl rfl ?_
  refine Ex_iconst 28 (v := 3) dX9_caller_27 (by decide) rfl ?_
  refine Ex_icmp_ge 31 65 dX9_caller_28 (by decide) rfl (fun c1 => ?_) (fun c1 => absurd c1 (fun q => q (by decide)))
  refine Ex_iload_n 66 (i := 2) dX9_caller_65 rfl rfl rfl ?_
  refine Ex_iconst 67 (v := 5) dX9_caller_66 (by decide) rfl ?_
  refine Ex_icmp_ge 70 101 dX9_caller_67 (by decide) rfl (fun c2 => absurd c2 (by decide)) (fun c2 => ?_)
  refine Ex_iload_n 71 (i := 2) dX9_caller_70 rfl rfl rfl ?_
  refine Ex_iconst 72 (v := 3) dX9_caller_71 (by decide) rfl ?_
  refine Ex_icmp_ne 75 87 dX9_caller_72 (by decide) rfl (fun c3 => ?_) (fun c3 => absurd c3 (by decide))
  refine Ex_aload_n 88 (i := 0) dX9_caller_87 rfl rfl rfl ?_
  refine Ex_iload_n 89 (i := 1) dX9_caller_88 rfl rfl rfl ?_
  refine Ex_callV (M' := MX9_isSettled) 92 [.int (nI w)] (rest := []) dX9_caller_89 lX9_316 mX9_isSettled rfl (xMs_0 hm) rfl (Nat.le_of_ble_eq_true rfl) (Nat.le_of_ble_eq_true rfl) rfl ?_
  refine mc_isSettled hm hS ?_
  simp only [Option.toList, List.cons_append, List.nil_append]
  refine Ex_if_eq 95 99 dX9_caller_92 (by decide) rfl (fun c4 => ?_) (fun c4 => ?_)
  · refine Ex_iconst 100 (v := 0) dX9_caller_99 (by decide) rfl ?_
    refine Ex_iret dX9_caller_100 rfl rfl (Or.inl rfl) ?_
    have e : spCaller O H (nI w) 4 = 0 := by
      have h1 := hmB_eq c4
      simp only [spCaller, hct, hix, if_true]
      rw [h1]
      rfl
    rw [← e]
    exact hQ
  · refine Ex_iconst 96 (v := 1) dX9_caller_95 (by decide) rfl ?_
    refine Ex_goto 100 dX9_caller_96 (by decide) ?_
    refine Ex_iret dX9_caller_100 rfl rfl (Or.inl rfl) ?_
    have e : spCaller O H (nI w) 4 = 1 := by
      have h1 := hmB_ne c4
      simp only [spCaller, hct, hix, if_true]
      rw [h1]
      rfl
    rw [← e]
    exact hQ
set_option maxHeartbeats 4000000 in
theorem mb_caller5 {d : Nat} {sh : xSh} {R : xR} {L : xL} {I : xI} {Q : xQ} {m : Nat} {H : hmH} {O : hmO} (hm : xModel sh R m) (hS : hmMr (I (m + 28)) H) (hO : hmMo I m O) (ho : hmOok O) (hok : hmOk O H) {w : Nat} (hw : w < hmN O) (hQ : Q (some (.int (spCaller O H (nI w) 5))) 0 sh R L I) : Ex (d + 1) 0 0 MX9_caller 0 sh R L I 26 [some (.ref m), some (.int (nI w)), some (.int 5)] [] Q := by
  obtain ⟨s6, smin, slen, sset, stak, sline, sheld, shas, stalk⟩ := id hS
  obtain ⟨o6, ot1, ot2, oo, oll, owf⟩ := id ho
  obtain ⟨on, otk, ow, cd, cfrom, cto, clen, ccd, csem⟩ := id hO
  have hlN := hok.2.1
  have hct : hmCal (hmN O) (nI w) = true := hmCal_nI hw (by omega)
  have hix : hmIx (nI w) = w := hmIx_nI (by omega)
  refine Ex_iload_n 27 (i := 2) dX9_caller_26 rfl rfl rfl ?_
  refine Ex_iconst 28 (v := 3) dX9_caller_27 (by decide) rfl ?_
  refine Ex_icmp_ge 31 65 dX9_caller_28 (by decide) rfl (fun c1 => ?_) (fun c1 => absurd c1 (fun q => q (by decide)))
  refine Ex_iload_n 66 (i := 2) dX9_caller_65 rfl rfl rfl ?_
  refine Ex_iconst 67 (v := 5) dX9_caller_66 (by decide) rfl ?_
  refine Ex_icmp_ge 70 101 dX9_caller_67 (by decide) rfl (fun c2 => ?_) (fun c2 => absurd c2 (fun q => q (by decide)))
  refine Ex_iload_n 102 (i := 2) dX9_caller_101 rfl rfl rfl ?_
  refine Ex_iconst 103 (v := 5) dX9_caller_102 (by decide) rfl ?_
  refine Ex_icmp_ne 106 114 dX9_caller_103 (by decide) rfl (fun c3 => absurd c3 (fun q => q (by decide))) (fun c3 => ?_)
  refine Ex_aload_n 107 (i := 0) dX9_caller_106 rfl rfl rfl ?_
  refine Ex_iload_n 108 (i := 1) dX9_caller_107 rfl rfl rfl ?_
  refine Ex_callV (M' := MX9_placeOf) 111 [.int (nI w)] (rest := []) dX9_caller_108 lX9_319 mX9_placeOf rfl (xMs_0 hm) rfl (Nat.le_of_ble_eq_true rfl) (Nat.le_of_ble_eq_true rfl) rfl ?_
  refine mc_placeOf hm hS (by omega) (fun x hx => by have := hlN x hx; omega) ?_
  simp only [Option.toList, List.cons_append, List.nil_append]
  refine Ex_goto 123 dX9_caller_111 (by decide) ?_
  refine Ex_iret dX9_caller_123 rfl rfl (Or.inl rfl) ?_
  have e : spCaller O H (nI w) 5 = hmPlc (hmLine H) w := by
    simp only [spCaller, hct, hix, if_true]
    try rfl
  rw [← e]
  exact hQ
set_option maxHeartbeats 4000000 in
theorem mb_caller6 {d : Nat} {sh : xSh} {R : xR} {L : xL} {I : xI} {Q : xQ} {m : Nat} {H : hmH} {O : hmO} (hm : xModel sh R m) (hS : hmMr (I (m + 28)) H) (hO : hmMo I m O) (ho : hmOok O) (hok : hmOk O H) {w : Nat} (hw : w < hmN O) (hQ : Q (some (.int (spCaller O H (nI w) 6))) 0 sh R L I) : Ex (d + 1) 0 0 MX9_caller 0 sh R L I 26 [some (.ref m), some (.int (nI w)), some (.int 6)] [] Q := by
  obtain ⟨s6, smin, slen, sset, stak, sline, sheld, shas, stalk⟩ := id hS
  obtain ⟨o6, ot1, ot2, oo, oll, owf⟩ := id ho
  obtain ⟨on, otk, ow, cd, cfrom, cto, clen, ccd, csem⟩ := id hO
  have hlN := hok.2.1
  have hct : hmCal (hmN O) (nI w) = true := hmCal_nI hw (by omega)
  have hix : hmIx (nI w) = w := hmIx_nI (by omega)
  refine Ex_iload_n 27 (i := 2) dX9_caller_26 rfl rfl rfl ?_
  refine Ex_iconst 28 (v := 3) dX9_caller_27 (by decide) rfl ?_
  refine Ex_icmp_ge 31 65 dX9_caller_28 (by decide) rfl (fun c1 => ?_) (fun c1 => absurd c1 (fun q => q (by decide)))
  refine Ex_iload_n 66 (i := 2) dX9_caller_65 rfl rfl rfl ?_
  refine Ex_iconst 67 (v := 5) dX9_caller_66 (by decide) rfl ?_
  refine Ex_icmp_ge 70 101 dX9_caller_67 (by decide) rfl (fun c2 => ?_) (fun c2 => absurd c2 (fun q => q (by decide)))
  refine Ex_iload_n 102 (i := 2) dX9_caller_101 rfl rfl rfl ?_
  refine Ex_iconst 103 (v := 5) dX9_caller_102 (by decide) rfl ?_
  refine Ex_icmp_ne 106 114 dX9_caller_103 (by decide) rfl (fun c3 => ?_) (fun c3 => absurd c3 (by decide))
  refine Ex_aload_n 115 (i := 0) dX9_caller_114 rfl rfl rfl ?_
  refine Ex_getR 118 dX9_caller_115 fX9_93 (xMs_0 hm) rfl (xMr_39 hm) rfl ?_
  refine Ex_bipush 120 (v := 10) dX9_caller_118 (by decide) rfl ?_
  refine Ex_iload_n 121 (i := 1) dX9_caller_120 rfl rfl rfl ?_
  refine Ex_iadd 122 dX9_caller_121 rfl ?_
  refine Ex_aI 123 (10 + w) (I (m + 28) (10 + w)) dX9_caller_122 (xMs_28 hm) (hm_ad rfl rfl) (by omega) (by decide) rfl rfl ?_
  rw [sheld w (by omega)]
  refine Ex_iret dX9_caller_123 rfl rfl (Or.inl rfl) ?_
  have e : spCaller O H (nI w) 6 = nI (hmHeld H w) := by
    simp only [spCaller, hct, hix, if_true]
    try rfl
  rw [← e]
  exact hQ
set_option maxHeartbeats 4000000 in
theorem mb_caller {d : Nat} {sh : xSh} {R : xR} {L : xL} {I : xI} {Q : xQ} {m : Nat} {H : hmH} {O : hmO} (hm : xModel sh R m) (hS : hmMr (I (m + 28)) H) (hO : hmMo I m O) (ho : hmOok O) (hok : hmOk O H) {qv qu : Int32} (hQ : Q (some (.int (spCaller O H qv qu))) 0 sh R L I) : Ex (d + 1) 0 0 MX9_caller 0 sh R L I 5 [some (.ref m), some (.int qv), some (.int qu)] [] Q := by
  obtain ⟨s6, smin, slen, sset, stak, sline, sheld, shas, stalk⟩ := id hS
  obtain ⟨o6, ot1, ot2, oo, oll, owf⟩ := id ho
  obtain ⟨on, otk, ow, cd, cfrom, cto, clen, ccd, csem⟩ := id hO
  have hlN := hok.2.1
  refine Ex_aload_n 6 (i := 0) dX9_caller_5 rfl rfl rfl ?_
  refine Ex_iload_n 7 (i := 1) dX9_caller_6 rfl rfl rfl ?_
  refine Ex_callV (M' := MX9_isCaller) 10 [.int qv] (rest := []) dX9_caller_7 lX9_347 mX9_isCaller rfl (xMs_0 hm) rfl (Nat.le_of_ble_eq_true rfl) (Nat.le_of_ble_eq_true rfl) rfl ?_
  refine mc_isCaller hm on o6 ?_
  simp only [Option.toList, List.cons_append, List.nil_append]
  refine Ex_if_eq 13 23 dX9_caller_10 (by decide) rfl (fun c1 => ?_) (fun c1 => ?_)
  · refine Ex_bipush 25 (v := (-2)) dX9_caller_23 (by decide) rfl ?_
    refine Ex_iret dX9_caller_25 rfl rfl (Or.inl rfl) ?_
    have e : spCaller O H qv qu = -2 := by
      simp [spCaller, hmB_eq c1]
    rw [← e]
    exact hQ
  · have hct := hmB_ne c1
    obtain ⟨w, hw, rfl⟩ := hmCal_of hct
    have hix : hmIx (nI w) = w := hmIx_nI (by omega)
    refine Ex_iload_n 14 (i := 2) dX9_caller_13 rfl rfl rfl ?_
    refine Ex_iconst 15 (v := 0) dX9_caller_14 (by decide) rfl ?_
    refine Ex_bipush 17 (v := 6) dX9_caller_15 (by decide) rfl ?_
    refine Ex_callS (M' := MX9_within) 20 [.int qu, .int 0, .int 6] (rest := []) dX9_caller_17 lX9_244 mX9_within rfl rfl (Nat.le_of_ble_eq_true rfl) (Nat.le_of_ble_eq_true rfl) rfl ?_
    refine mc_within ?_
    simp only [Option.toList, List.cons_append, List.nil_append]
    refine Ex_if_ne 23 26 dX9_caller_20 (by decide) rfl (fun c2 => ?_) (fun c2 => ?_)
    · rcases hm_w7 (hmB_ne c2) with rfl | rfl | rfl | rfl | rfl | rfl | rfl
      · exact mb_caller0 hm hS hO ho hok hw hQ
      · exact mb_caller1 hm hS hO ho hok hw hQ
      · exact mb_caller2 hm hS hO ho hok hw hQ
      · exact mb_caller3 hm hS hO ho hok hw hQ
      · exact mb_caller4 hm hS hO ho hok hw hQ
      · exact mb_caller5 hm hS hO ho hok hw hQ
      · exact mb_caller6 hm hS hO ho hok hw hQ
    · refine Ex_bipush 25 (v := (-2)) dX9_caller_23 (by decide) rfl ?_
      refine Ex_iret dX9_caller_25 rfl rfl (Or.inl rfl) ?_
      have e : spCaller O H (nI w) qu = -2 := by
        have h0 := hm_w7n (hmB_eq c2)
        simp only [spCaller, hct, if_true, if_neg (show ¬ qu = 0 from h0 0 (by omega)), if_neg (show ¬ qu = 1 from h0 1 (by omega)), if_neg (show ¬ qu = 2 from h0 2 (by omega)), if_neg (show ¬ qu = 3 from h0 3 (by omega)), if_neg (show ¬ qu = 4 from h0 4 (by omega)), if_neg (show ¬ qu = 5 from h0 5 (by omega)), if_neg (show ¬ qu = 6 from h0 6 (by omega))]
      rw [← e]
      exact hQ
set_option maxHeartbeats 4000000 in
theorem mq_caller {d : Nat} {sh : xSh} {R : xR} {L : xL} {I : xI} {Q : xQ} {m : Nat} {H : hmH} {O : hmO} (hm : xModel sh R m) (hS : hmMr (I (m + 28)) H) (hO : hmMo I m O) (ho : hmOok O) (hok : hmOk O H) {qv qu : Int32} (hQ : ∀ I', hmMg m (hmTh I m) I' → hmMr (I' (m + 28)) H → Q (some (.int (spCaller O H qv qu))) 0 sh R L I') : Ex (d + 1) 0 0 MX9_caller 0 sh R L I 0 [some (.ref m), some (.int qv), some (.int qu)] [] Q := by
  refine Ex_aload_n 1 (i := 0) dX9_caller_0 rfl rfl rfl ?_
  refine Ex_iconst 2 (v := 0) dX9_caller_1 (by decide) rfl ?_
  refine Ex_pI 5 (I m) (va_up I m (va_up (I m) 0 0)) dX9_caller_2 fX9_130 rfl (xMs_0 hm) rfl (fun _ => rfl) rfl rfl rfl rfl ?_
  exact mb_caller hm (hmTh_mr hS) (hmTh_mo hO) ho hok  (hQ _ hmMg.rf (hmTh_mr hS))
theorem hm_part2 : ∀ p, p < 6 → (if nI p - nI p / 2 * 2 = 0 then nI p + 1 else nI p - 1) = nI (hmPart p) := by decide +kernel
theorem hmOn_no {n : Nat} {H : hmH} {v : Int32} (h : hmCal n v = false) : hmOn n H v = false := by simp [hmOn, h]
theorem hmOn_no2 {n w : Nat} {H : hmH} (hw : w < 1000) (h : w ∉ hmLine H) : hmOn n H (nI w) = false := by
  simp only [hmOn, Bool.and_eq_false_iff, decide_eq_false_iff_not]
  right
  rw [hmIx_nI (by omega)]
  exact h
theorem hmOn_yes {n w : Nat} {H : hmH} (hn : w < n) (hw : w < 1000) (h : w ∈ hmLine H) : hmOn n H (nI w) = true := by
  have h1 : hmCal n (nI w) = true := by
    simp only [hmCal, decide_eq_true_eq]
    rw [nI_toInt (by omega)]
    omega
  simp only [hmOn, h1, Bool.true_and, decide_eq_true_eq]
  rw [hmIx_nI (by omega)]
  exact h
set_option maxHeartbeats 4000000 in
theorem mb_next {d : Nat} {sh : xSh} {R : xR} {L : xL} {I : xI} {Q : xQ} {m : Nat} {H : hmH} {O : hmO} (hm : xModel sh R m) (hS : hmMr (I (m + 28)) H) (hO : hmMo I m O) (ho : hmOok O) (hok : hmOk O H) {qv : Int32} (hQ : Q (some (.int (spNext (hmN O) H qv))) 0 sh R L I) : Ex (d + 1) 0 0 MX9_next 0 sh R L I 5 [some (.ref m), some (.int qv), none, none] [] Q := by
  obtain ⟨s6, smin, slen, sset, stak, sline, sheld, shas, stalk⟩ := id hS
  obtain ⟨o6, ot1, ot2, oo, oll, owf⟩ := id ho
  obtain ⟨on, otk, ow, cd, cfrom, cto, clen, ccd, csem⟩ := id hO
  have hlN := hok.2.1
  refine Ex_aload_n 6 (i := 0) dX9_next_5 rfl rfl rfl ?_
  refine Ex_iload_n 7 (i := 1) dX9_next_6 rfl rfl rfl ?_
  refine Ex_callV (M' := MX9_isCaller) 10 [.int qv] (rest := []) dX9_next_7 lX9_347 mX9_isCaller rfl (xMs_0 hm) rfl (Nat.le_of_ble_eq_true rfl) (Nat.le_of_ble_eq_true rfl) rfl ?_
  refine mc_isCaller hm on o6 ?_
  simp only [Option.toList, List.cons_append, List.nil_append]
  refine Ex_if_eq 13 21 dX9_next_10 (by decide) rfl (fun c1 => ?_) (fun c1 => ?_)
  · refine Ex_iconst 22 (v := (-1)) dX9_next_21 (by decide) rfl ?_
    refine Ex_istore_n 23 (i := 2) (ls' := [some (.ref m), some (.int qv), some (.int (-1)), none]) dX9_next_22 rfl (Nat.le_of_ble_eq_true rfl) rfl rfl rfl ?_
    refine Ex_iload_n 24 (i := 2) dX9_next_23 rfl rfl rfl ?_
    refine Ex_if_ge 27 29 dX9_next_24 (by decide) rfl (fun c51 => absurd c51 (by decide)) (fun c51 => ?_)
    refine Ex_iconst 28 (v := (-1)) dX9_next_27 (by decide) rfl ?_
    refine Ex_iret dX9_next_28 rfl rfl (Or.inl rfl) ?_
    have e : spNext (hmN O) H qv = -1 := by
      simp [spNext, hmOn_no (hmB_eq c1)]
    rw [← e]
    exact hQ
  · have hct := hmB_ne c1
    obtain ⟨w, hw, rfl⟩ := hmCal_of hct
    have hix : hmIx (nI w) = w := hmIx_nI (by omega)
    refine Ex_aload_n 14 (i := 0) dX9_next_13 rfl rfl rfl ?_
    refine Ex_iload_n 15 (i := 1) dX9_next_14 rfl rfl rfl ?_
    refine Ex_callV (M' := MX9_placeOf) 18 [.int (nI w)] (rest := []) dX9_next_15 lX9_319 mX9_placeOf rfl (xMs_0 hm) rfl (Nat.le_of_ble_eq_true rfl) (Nat.le_of_ble_eq_true rfl) rfl ?_
    refine mc_placeOf hm hS (by omega) (fun x hx => by have := hlN x hx; omega) ?_
    simp only [Option.toList, List.cons_append, List.nil_append]
    refine Ex_goto 22 dX9_next_18 (by decide) ?_
    refine Ex_istore_n 23 (i := 2) (ls' := [some (.ref m), some (.int (nI w)), some (.int (hmPlc (hmLine H) w)), none]) dX9_next_22 rfl (Nat.le_of_ble_eq_true rfl) rfl rfl rfl ?_
    refine Ex_iload_n 24 (i := 2) dX9_next_23 rfl rfl rfl ?_
    refine Ex_if_ge 27 29 dX9_next_24 (by decide) rfl (fun c51 => ?_) (fun c51 => ?_)
    · have hwm : w ∈ hmLine H := by
        by_cases z : w ∈ hmLine H
        · exact z
        · exact absurd ((hmPlc_lt (by omega)).mpr z) (Int32.not_lt.mpr c51)
      have hon := hmOn_yes hw (by omega) hwm
      have hidx := List.idxOf_lt_length_of_mem hwm
      have hpl : hmPlc (hmLine H) w = nI ((hmLine H).idxOf w) := by simp [hmPlc, hwm]
      obtain ⟨p, hp⟩ : ∃ p, (hmLine H).idxOf w = p := ⟨_, rfl⟩
      rw [hp] at hidx hpl
      rw [hpl]
      have hpt := hm_part2 p (by omega)
      refine Ex_iload_n 30 (i := 2) dX9_next_29 rfl rfl rfl ?_
      refine Ex_iconst 31 (v := 2) dX9_next_30 (by decide) rfl ?_
      refine Ex_irem 32 dX9_next_31 (by decide) rfl ?_
      refine Ex_if_ne 35 41 dX9_next_32 (by decide) rfl (fun c52 => ?_) (fun c52 => ?_)
      · refine Ex_iload_n 42 (i := 2) dX9_next_41 rfl rfl rfl ?_
        refine Ex_iconst 43 (v := 1) dX9_next_42 (by decide) rfl ?_
        refine Ex_isub 44 dX9_next_43 rfl ?_
        rw [if_neg c52] at hpt
        rw [hpt]
        refine Ex_istore_n 45 (i := 3) (ls' := [some (.ref m), some (.int (nI w)), some (.int (nI p)), some (.int (nI (hmPart p)))]) dX9_next_44 rfl (Nat.le_of_ble_eq_true rfl) rfl rfl rfl ?_
        refine Ex_iload_n 46 (i := 3) dX9_next_45 rfl rfl rfl ?_
        refine Ex_aload_n 47 (i := 0) dX9_next_46 rfl rfl rfl ?_
        refine Ex_getR 50 dX9_next_47 fX9_93 (xMs_0 hm) rfl (xMr_39 hm) rfl ?_
        refine Ex_iconst 51 (v := 1) dX9_next_50 (by decide) rfl ?_
        refine Ex_aI 52 1 (I (m + 28) 1) dX9_next_51 (xMs_28 hm) rfl (by decide) (by decide) rfl rfl ?_
        rw [slen]
        refine Ex_icmp_ge 55 66 dX9_next_52 (by decide) rfl (fun c53 => ?_) (fun c53 => ?_)
        · refine Ex_iconst 67 (v := (-1)) dX9_next_66 (by decide) rfl ?_
          refine Ex_iret dX9_next_67 rfl rfl (Or.inl rfl) ?_
          have e : spNext (hmN O) H (nI w) = -1 := by
            have hpp : ¬ hmPart p < (hmLine H).length := fun z => absurd c53 (nI_ge z (by omega))
            simp only [spNext, hon, hix, hp, if_true, if_neg hpp]
          rw [← e]
          exact hQ
        · have hpp : hmPart p < (hmLine H).length := by
            by_cases z : hmPart p < (hmLine H).length
            · exact z
            · have : hmPart p ≤ p + 1 := by unfold hmPart; split <;> omega
              exact absurd (nI_le (by omega) (by omega)) c53
          refine Ex_aload_n 56 (i := 0) dX9_next_55 rfl rfl rfl ?_
          refine Ex_getR 59 dX9_next_56 fX9_93 (xMs_0 hm) rfl (xMr_39 hm) rfl ?_
          refine Ex_iconst 60 (v := 4) dX9_next_59 (by decide) rfl ?_
          refine Ex_iload_n 61 (i := 3) dX9_next_60 rfl rfl rfl ?_
          refine Ex_iadd 62 dX9_next_61 rfl ?_
          refine Ex_aI 63 (4 + (hmPart p)) (I (m + 28) (4 + (hmPart p))) dX9_next_62 (xMs_28 hm) (hm_ad rfl rfl) (by omega) (by decide) rfl rfl ?_
          rw [sline _ hpp]
          refine Ex_goto 67 dX9_next_63 (by decide) ?_
          refine Ex_iret dX9_next_67 rfl rfl (Or.inl rfl) ?_
          have e : spNext (hmN O) H (nI w) = nI ((hmLine H).getD (hmPart p) 0) := by
            simp only [spNext, hon, hix, hp, if_true, if_pos hpp]
          rw [← e]
          exact hQ
      · refine Ex_iload_n 36 (i := 2) dX9_next_35 rfl rfl rfl ?_
        refine Ex_iconst 37 (v := 1) dX9_next_36 (by decide) rfl ?_
        refine Ex_iadd 38 dX9_next_37 rfl ?_
        rw [if_pos c52] at hpt
        rw [hpt]
        refine Ex_goto 44 dX9_next_38 (by decide) ?_
        refine Ex_istore_n 45 (i := 3) (ls' := [some (.ref m), some (.int (nI w)), some (.int (nI p)), some (.int (nI (hmPart p)))]) dX9_next_44 rfl (Nat.le_of_ble_eq_true rfl) rfl rfl rfl ?_
        refine Ex_iload_n 46 (i := 3) dX9_next_45 rfl rfl rfl ?_
        refine Ex_aload_n 47 (i := 0) dX9_next_46 rfl rfl rfl ?_
        refine Ex_getR 50 dX9_next_47 fX9_93 (xMs_0 hm) rfl (xMr_39 hm) rfl ?_
        refine Ex_iconst 51 (v := 1) dX9_next_50 (by decide) rfl ?_
        refine Ex_aI 52 1 (I (m + 28) 1) dX9_next_51 (xMs_28 hm) rfl (by decide) (by decide) rfl rfl ?_
        rw [slen]
        refine Ex_icmp_ge 55 66 dX9_next_52 (by decide) rfl (fun c54 => ?_) (fun c54 => ?_)
        · refine Ex_iconst 67 (v := (-1)) dX9_next_66 (by decide) rfl ?_
          refine Ex_iret dX9_next_67 rfl rfl (Or.inl rfl) ?_
          have e : spNext (hmN O) H (nI w) = -1 := by
            have hpp : ¬ hmPart p < (hmLine H).length := fun z => absurd c54 (nI_ge z (by omega))
            simp only [spNext, hon, hix, hp, if_true, if_neg hpp]
          rw [← e]
          exact hQ
        · have hpp : hmPart p < (hmLine H).length := by
            by_cases z : hmPart p < (hmLine H).length
            · exact z
            · have : hmPart p ≤ p + 1 := by unfold hmPart; split <;> omega
              exact absurd (nI_le (by omega) (by omega)) c54
          refine Ex_aload_n 56 (i := 0) dX9_next_55 rfl rfl rfl ?_
          refine Ex_getR 59 dX9_next_56 fX9_93 (xMs_0 hm) rfl (xMr_39 hm) rfl ?_
          refine Ex_iconst 60 (v := 4) dX9_next_59 (by decide) rfl ?_
          refine Ex_iload_n 61 (i := 3) dX9_next_60 rfl rfl rfl ?_
          refine Ex_iadd 62 dX9_next_61 rfl ?_
          refine Ex_aI 63 (4 + (hmPart p)) (I (m + 28) (4 + (hmPart p))) dX9_next_62 (xMs_28 hm) (hm_ad rfl rfl) (by omega) (by decide) rfl rfl ?_
          rw [sline _ hpp]
          refine Ex_goto 67 dX9_next_63 (by decide) ?_
          refine Ex_iret dX9_next_67 rfl rfl (Or.inl rfl) ?_
          have e : spNext (hmN O) H (nI w) = nI ((hmLine H).getD (hmPart p) 0) := by
            simp only [spNext, hon, hix, hp, if_true, if_pos hpp]
          rw [← e]
          exact hQ
    · refine Ex_iconst 28 (v := (-1)) dX9_next_27 (by decide) rfl ?_
      refine Ex_iret dX9_next_28 rfl rfl (Or.inl rfl) ?_
      have e : spNext (hmN O) H (nI w) = -1 := by
        have hz : w ∉ hmLine H := (hmPlc_lt (by omega)).mp (Int32.not_le.mp c51)
        simp [spNext, hmOn_no2 (by omega) hz]
      rw [← e]
      exact hQ
set_option maxHeartbeats 4000000 in
theorem mq_next {d : Nat} {sh : xSh} {R : xR} {L : xL} {I : xI} {Q : xQ} {m : Nat} {H : hmH} {O : hmO} (hm : xModel sh R m) (hS : hmMr (I (m + 28)) H) (hO : hmMo I m O) (ho : hmOok O) (hok : hmOk O H) {qv : Int32} (hQ : ∀ I', hmMg m (hmTh I m) I' → hmMr (I' (m + 28)) H → Q (some (.int (spNext (hmN O) H qv))) 0 sh R L I') : Ex (d + 1) 0 0 MX9_next 0 sh R L I 0 [some (.ref m), some (.int qv), none, none] [] Q := by
  refine Ex_aload_n 1 (i := 0) dX9_next_0 rfl rfl rfl ?_
  refine Ex_iconst 2 (v := 0) dX9_next_1 (by decide) rfl ?_
  refine Ex_pI 5 (I m) (va_up I m (va_up (I m) 0 0)) dX9_next_2 fX9_130 rfl (xMs_0 hm) rfl (fun _ => rfl) rfl rfl rfl rfl ?_
  exact mb_next hm (hmTh_mr hS) (hmTh_mo hO) ho hok  (hQ _ hmMg.rf (hmTh_mr hS))
set_option maxHeartbeats 4000000 in
theorem mb_holders_loop {d : Nat} {sh : xSh} {R : xR} {L : xL} {I : xI} {Q : xQ} {m : Nat} {H : hmH} {O : hmO} (hm : xModel sh R m) (hS : hmMr (I (m + 28)) H) (hO : hmMo I m O) (ho : hmOok O) (hok : hmOk O H) {k : Nat} (hk : k < 10) (hQ : Q (some (.int (hmWho (hmHas H) k (hmN O)))) 0 sh R L I) : ∀ n i, n + i = hmN O → Ex d 0 0 MX9_holders 0 sh R L I 21 [some (.ref m), some (.int (nI k)), some (.int (hmWho (hmHas H) k i)), some (.int (nI i))] [] Q := by
  obtain ⟨s6, smin, slen, sset, stak, sline, sheld, shas, stalk⟩ := id hS
  obtain ⟨o6, ot1, ot2, oo, oll, owf⟩ := id ho
  obtain ⟨on, otk, ow, cd, cfrom, cto, clen, ccd, csem⟩ := id hO
  have hlN := hok.2.1
  intro n
  induction n with
  | zero =>
    intro i hi
    refine Ex_iload_n 22 (i := 3) dX9_holders_21 rfl rfl rfl ?_
    refine Ex_aload_n 23 (i := 0) dX9_holders_22 rfl rfl rfl ?_
    refine Ex_getR 26 dX9_holders_23 fX9_13 (xMs_0 hm) rfl (xMr_10 hm) rfl ?_
    refine Ex_iconst 27 (v := 0) dX9_holders_26 (by decide) rfl ?_
    refine Ex_aI 28 0 (I (m + 2) 0) dX9_holders_27 (xMs_2 hm) rfl (by decide) (by decide) rfl rfl ?_
    rw [on]
    refine Ex_icmp_ge 31 55 dX9_holders_28 (by decide) rfl (fun c1 => ?_) (fun c1 => absurd c1 (fun q => q (nI_le (by omega) (by omega))))
    refine Ex_iload_n 56 (i := 2) dX9_holders_55 rfl rfl rfl ?_
    refine Ex_iret dX9_holders_56 rfl rfl (Or.inl rfl) ?_
    rw [show i = hmN O by omega]
    exact hQ
  | succ n ih =>
    intro i hi
    refine Ex_iload_n 22 (i := 3) dX9_holders_21 rfl rfl rfl ?_
    refine Ex_aload_n 23 (i := 0) dX9_holders_22 rfl rfl rfl ?_
    refine Ex_getR 26 dX9_holders_23 fX9_13 (xMs_0 hm) rfl (xMr_10 hm) rfl ?_
    refine Ex_iconst 27 (v := 0) dX9_holders_26 (by decide) rfl ?_
    refine Ex_aI 28 0 (I (m + 2) 0) dX9_holders_27 (xMs_2 hm) rfl (by decide) (by decide) rfl rfl ?_
    rw [on]
    refine Ex_icmp_ge 31 55 dX9_holders_28 (by decide) rfl (fun c1 => absurd c1 (nI_ge (by omega) (by omega))) (fun c1 => ?_)
    refine Ex_iload_n 32 (i := 2) dX9_holders_31 rfl rfl rfl ?_
    refine Ex_aload_n 33 (i := 0) dX9_holders_32 rfl rfl rfl ?_
    refine Ex_getR 36 dX9_holders_33 fX9_93 (xMs_0 hm) rfl (xMr_39 hm) rfl ?_
    refine Ex_bipush 38 (v := 16) dX9_holders_36 (by decide) rfl ?_
    refine Ex_iload_n 39 (i := 3) dX9_holders_38 rfl rfl rfl ?_
    refine Ex_iadd 40 dX9_holders_39 rfl ?_
    refine Ex_aI 41 (16 + i) (I (m + 28) (16 + i)) dX9_holders_40 (xMs_28 hm) (hm_ad rfl rfl) (by omega) (by decide) rfl rfl ?_
    rw [shas i (by omega)]
    refine Ex_iload_n 42 (i := 1) dX9_holders_41 rfl rfl rfl ?_
    refine Ex_ishr 43 dX9_holders_42 rfl ?_
    refine Ex_iconst 44 (v := 1) dX9_holders_43 (by decide) rfl ?_
    refine Ex_iand 45 dX9_holders_44 rfl ?_
    refine Ex_iload_n 46 (i := 3) dX9_holders_45 rfl rfl rfl ?_
    refine Ex_ishl 47 dX9_holders_46 rfl ?_
    refine Ex_ior 48 dX9_holders_47 rfl ?_
    refine Ex_istore_n 49 (i := 2) (ls' := [some (.ref m), some (.int (nI k)), some (.int ((hmWho (hmHas H) k i) ||| ((((hmHas H i) >>> ((nI k) &&& 31)) &&& 1) <<< ((nI i) &&& 31)))), some (.int (nI i))]) dX9_holders_48 rfl (Nat.le_of_ble_eq_true rfl) rfl rfl rfl ?_
    refine Ex_iinc 52 (v := (nI (i + 1))) (ls' := [some (.ref m), some (.int (nI k)), some (.int ((hmWho (hmHas H) k i) ||| ((((hmHas H i) >>> ((nI k) &&& 31)) &&& 1) <<< ((nI i) &&& 31)))), some (.int (nI (i + 1)))]) dX9_holders_49 rfl (xinc _) (Nat.le_of_ble_eq_true rfl) rfl rfl rfl ?_
    refine Ex_goto 21 dX9_holders_52 (by decide) ?_
    exact ih (i + 1) (by omega)
set_option maxHeartbeats 4000000 in
theorem mb_holders {d : Nat} {sh : xSh} {R : xR} {L : xL} {I : xI} {Q : xQ} {m : Nat} {H : hmH} {O : hmO} (hm : xModel sh R m) (hS : hmMr (I (m + 28)) H) (hO : hmMo I m O) (ho : hmOok O) (hok : hmOk O H) {qv : Int32} (hQ : Q (some (.int (spHolders (hmN O) H qv))) 0 sh R L I) : Ex (d + 1) 0 0 MX9_holders 0 sh R L I 5 [some (.ref m), some (.int qv), none, none] [] Q := by
  obtain ⟨s6, smin, slen, sset, stak, sline, sheld, shas, stalk⟩ := id hS
  obtain ⟨o6, ot1, ot2, oo, oll, owf⟩ := id ho
  obtain ⟨on, otk, ow, cd, cfrom, cto, clen, ccd, csem⟩ := id hO
  have hlN := hok.2.1
  refine Ex_iload_n 6 (i := 1) dX9_holders_5 rfl rfl rfl ?_
  refine Ex_iconst 7 (v := 0) dX9_holders_6 (by decide) rfl ?_
  refine Ex_bipush 9 (v := 9) dX9_holders_7 (by decide) rfl ?_
  refine Ex_callS (M' := MX9_within) 12 [.int qv, .int 0, .int 9] (rest := []) dX9_holders_9 lX9_244 mX9_within rfl rfl (Nat.le_of_ble_eq_true rfl) (Nat.le_of_ble_eq_true rfl) rfl ?_
  refine mc_within ?_
  simp only [Option.toList, List.cons_append, List.nil_append]
  refine Ex_if_ne 15 17 dX9_holders_12 (by decide) rfl (fun c1 => ?_) (fun c1 => ?_)
  · have hct : hmCal 10 qv = true := by
      rw [← hmWith_cal (k := 9) (by omega)]
      exact hmB_ne c1
    obtain ⟨w, hw, rfl⟩ := hmCal_of hct
    have hix : hmIx (nI w) = w := hmIx_nI (by omega)
    refine Ex_iconst 18 (v := 0) dX9_holders_17 (by decide) rfl ?_
    refine Ex_istore_n 19 (i := 2) (ls' := [some (.ref m), some (.int (nI w)), some (.int 0), none]) dX9_holders_18 rfl (Nat.le_of_ble_eq_true rfl) rfl rfl rfl ?_
    refine Ex_iconst 20 (v := 0) dX9_holders_19 (by decide) rfl ?_
    refine Ex_istore_n 21 (i := 3) (ls' := [some (.ref m), some (.int (nI w)), some (.int 0), some (.int 0)]) dX9_holders_20 rfl (Nat.le_of_ble_eq_true rfl) rfl rfl rfl ?_
    have e : spHolders (hmN O) H (nI w) = hmWho (hmHas H) w (hmN O) := by simp only [spHolders, hct, hix, if_true]
    rw [e] at hQ
    exact mb_holders_loop hm hS hO ho hok hw hQ (hmN O) 0 (by omega)
  · refine Ex_iconst 16 (v := (-1)) dX9_holders_15 (by decide) rfl ?_
    refine Ex_iret dX9_holders_16 rfl rfl (Or.inl rfl) ?_
    have e : spHolders (hmN O) H qv = -1 := by
      have h1 : hmCal 10 qv = false := by
        rw [← hmWith_cal (k := 9) (by omega)]
        exact hmB_eq c1
      simp [spHolders, h1]
    rw [← e]
    exact hQ
set_option maxHeartbeats 4000000 in
theorem mq_holders {d : Nat} {sh : xSh} {R : xR} {L : xL} {I : xI} {Q : xQ} {m : Nat} {H : hmH} {O : hmO} (hm : xModel sh R m) (hS : hmMr (I (m + 28)) H) (hO : hmMo I m O) (ho : hmOok O) (hok : hmOk O H) {qv : Int32} (hQ : ∀ I', hmMg m (hmTh I m) I' → hmMr (I' (m + 28)) H → Q (some (.int (spHolders (hmN O) H qv))) 0 sh R L I') : Ex (d + 1) 0 0 MX9_holders 0 sh R L I 0 [some (.ref m), some (.int qv), none, none] [] Q := by
  refine Ex_aload_n 1 (i := 0) dX9_holders_0 rfl rfl rfl ?_
  refine Ex_iconst 2 (v := 0) dX9_holders_1 (by decide) rfl ?_
  refine Ex_pI 5 (I m) (va_up I m (va_up (I m) 0 0)) dX9_holders_2 fX9_130 rfl (xMs_0 hm) rfl (fun _ => rfl) rfl rfl rfl rfl ?_
  exact mb_holders hm (hmTh_mr hS) (hmTh_mo hO) ho hok  (hQ _ hmMg.rf (hmTh_mr hS))
set_option maxHeartbeats 4000000 in
theorem mb_usual_loop {d : Nat} {sh : xSh} {R : xR} {L : xL} {I : xI} {Q : xQ} {m : Nat} {H : hmH} {O : hmO} (hm : xModel sh R m) (hS : hmMr (I (m + 28)) H) (hO : hmMo I m O) (ho : hmOok O) (hok : hmOk O H) {w bb : Nat} (hw : w < hmN O) (htb : ∀ x, hmTalk H w x ≤ bb) (hbb : bb < 1000000) (hQ : Q (some (.int (hmUs (hmTalk H w) (hmN O)).2)) 0 sh R L I) : ∀ n i, n + i = hmN O → Ex d 0 0 MX9_usual 0 sh R L I 22 [some (.ref m), some (.int (nI w)), some (.int ((hmUs (hmTalk H w) i).2)), some (.int (nI (hmUs (hmTalk H w) i).1)), some (.int (nI i))] [] Q := by
  obtain ⟨s6, smin, slen, sset, stak, sline, sheld, shas, stalk⟩ := id hS
  obtain ⟨o6, ot1, ot2, oo, oll, owf⟩ := id ho
  obtain ⟨on, otk, ow, cd, cfrom, cto, clen, ccd, csem⟩ := id hO
  have hlN := hok.2.1
  have hb := hmUs_le htb
  intro n
  induction n with
  | zero =>
    intro i hi
    refine Ex_iload 24 dX9_usual_22 rfl rfl ?_
    refine Ex_aload_n 25 (i := 0) dX9_usual_24 rfl rfl rfl ?_
    refine Ex_getR 28 dX9_usual_25 fX9_13 (xMs_0 hm) rfl (xMr_10 hm) rfl ?_
    refine Ex_iconst 29 (v := 0) dX9_usual_28 (by decide) rfl ?_
    refine Ex_aI 30 0 (I (m + 2) 0) dX9_usual_29 (xMs_2 hm) rfl (by decide) (by decide) rfl rfl ?_
    rw [on]
    refine Ex_icmp_ge 33 80 dX9_usual_30 (by decide) rfl (fun c1 => ?_) (fun c1 => absurd c1 (fun q => q (nI_le (by omega) (by omega))))
    refine Ex_iload_n 81 (i := 2) dX9_usual_80 rfl rfl rfl ?_
    refine Ex_iret dX9_usual_81 rfl rfl (Or.inl rfl) ?_
    rw [show i = hmN O by omega]
    exact hQ
  | succ n ih =>
    intro i hi
    refine Ex_iload 24 dX9_usual_22 rfl rfl ?_
    refine Ex_aload_n 25 (i := 0) dX9_usual_24 rfl rfl rfl ?_
    refine Ex_getR 28 dX9_usual_25 fX9_13 (xMs_0 hm) rfl (xMr_10 hm) rfl ?_
    refine Ex_iconst 29 (v := 0) dX9_usual_28 (by decide) rfl ?_
    refine Ex_aI 30 0 (I (m + 2) 0) dX9_usual_29 (xMs_2 hm) rfl (by decide) (by decide) rfl rfl ?_
    rw [on]
    refine Ex_icmp_ge 33 80 dX9_usual_30 (by decide) rfl (fun c1 => absurd c1 (nI_ge (by omega) (by omega))) (fun c1 => ?_)
    refine Ex_aload_n 34 (i := 0) dX9_usual_33 rfl rfl rfl ?_
    refine Ex_getR 37 dX9_usual_34 fX9_93 (xMs_0 hm) rfl (xMr_39 hm) rfl ?_
    refine Ex_bipush 39 (v := 22) dX9_usual_37 (by decide) rfl ?_
    refine Ex_bipush 41 (v := 6) dX9_usual_39 (by decide) rfl ?_
    refine Ex_iload_n 42 (i := 1) dX9_usual_41 rfl rfl rfl ?_
    refine Ex_imul 43 dX9_usual_42 rfl ?_
    refine Ex_iadd 44 dX9_usual_43 rfl ?_
    refine Ex_iload 46 dX9_usual_44 rfl rfl ?_
    refine Ex_iadd 47 dX9_usual_46 rfl ?_
    refine Ex_aI 48 ((22 + (6 * w)) + i) (I (m + 28) ((22 + (6 * w)) + i)) dX9_usual_47 (xMs_28 hm) (hm_ad (hm_ad rfl (hm_mu rfl rfl)) rfl) (by omega) (by decide) rfl rfl ?_
    rw [stalk w (by omega) i (by omega)]
    refine Ex_iload_n 49 (i := 3) dX9_usual_48 rfl rfl rfl ?_
    refine Ex_icmp_gt 52 55 dX9_usual_49 (by decide) rfl (fun c2 => ?_) (fun c2 => ?_)
    · refine Ex_iload 57 dX9_usual_55 rfl rfl ?_
      refine Ex_istore_n 58 (i := 2) (ls' := [some (.ref m), some (.int (nI w)), some (.int (nI i)), some (.int (nI (hmUs (hmTalk H w) i).1)), some (.int (nI i))]) dX9_usual_57 rfl (Nat.le_of_ble_eq_true rfl) rfl rfl rfl ?_
      refine Ex_aload_n 59 (i := 0) dX9_usual_58 rfl rfl rfl ?_
      refine Ex_getR 62 dX9_usual_59 fX9_93 (xMs_0 hm) rfl (xMr_39 hm) rfl ?_
      refine Ex_bipush 64 (v := 22) dX9_usual_62 (by decide) rfl ?_
      refine Ex_bipush 66 (v := 6) dX9_usual_64 (by decide) rfl ?_
      refine Ex_iload_n 67 (i := 1) dX9_usual_66 rfl rfl rfl ?_
      refine Ex_imul 68 dX9_usual_67 rfl ?_
      refine Ex_iadd 69 dX9_usual_68 rfl ?_
      refine Ex_iload 71 dX9_usual_69 rfl rfl ?_
      refine Ex_iadd 72 dX9_usual_71 rfl ?_
      refine Ex_aI 73 ((22 + (6 * w)) + i) (I (m + 28) ((22 + (6 * w)) + i)) dX9_usual_72 (xMs_28 hm) (hm_ad (hm_ad rfl (hm_mu rfl rfl)) rfl) (by omega) (by decide) rfl rfl ?_
      rw [stalk w (by omega) i (by omega)]
      refine Ex_istore_n 74 (i := 3) (ls' := [some (.ref m), some (.int (nI w)), some (.int (nI i)), some (.int (nI (hmTalk H w i))), some (.int (nI i))]) dX9_usual_73 rfl (Nat.le_of_ble_eq_true rfl) rfl rfl rfl ?_
      refine Ex_iinc 77 (v := (nI (i + 1))) (ls' := [some (.ref m), some (.int (nI w)), some (.int (nI i)), some (.int (nI (hmTalk H w i))), some (.int (nI (i + 1)))]) dX9_usual_74 rfl (xinc _) (Nat.le_of_ble_eq_true rfl) rfl rfl rfl ?_
      refine Ex_goto 22 dX9_usual_77 (by decide) ?_
      have h1 : hmTalk H w i > (hmUs (hmTalk H w) i).1 := (nI_ltI (by have := hb i; omega) (by have := htb i; omega)).mp c2
      have e : hmUs (hmTalk H w) (i + 1) = (hmTalk H w i, nI i) := if_pos h1
      have e1 : nI (hmTalk H w i) = nI (hmUs (hmTalk H w) (i + 1)).1 := by rw [e]
      have e2 : nI i = (hmUs (hmTalk H w) (i + 1)).2 := by rw [e]
      refine Ex_l (ls' := [some (.ref m), some (.int (nI w)), some (.int ((hmUs (hmTalk H w) (i + 1)).2)), some (.int (nI (hmUs (hmTalk H w) (i + 1)).1)), some (.int (nI (i + 1)))]) (by rw [← e1, ← e2]) ?_
      exact ih (i + 1) (by omega)
    · refine Ex_goto 74 dX9_usual_52 (by decide) ?_
      refine Ex_iinc 77 (v := (nI (i + 1))) (ls' := [some (.ref m), some (.int (nI w)), some (.int ((hmUs (hmTalk H w) i).2)), some (.int (nI (hmUs (hmTalk H w) i).1)), some (.int (nI (i + 1)))]) dX9_usual_74 rfl (xinc _) (Nat.le_of_ble_eq_true rfl) rfl rfl rfl ?_
      refine Ex_goto 22 dX9_usual_77 (by decide) ?_
      have h1 : ¬ hmTalk H w i > (hmUs (hmTalk H w) i).1 := by
        intro z
        exact absurd ((nI_ltI (by have := hb i; omega) (by have := htb i; omega)).mpr z) c2
      have e : hmUs (hmTalk H w) (i + 1) = hmUs (hmTalk H w) i := if_neg h1
      rw [← e]
      exact ih (i + 1) (by omega)
set_option maxHeartbeats 4000000 in
theorem mb_usual {d : Nat} {sh : xSh} {R : xR} {L : xL} {I : xI} {Q : xQ} {m : Nat} {H : hmH} {O : hmO} (hm : xModel sh R m) (hS : hmMr (I (m + 28)) H) (hO : hmMo I m O) (ho : hmOok O) (hok : hmOk O H) {qv : Int32} {bb : Nat} (htb : ∀ x y, hmTalk H x y ≤ bb) (hbb : bb < 1000000) (hQ : Q (some (.int (spUsual (hmN O) H qv))) 0 sh R L I) : Ex (d + 1) 0 0 MX9_usual 0 sh R L I 5 [some (.ref m), some (.int qv), none, none, none] [] Q := by
  obtain ⟨s6, smin, slen, sset, stak, sline, sheld, shas, stalk⟩ := id hS
  obtain ⟨o6, ot1, ot2, oo, oll, owf⟩ := id ho
  obtain ⟨on, otk, ow, cd, cfrom, cto, clen, ccd, csem⟩ := id hO
  have hlN := hok.2.1
  refine Ex_aload_n 6 (i := 0) dX9_usual_5 rfl rfl rfl ?_
  refine Ex_iload_n 7 (i := 1) dX9_usual_6 rfl rfl rfl ?_
  refine Ex_callV (M' := MX9_isCaller) 10 [.int qv] (rest := []) dX9_usual_7 lX9_347 mX9_isCaller rfl (xMs_0 hm) rfl (Nat.le_of_ble_eq_true rfl) (Nat.le_of_ble_eq_true rfl) rfl ?_
  refine mc_isCaller hm on o6 ?_
  simp only [Option.toList, List.cons_append, List.nil_append]
  refine Ex_if_ne 13 15 dX9_usual_10 (by decide) rfl (fun c1 => ?_) (fun c1 => ?_)
  · have hct := hmB_ne c1
    obtain ⟨w, hw, rfl⟩ := hmCal_of hct
    have hix : hmIx (nI w) = w := hmIx_nI (by omega)
    refine Ex_iconst 16 (v := (-1)) dX9_usual_15 (by decide) rfl ?_
    refine Ex_istore_n 17 (i := 2) (ls' := [some (.ref m), some (.int (nI w)), some (.int (-1)), none, none]) dX9_usual_16 rfl (Nat.le_of_ble_eq_true rfl) rfl rfl rfl ?_
    refine Ex_iconst 18 (v := 0) dX9_usual_17 (by decide) rfl ?_
    refine Ex_istore_n 19 (i := 3) (ls' := [some (.ref m), some (.int (nI w)), some (.int (-1)), some (.int 0), none]) dX9_usual_18 rfl (Nat.le_of_ble_eq_true rfl) rfl rfl rfl ?_
    refine Ex_iconst 20 (v := 0) dX9_usual_19 (by decide) rfl ?_
    refine Ex_istore 22 (ls' := [some (.ref m), some (.int (nI w)), some (.int (-1)), some (.int 0), some (.int 0)]) dX9_usual_20 (Nat.le_of_ble_eq_true rfl) rfl rfl rfl ?_
    have e : spUsual (hmN O) H (nI w) = (hmUs (hmTalk H w) (hmN O)).2 := by simp only [spUsual, hct, hix, if_true]
    rw [e] at hQ
    exact mb_usual_loop hm hS hO ho hok hw (fun z => htb w z) hbb hQ (hmN O) 0 (by omega)
  · refine Ex_iconst 14 (v := (-1)) dX9_usual_13 (by decide) rfl ?_
    refine Ex_iret dX9_usual_14 rfl rfl (Or.inl rfl) ?_
    have e : spUsual (hmN O) H qv = -1 := by
      simp [spUsual, hmB_eq c1]
    rw [← e]
    exact hQ
set_option maxHeartbeats 4000000 in
theorem mq_usual {d : Nat} {sh : xSh} {R : xR} {L : xL} {I : xI} {Q : xQ} {m : Nat} {H : hmH} {O : hmO} (hm : xModel sh R m) (hS : hmMr (I (m + 28)) H) (hO : hmMo I m O) (ho : hmOok O) (hok : hmOk O H) {qv : Int32} {bb : Nat} (htb : ∀ x y, hmTalk H x y ≤ bb) (hbb : bb < 1000000) (hQ : ∀ I', hmMg m (hmTh I m) I' → hmMr (I' (m + 28)) H → Q (some (.int (spUsual (hmN O) H qv))) 0 sh R L I') : Ex (d + 1) 0 0 MX9_usual 0 sh R L I 0 [some (.ref m), some (.int qv), none, none, none] [] Q := by
  refine Ex_aload_n 1 (i := 0) dX9_usual_0 rfl rfl rfl ?_
  refine Ex_iconst 2 (v := 0) dX9_usual_1 (by decide) rfl ?_
  refine Ex_pI 5 (I m) (va_up I m (va_up (I m) 0 0)) dX9_usual_2 fX9_130 rfl (xMs_0 hm) rfl (fun _ => rfl) rfl rfl rfl rfl ?_
  exact mb_usual hm (hmTh_mr hS) (hmTh_mo hO) ho hok htb hbb (hQ _ hmMg.rf (hmTh_mr hS))
