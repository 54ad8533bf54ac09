/-- what trials with sets may change -/
def hmSf (e m : Nat) (I I' : xI) : Prop := (∀ x, x ≠ m → x ≠ m + 28 → x ≠ m + 29 → x ≠ m + 34 → x ≠ m + e → ¬ (m + 13 ≤ x ∧ x < m + 23) → I' x = I x) ∧ ∀ k, k ≠ 50 → k ≠ 51 → I' m k = I m k
theorem hmSf.rf {e m : Nat} {I : xI} : hmSf e m I I := ⟨fun _ _ _ _ _ _ _ => rfl, fun _ _ _ => rfl⟩
theorem hmSf.tr {e m : Nat} {I J K : xI} (h1 : hmSf e m I J) (h2 : hmSf e m J K) : hmSf e m I K := ⟨fun x a b c f g i => (h2.1 x a b c f g i).trans (h1.1 x a b c f g i), fun k a b => (h2.2 k a b).trans (h1.2 k a b)⟩
theorem hmSf.gf {e m : Nat} {I J : xI} (h1 : hmGf m I J) : hmSf e m I J := ⟨fun x a b _ c _ d => h1.1 x a b c d, h1.2⟩
theorem hmSf.e28 {e m : Nat} {I J : xI} (h1 : hmSf 28 m I J) : hmSf e m I J := ⟨fun x a b c d _ f => h1.1 x a b c d b f, h1.2⟩
theorem hmSf.up {e m : Nat} {I J : xI} (h1 : hmSf e m I J) {a : Nat} {r : Nat → Int32} (ha : a = m + 28 ∨ a = m + 29 ∨ (a = m + e ∧ a ≠ m)) : hmSf e m I (va_up J a r) := ⟨fun x p1 p2 p3 p4 p5 p6 => by rw [va_up_ne _ _ (by omega)]; exact h1.1 x p1 p2 p3 p4 p5 p6, fun k p q => by rw [va_up_ne _ _ (by omega)]; exact h1.2 k p q⟩
theorem hmSf.mg {m : Nat} {I J : xI} (h1 : hmSf 37 m I J) : hmMg m I J := ⟨fun x hx => h1.1 x (fun q => hx (by unfold hmMt; omega)) (fun q => hx (by unfold hmMt; omega)) (fun q => hx (by unfold hmMt; omega)) (fun q => hx (by unfold hmMt; omega)) (fun q => hx (by unfold hmMt; omega)) (fun q => hx (by unfold hmMt; omega)), h1.2 0 (by omega) (by omega), h1.2 1 (by omega) (by omega), h1.2 45 (by omega) (by omega), h1.2 46 (by omega) (by omega)⟩
theorem hmSf.mo {m : Nat} {I J : xI} {O : hmO} (h1 : hmSf 37 m I J) (h : hmMo I m O) : hmMo J m O := h1.mg.mo h
set_option maxHeartbeats 4000000 in
theorem mc_settledBy_loop {d : Nat} {sh : xSh} {R : xR} {L : xL} {I : xI} {Q : xQ} {m : Nat} {O : hmO} {H : hmH} (hm : xModel sh R m) (ho : hmOok O) (hok : hmOk O H) (hmn : hmMin H < 800000) {s : Int32} (hsub : hmSubR (hmN O) s H) : ∀ n i J, n + i = hmN O → hmMr (J (m + 28)) (hmRs s H i) → hmMr (J (m + 29)) H → hmMo J m O → J m 46 = nI (hmTk O) → (∀ I', hmSf 28 m J I' → hmMr (I' (m + 28)) H → Q (some (.int (spWith O H s))) 0 sh R L I') → Ex (d + 8) 0 0 MX9_settledBy 0 sh R L J 15 [some (.ref m), some (.int s), some (.int (nI i))] [] Q := by
  intro n
  induction n with
  | zero =>
    intro i J hi hS hA hO h46 hQ
    obtain ⟨on, otk, ow, cd, cfrom, cto, clen, ccd, csem⟩ := id hO
    have hokI := hmOk_rs hok ho hsub i (by omega)
    have o6 := ho.1
    obtain ⟨rs1, rs2, rs3⟩ := hmRs_set s H i
    refine Ex_iload_n 16 (i := 2) dX9_settledBy_15 rfl rfl rfl ?_
    refine Ex_aload_n 17 (i := 0) dX9_settledBy_16 rfl rfl rfl ?_
    refine Ex_getR 20 dX9_settledBy_17 fX9_13 (xMs_0 hm) rfl (xMr_10 hm) rfl ?_
    refine Ex_iconst 21 (v := 0) dX9_settledBy_20 (by decide) rfl ?_
    refine Ex_aI 22 0 (J (m + 2) 0) dX9_settledBy_21 (xMs_2 hm) rfl (by decide) (by decide) rfl rfl ?_
    rw [on]
    refine Ex_icmp_ge 25 45 dX9_settledBy_22 (by decide) rfl (fun c1 => ?_) (fun c1 => absurd c1 (fun q => q (nI_le (by omega) (by omega))))
    refine Ex_aload_n 46 (i := 0) dX9_settledBy_45 rfl rfl rfl ?_
    refine Ex_callV (M' := MX9_goesOn) 49 [] (rest := []) dX9_settledBy_46 lX9_390 mX9_goesOn rfl (xMs_0 hm) rfl (Nat.le_of_ble_eq_true rfl) (Nat.le_of_ble_eq_true rfl) rfl ?_
    have hiN : i = hmN O := by omega
    refine mc_goesOn hm hS hO ho hokI h46 (by omega) (fun I1 g r1 r2 r3 r4 => ?_)
    simp only [Option.toList, List.nil_append, List.cons_append]
    refine Ex_aload_n 50 (i := 0) dX9_settledBy_49 rfl rfl rfl ?_
    refine Ex_getR 53 dX9_settledBy_50 fX9_96 (xMs_0 hm) rfl (xMr_40 hm) rfl ?_
    refine Ex_iconst 54 (v := 0) dX9_settledBy_53 (by decide) rfl ?_
    refine Ex_aload_n 55 (i := 0) dX9_settledBy_54 rfl rfl rfl ?_
    refine Ex_getR 58 dX9_settledBy_55 fX9_93 (xMs_0 hm) rfl (xMr_39 hm) rfl ?_
    refine Ex_iconst 59 (v := 0) dX9_settledBy_58 (by decide) rfl ?_
    refine Ex_callS (M' := MX9_copies) 62 [.ref (m + 29), .int 0, .ref (m + 28), .int 0] (rest := []) dX9_settledBy_59 lX9_350 mX9_copies rfl rfl (Nat.le_of_ble_eq_true rfl) (Nat.le_of_ble_eq_true rfl) rfl ?_
    refine mc_cp (np := 58) (nq := 58) (a := 0) (b := 0) (J := (va_up I1 (m + 28) (va_cpy (I1 (m + 29)) (I1 (m + 28)) 0 0 58))) (xMs_29 hm) (xMs_28 hm) (by omega) (by omega) (by omega) (by omega) (by omega) rfl rfl rfl ?_
    simp only [Option.toList, List.nil_append, List.cons_append]
    refine Ex_aload_n 63 (i := 0) dX9_settledBy_62 rfl rfl rfl ?_
    refine Ex_gI 66 (I1 m 51) dX9_settledBy_63 fX9_387 (xMs_0 hm) rfl (congrFun (va_up_ne _ _ (by omega)) _) rfl ?_
    refine Ex_iret dX9_settledBy_66 rfl rfl (Or.inl rfl) ?_
    have e : I1 m 51 = spWith O H s := by
      rw [r3, hiN]
      rfl
    rw [e]
    refine hQ _ (hmSf.up (hmSf.gf g) (Or.inl rfl)) ?_
    rw [va_up_self, g.1 (m + 29) (by omega) (by omega) (by omega) (by omega)]
    exact hA.cp1 _
  | succ n ih =>
    intro i J hi hS hA hO h46 hQ
    obtain ⟨on, otk, ow, cd, cfrom, cto, clen, ccd, csem⟩ := id hO
    have hokI := hmOk_rs hok ho hsub i (by omega)
    have o6 := ho.1
    obtain ⟨rs1, rs2, rs3⟩ := hmRs_set s H i
    refine Ex_iload_n 16 (i := 2) dX9_settledBy_15 rfl rfl rfl ?_
    refine Ex_aload_n 17 (i := 0) dX9_settledBy_16 rfl rfl rfl ?_
    refine Ex_getR 20 dX9_settledBy_17 fX9_13 (xMs_0 hm) rfl (xMr_10 hm) rfl ?_
    refine Ex_iconst 21 (v := 0) dX9_settledBy_20 (by decide) rfl ?_
    refine Ex_aI 22 0 (J (m + 2) 0) dX9_settledBy_21 (xMs_2 hm) rfl (by decide) (by decide) rfl rfl ?_
    rw [on]
    refine Ex_icmp_ge 25 45 dX9_settledBy_22 (by decide) rfl (fun c1 => absurd c1 (nI_ge (by omega) (by omega))) (fun c1 => ?_)
    refine Ex_iload_n 26 (i := 1) dX9_settledBy_25 rfl rfl rfl ?_
    refine Ex_iload_n 27 (i := 2) dX9_settledBy_26 rfl rfl rfl ?_
    refine Ex_ishr 28 dX9_settledBy_27 rfl ?_
    refine Ex_iconst 29 (v := 1) dX9_settledBy_28 (by decide) rfl ?_
    refine Ex_iand 30 dX9_settledBy_29 rfl ?_
    refine Ex_iconst 31 (v := 1) dX9_settledBy_30 (by decide) rfl ?_
    refine Ex_icmp_ne 34 39 dX9_settledBy_31 (by decide) rfl (fun c2 => ?_) (fun c2 => ?_)
    · refine Ex_iinc 42 (v := (nI (i + 1))) (ls' := [some (.ref m), some (.int s), some (.int (nI (i + 1)))]) dX9_settledBy_39 rfl (xinc _) (Nat.le_of_ble_eq_true rfl) rfl rfl rfl ?_
      refine Ex_goto 15 dX9_settledBy_42 (by decide) ?_
      have hb := hmBit_n c2
      have e : hmRs s H (i + 1) = hmRs s H i := by
        show (if hmBit s i = true then _ else _) = _
        rw [hb, if_neg (by decide)]
      exact ih (i + 1) J (by omega) (by rw [e]; exact hS) hA hO h46 hQ
    · refine Ex_aload_n 35 (i := 0) dX9_settledBy_34 rfl rfl rfl ?_
      refine Ex_iload_n 36 (i := 2) dX9_settledBy_35 rfl rfl rfl ?_
      refine Ex_callV (M' := MX9_rings) 39 [.int (nI i)] (rest := []) dX9_settledBy_36 lX9_360 mX9_rings rfl (xMs_0 hm) rfl (Nat.le_of_ble_eq_true rfl) (Nat.le_of_ble_eq_true rfl) rfl ?_
      have hb := hmBit_1.mpr c2
      have hcan := hmRs_can o6 hsub (show i < hmN O by omega) hb
      have hni : i ∉ hmLine (hmRs s H i) := by
        have h2 : hmBit (hmSet (hmRs s H i)) i = false ∧ i ∉ hmLine (hmRs s H i) := by simpa [hmCanRing] using hcan
        exact h2.2
      refine mc_rings hm hS (by omega) (hmOk_room hokI ho (by omega) hni) (fun r' hr' => ?_)
      simp only [Option.toList, List.nil_append, List.cons_append]
      refine Ex_iinc 42 (v := (nI (i + 1))) (ls' := [some (.ref m), some (.int s), some (.int (nI (i + 1)))]) dX9_settledBy_39 rfl (xinc _) (Nat.le_of_ble_eq_true rfl) rfl rfl rfl ?_
      refine Ex_goto 15 dX9_settledBy_42 (by decide) ?_
      have e : hmRs s H (i + 1) = hmCome (hmRs s H i) i := by
        show (if hmBit s i = true then _ else _) = _
        rw [if_pos hb]
      exact ih (i + 1) _ (by omega) (by rw [e, va_up_self]; exact hr') (by rw [va_up_ne _ _ (by omega)]; exact hA) (hO.kept (fun x a b => va_up_ne _ _ (by omega))) (by rw [va_up_ne _ _ (by omega)]; exact h46) (fun I' g => hQ I' ((hmSf.up hmSf.rf (Or.inl rfl)).tr g))
set_option maxHeartbeats 4000000 in
theorem mc_settledBy {d : Nat} {sh : xSh} {R : xR} {L : xL} {I : xI} {Q : xQ} {m : Nat} {O : hmO} {H : hmH} (hm : xModel sh R m) (hS : hmMr (I (m + 28)) H) (hO : hmMo I m O) (ho : hmOok O) (hok : hmOk O H) (h46 : I m 46 = nI (hmTk O)) (hmn : hmMin H < 800000) {s : Int32} (hsub : hmSubR (hmN O) s H) (hQ : (∀ I', hmSf 28 m I I' → hmMr (I' (m + 28)) H → Q (some (.int (spWith O H s))) 0 sh R L I')) : Ex (d + 8) 0 0 MX9_settledBy 0 sh R L I 0 [some (.ref m), some (.int s), none] [] Q := by
  obtain ⟨s6, smin, slen, sset, stak, sline, sheld, shas, stalk⟩ := id hS
  obtain ⟨o6, ot1, ot2, oo, oll, owf⟩ := id ho
  obtain ⟨on, otk, ow, cd, cfrom, cto, clen, ccd, csem⟩ := id hO
  have hlN := hok.2.1
  refine Ex_aload_n 1 (i := 0) dX9_settledBy_0 rfl rfl rfl ?_
  refine Ex_getR 4 dX9_settledBy_1 fX9_93 (xMs_0 hm) rfl (xMr_39 hm) rfl ?_
  refine Ex_iconst 5 (v := 0) dX9_settledBy_4 (by decide) rfl ?_
  refine Ex_aload_n 6 (i := 0) dX9_settledBy_5 rfl rfl rfl ?_
  refine Ex_getR 9 dX9_settledBy_6 fX9_96 (xMs_0 hm) rfl (xMr_40 hm) rfl ?_
  refine Ex_iconst 10 (v := 0) dX9_settledBy_9 (by decide) rfl ?_
  refine Ex_callS (M' := MX9_copies) 13 [.ref (m + 28), .int 0, .ref (m + 29), .int 0] (rest := []) dX9_settledBy_10 lX9_350 mX9_copies rfl rfl (Nat.le_of_ble_eq_true rfl) (Nat.le_of_ble_eq_true rfl) rfl ?_
  refine mc_cp (np := 58) (nq := 58) (a := 0) (b := 0) (J := (va_up I (m + 29) (va_cpy (I (m + 28)) (I (m + 29)) 0 0 58))) (xMs_28 hm) (xMs_29 hm) (by omega) (by omega) (by omega) (by omega) (by omega) rfl rfl rfl ?_
  simp only [Option.toList, List.nil_append, List.cons_append]
  refine Ex_iconst 14 (v := 0) dX9_settledBy_13 (by decide) rfl ?_
  refine Ex_istore_n 15 (i := 2) (ls' := [some (.ref m), some (.int s), some (.int 0)]) dX9_settledBy_14 rfl (Nat.le_of_ble_eq_true rfl) rfl rfl rfl ?_
  exact mc_settledBy_loop (I := I) hm ho hok hmn hsub (hmN O) 0 _ (by omega) (by rw [va_up_ne _ _ (by omega)]; exact hS) (by rw [va_up_self]; exact hS.cp1 _) (hO.kept (fun x a b => va_up_ne _ _ (by omega))) (by rw [va_up_ne _ _ (by omega)]; exact h46) (fun I' g => hQ I' ((hmSf.up hmSf.rf (Or.inr (Or.inl rfl))).tr g))
set_option maxHeartbeats 4000000 in
theorem mb_helpers_loop {d : Nat} {sh : xSh} {R : xR} {L : xL} {I : xI} {Q : xQ} {m : Nat} {O : hmO} {H : hmH} (hm : xModel sh R m) (hS : hmMr (I (m + 28)) H) (hO : hmMo I m O) (ho : hmOok O) (hok : hmOk O H) (h46 : I m 46 = nI (hmTk O)) (hmn : hmMin H < 800000) {f : Nat} (hf : f < 64) (eF : hmFree (hmN O) H = nI f) {w : Nat} (hw : w < 6) (hQ : ∀ I', hmSf 37 m I I' → hmMr (I' (m + 28)) H → Q (some (.int (hmOb (hmHl (hmPh O H w) 64)))) 0 sh R L I') : ∀ n i J, n + i = f + 1 → hmSf 28 m I J → hmMr (J (m + 28)) H → Ex (d + 9) 0 0 MX9_helpers 0 sh R L J 33 [some (.ref m), some (.int (nI w)), some (.int (nI f)), some (.int (hmOb (hmHl (hmPh O H w) i))), some (.int (nI i))] [] Q := by
  intro n
  induction n with
  | zero =>
    intro i J hi gJ hSJ
    refine Ex_iload 35 dX9_helpers_33 rfl rfl ?_
    refine Ex_iload_n 36 (i := 2) dX9_helpers_35 rfl rfl rfl ?_
    refine Ex_icmp_gt 39 87 dX9_helpers_36 (by decide) rfl (fun c1 => ?_) (fun c1 => absurd c1 (fun q => q ((nI_ltI (by omega) (by omega)).mpr (by omega))))
    refine Ex_iload_n 88 (i := 3) dX9_helpers_87 rfl rfl rfl ?_
    refine Ex_iret dX9_helpers_88 rfl rfl (Or.inl rfl) ?_
    have e : hmHl (hmPh O H w) 64 = hmHl (hmPh O H w) i := hmHl_ext 64 (by omega) (fun s h1 h2 => by
      have h3 : hmSub (nI s) (nI f) = false := by
        cases hb : hmSub (nI s) (nI f) with
        | false => rfl
        | true =>
          have := hmSub_le h2 hf hb
          omega
      simp only [hmPh, eF, h3, Bool.false_and])
    rw [← e]
    exact hQ J gJ.e28 hSJ
  | succ n ih =>
    intro i J hi gJ hSJ
    have eb : hmPh O H w i = (hmSub (nI i) (nI f) && hmBit (spWith O H (nI i)) w) := by simp only [hmPh, eF]
    cases eh : hmHl (hmPh O H w) i with
    | none =>
      refine Ex_iload 35 dX9_helpers_33 rfl rfl ?_
      refine Ex_iload_n 36 (i := 2) dX9_helpers_35 rfl rfl rfl ?_
      refine Ex_icmp_gt 39 87 dX9_helpers_36 (by decide) rfl (fun c1 => absurd c1 (fun q => absurd ((nI_ltI (by omega) (by omega)).mp q) (by omega))) (fun c1 => ?_)
      refine Ex_iload 41 dX9_helpers_39 rfl rfl ?_
      refine Ex_iload_n 42 (i := 2) dX9_helpers_41 rfl rfl rfl ?_
      refine Ex_iconst 43 (v := (-1)) dX9_helpers_42 (by decide) rfl ?_
      refine Ex_ixor 44 dX9_helpers_43 rfl ?_
      refine Ex_iand 45 dX9_helpers_44 rfl ?_
      refine Ex_if_ne 48 81 dX9_helpers_45 (by decide) rfl (fun c2 => ?_) (fun c2 => ?_)
      · refine Ex_iinc 84 (v := (nI (i + 1))) (ls' := [some (.ref m), some (.int (nI w)), some (.int (nI f)), some (.int (-1)), some (.int (nI (i + 1)))]) dX9_helpers_81 rfl (xinc _) (Nat.le_of_ble_eq_true rfl) rfl rfl rfl ?_
        refine Ex_goto 33 dX9_helpers_84 (by decide) ?_
        have e : hmHl (hmPh O H w) (i + 1) = hmHl (hmPh O H w) i := hmHl_no (by rw [eb, hmSub_no c2, Bool.false_and])
        refine Ex_l (ls' := [some (.ref m), some (.int (nI w)), some (.int (nI f)), some (.int (hmOb (hmHl (hmPh O H w) (i + 1)))), some (.int (nI (i + 1)))]) (by rw [e, eh]; rfl) ?_
        exact ih (i + 1) J (by omega) gJ hSJ
      · refine Ex_iload_n 49 (i := 3) dX9_helpers_48 rfl rfl rfl ?_
        refine Ex_if_lt 52 64 dX9_helpers_49 (by decide) rfl (fun c3 => ?_) (fun c3 => absurd c3 (fun q => q (show (-1 : Int32) < 0 by decide)))
        refine Ex_aload_n 65 (i := 0) dX9_helpers_64 rfl rfl rfl ?_
        refine Ex_iload 67 dX9_helpers_65 rfl rfl ?_
        refine Ex_callV (M' := MX9_settledBy) 70 [.int (nI i)] (rest := []) dX9_helpers_67 lX9_405 mX9_settledBy rfl (xMs_0 hm) rfl (Nat.le_of_ble_eq_true rfl) (Nat.le_of_ble_eq_true rfl) rfl ?_
        have hsub := hmSub_free ho.1 (hm_s6_nI (show i < 64 by omega)) (by rw [eF]; exact hmSub_yes c2)
        refine mc_settledBy hm hSJ (hmSf.mo gJ.e28 hO) ho hok (by rw [gJ.2 46 (by omega) (by omega)]; exact h46) hmn hsub (fun I1 g1 hS1 => ?_)
        have gJ1 := gJ.tr g1
        simp only [Option.toList, List.nil_append, List.cons_append]
        refine Ex_iload_n 71 (i := 1) dX9_helpers_70 rfl rfl rfl ?_
        refine Ex_ishr 72 dX9_helpers_71 rfl ?_
        refine Ex_iconst 73 (v := 1) dX9_helpers_72 (by decide) rfl ?_
        refine Ex_iand 74 dX9_helpers_73 rfl ?_
        refine Ex_iconst 75 (v := 1) dX9_helpers_74 (by decide) rfl ?_
        refine Ex_icmp_ne 78 81 dX9_helpers_75 (by decide) rfl (fun c4 => ?_) (fun c4 => ?_)
        · refine Ex_iinc 84 (v := (nI (i + 1))) (ls' := [some (.ref m), some (.int (nI w)), some (.int (nI f)), some (.int (-1)), some (.int (nI (i + 1)))]) dX9_helpers_81 rfl (xinc _) (Nat.le_of_ble_eq_true rfl) rfl rfl rfl ?_
          refine Ex_goto 33 dX9_helpers_84 (by decide) ?_
          have e : hmHl (hmPh O H w) (i + 1) = hmHl (hmPh O H w) i := hmHl_no (by rw [eb, hmBit_n c4, Bool.and_false])
          refine Ex_l (ls' := [some (.ref m), some (.int (nI w)), some (.int (nI f)), some (.int (hmOb (hmHl (hmPh O H w) (i + 1)))), some (.int (nI (i + 1)))]) (by rw [e, eh]; rfl) ?_
          exact ih (i + 1) I1 (by omega) gJ1 hS1
        · refine Ex_iload 80 dX9_helpers_78 rfl rfl ?_
          refine Ex_istore_n 81 (i := 3) (ls' := [some (.ref m), some (.int (nI w)), some (.int (nI f)), some (.int (nI i)), some (.int (nI i))]) dX9_helpers_80 rfl (Nat.le_of_ble_eq_true rfl) rfl rfl rfl ?_
          refine Ex_iinc 84 (v := (nI (i + 1))) (ls' := [some (.ref m), some (.int (nI w)), some (.int (nI f)), some (.int (nI i)), some (.int (nI (i + 1)))]) dX9_helpers_81 rfl (xinc _) (Nat.le_of_ble_eq_true rfl) rfl rfl rfl ?_
          refine Ex_goto 33 dX9_helpers_84 (by decide) ?_
          have hp : hmPh O H w i = true := by rw [eb, hmSub_yes c2, hmBit_1.mpr c4]; rfl
          have e : hmHl (hmPh O H w) (i + 1) = some i := hmHl_yes (by rw [eh]; exact hm_cnt7 i (by omega)) hp
          refine Ex_l (ls' := [some (.ref m), some (.int (nI w)), some (.int (nI f)), some (.int (hmOb (hmHl (hmPh O H w) (i + 1)))), some (.int (nI (i + 1)))]) (by rw [e]; rfl) ?_
          exact ih (i + 1) I1 (by omega) gJ1 hS1
    | some b =>
      have hbi := hmHl_lt i b eh
      have hbn : ¬ nI b < 0 := Int32.not_lt.mpr (hm_nI0 (by omega))
      refine Ex_iload 35 dX9_helpers_33 rfl rfl ?_
      refine Ex_iload_n 36 (i := 2) dX9_helpers_35 rfl rfl rfl ?_
      refine Ex_icmp_gt 39 87 dX9_helpers_36 (by decide) rfl (fun c1 => absurd c1 (fun q => absurd ((nI_ltI (by omega) (by omega)).mp q) (by omega))) (fun c1 => ?_)
      refine Ex_iload 41 dX9_helpers_39 rfl rfl ?_
      refine Ex_iload_n 42 (i := 2) dX9_helpers_41 rfl rfl rfl ?_
      refine Ex_iconst 43 (v := (-1)) dX9_helpers_42 (by decide) rfl ?_
      refine Ex_ixor 44 dX9_helpers_43 rfl ?_
      refine Ex_iand 45 dX9_helpers_44 rfl ?_
      refine Ex_if_ne 48 81 dX9_helpers_45 (by decide) rfl (fun c2 => ?_) (fun c2 => ?_)
      · refine Ex_iinc 84 (v := (nI (i + 1))) (ls' := [some (.ref m), some (.int (nI w)), some (.int (nI f)), some (.int (nI b)), some (.int (nI (i + 1)))]) dX9_helpers_81 rfl (xinc _) (Nat.le_of_ble_eq_true rfl) rfl rfl rfl ?_
        refine Ex_goto 33 dX9_helpers_84 (by decide) ?_
        have e : hmHl (hmPh O H w) (i + 1) = hmHl (hmPh O H w) i := hmHl_no (by rw [eb, hmSub_no c2, Bool.false_and])
        refine Ex_l (ls' := [some (.ref m), some (.int (nI w)), some (.int (nI f)), some (.int (hmOb (hmHl (hmPh O H w) (i + 1)))), some (.int (nI (i + 1)))]) (by rw [e, eh]; rfl) ?_
        exact ih (i + 1) J (by omega) gJ hSJ
      · refine Ex_iload_n 49 (i := 3) dX9_helpers_48 rfl rfl rfl ?_
        refine Ex_if_lt 52 64 dX9_helpers_49 (by decide) rfl (fun c3 => absurd c3 hbn) (fun c3 => ?_)
        refine Ex_iload 54 dX9_helpers_52 rfl rfl ?_
        refine Ex_callS (M' := MX9_bits) 57 [.int (nI i)] (rest := []) dX9_helpers_54 lX9_322 mX9_bits rfl rfl (Nat.le_of_ble_eq_true rfl) (Nat.le_of_ble_eq_true rfl) rfl ?_
        refine mc_bits ?_
        simp only [Option.toList, List.cons_append, List.nil_append]
        refine Ex_iload_n 58 (i := 3) dX9_helpers_57 rfl rfl rfl ?_
        refine Ex_callS (M' := MX9_bits) 61 [.int (nI b)] (rest := [.int (hmCnt (nI i))]) dX9_helpers_58 lX9_322 mX9_bits rfl rfl (Nat.le_of_ble_eq_true rfl) (Nat.le_of_ble_eq_true rfl) rfl ?_
        refine mc_bits ?_
        simp only [Option.toList, List.cons_append, List.nil_append]
        refine Ex_icmp_ge 64 81 dX9_helpers_61 (by decide) rfl (fun c4 => ?_) (fun c4 => ?_)
        · refine Ex_iinc 84 (v := (nI (i + 1))) (ls' := [some (.ref m), some (.int (nI w)), some (.int (nI f)), some (.int (nI b)), some (.int (nI (i + 1)))]) dX9_helpers_81 rfl (xinc _) (Nat.le_of_ble_eq_true rfl) rfl rfl rfl ?_
          refine Ex_goto 33 dX9_helpers_84 (by decide) ?_
          have e : hmHl (hmPh O H w) (i + 1) = hmHl (hmPh O H w) i := hmHl_ge (by omega) (by rw [eh]; exact Int32.not_lt.mpr c4)
          refine Ex_l (ls' := [some (.ref m), some (.int (nI w)), some (.int (nI f)), some (.int (hmOb (hmHl (hmPh O H w) (i + 1)))), some (.int (nI (i + 1)))]) (by rw [e, eh]; rfl) ?_
          exact ih (i + 1) J (by omega) gJ hSJ
        · refine Ex_aload_n 65 (i := 0) dX9_helpers_64 rfl rfl rfl ?_
          refine Ex_iload 67 dX9_helpers_65 rfl rfl ?_
          refine Ex_callV (M' := MX9_settledBy) 70 [.int (nI i)] (rest := []) dX9_helpers_67 lX9_405 mX9_settledBy rfl (xMs_0 hm) rfl (Nat.le_of_ble_eq_true rfl) (Nat.le_of_ble_eq_true rfl) rfl ?_
          have hsub := hmSub_free ho.1 (hm_s6_nI (show i < 64 by omega)) (by rw [eF]; exact hmSub_yes c2)
          refine mc_settledBy hm hSJ (hmSf.mo gJ.e28 hO) ho hok (by rw [gJ.2 46 (by omega) (by omega)]; exact h46) hmn hsub (fun I1 g1 hS1 => ?_)
          have gJ1 := gJ.tr g1
          simp only [Option.toList, List.nil_append, List.cons_append]
          refine Ex_iload_n 71 (i := 1) dX9_helpers_70 rfl rfl rfl ?_
          refine Ex_ishr 72 dX9_helpers_71 rfl ?_
          refine Ex_iconst 73 (v := 1) dX9_helpers_72 (by decide) rfl ?_
          refine Ex_iand 74 dX9_helpers_73 rfl ?_
          refine Ex_iconst 75 (v := 1) dX9_helpers_74 (by decide) rfl ?_
          refine Ex_icmp_ne 78 81 dX9_helpers_75 (by decide) rfl (fun c5 => ?_) (fun c5 => ?_)
          · refine Ex_iinc 84 (v := (nI (i + 1))) (ls' := [some (.ref m), some (.int (nI w)), some (.int (nI f)), some (.int (nI b)), some (.int (nI (i + 1)))]) dX9_helpers_81 rfl (xinc _) (Nat.le_of_ble_eq_true rfl) rfl rfl rfl ?_
            refine Ex_goto 33 dX9_helpers_84 (by decide) ?_
            have e : hmHl (hmPh O H w) (i + 1) = hmHl (hmPh O H w) i := hmHl_no (by rw [eb, hmBit_n c5, Bool.and_false])
            refine Ex_l (ls' := [some (.ref m), some (.int (nI w)), some (.int (nI f)), some (.int (hmOb (hmHl (hmPh O H w) (i + 1)))), some (.int (nI (i + 1)))]) (by rw [e, eh]; rfl) ?_
            exact ih (i + 1) I1 (by omega) gJ1 hS1
          · refine Ex_iload 80 dX9_helpers_78 rfl rfl ?_
            refine Ex_istore_n 81 (i := 3) (ls' := [some (.ref m), some (.int (nI w)), some (.int (nI f)), some (.int (nI i)), some (.int (nI i))]) dX9_helpers_80 rfl (Nat.le_of_ble_eq_true rfl) rfl rfl rfl ?_
            refine Ex_iinc 84 (v := (nI (i + 1))) (ls' := [some (.ref m), some (.int (nI w)), some (.int (nI f)), some (.int (nI i)), some (.int (nI (i + 1)))]) dX9_helpers_81 rfl (xinc _) (Nat.le_of_ble_eq_true rfl) rfl rfl rfl ?_
            refine Ex_goto 33 dX9_helpers_84 (by decide) ?_
            have hp : hmPh O H w i = true := by rw [eb, hmSub_yes c2, hmBit_1.mpr c5]; rfl
            have e : hmHl (hmPh O H w) (i + 1) = some i := hmHl_yes (by rw [eh]; exact Int32.not_le.mp c4) hp
            refine Ex_l (ls' := [some (.ref m), some (.int (nI w)), some (.int (nI f)), some (.int (hmOb (hmHl (hmPh O H w) (i + 1)))), some (.int (nI (i + 1)))]) (by rw [e]; rfl) ?_
            exact ih (i + 1) I1 (by omega) gJ1 hS1
set_option maxHeartbeats 4000000 in
theorem mb_helpers {d : Nat} {sh : xSh} {R : xR} {L : xL} {I : xI} {Q : xQ} {m : Nat} {O : hmO} {H : hmH} (hm : xModel sh R m) (hS : hmMr (I (m + 28)) H) (hO : hmMo I m O) (ho : hmOok O) (hok : hmOk O H) (h46 : I m 46 = nI (hmTk O)) (hmn : hmMin H < 800000) {qv : Int32} (hQ : ∀ I', hmMg m I I' → hmMr (I' (m + 28)) H → Q (some (.int (spHelpers O H qv))) 0 sh R L I') : Ex (d + 9) 0 0 MX9_helpers 0 sh R L I 5 [some (.ref m), some (.int qv), none, none, none] [] Q := by
  obtain ⟨s6, smin, slen, sset, stak, sline, sheld, shas, stalk⟩ := id hS
  obtain ⟨o6, ot1, ot2, oo, oll, owf⟩ := id ho
  obtain ⟨on, otk, ow, cd, cfrom, cto, clen, ccd, csem⟩ := id hO
  have hlN := hok.2.1
  refine Ex_aload_n 6 (i := 0) dX9_helpers_5 rfl rfl rfl ?_
  refine Ex_iload_n 7 (i := 1) dX9_helpers_6 rfl rfl rfl ?_
  refine Ex_callV (M' := MX9_isCaller) 10 [.int qv] (rest := []) dX9_helpers_7 lX9_347 mX9_isCaller rfl (xMs_0 hm) rfl (Nat.le_of_ble_eq_true rfl) (Nat.le_of_ble_eq_true rfl) rfl ?_
  refine mc_isCaller hm on o6 ?_
  simp only [Option.toList, List.cons_append, List.nil_append]
  refine Ex_if_eq 13 21 dX9_helpers_10 (by decide) rfl (fun c1 => ?_) (fun c1 => ?_)
  · refine Ex_iconst 22 (v := (-1)) dX9_helpers_21 (by decide) rfl ?_
    refine Ex_iret dX9_helpers_22 rfl rfl (Or.inl rfl) ?_
    have e : spHelpers O H qv = -1 := by
      simp [spHelpers, hmOn_no (hmB_eq c1)]
    rw [← e]
    exact hQ _ hmMg.rf hS
  · have hct := hmB_ne c1
    obtain ⟨w, hw, rfl⟩ := hmCal_of hct
    have hix : hmIx (nI w) = w := hmIx_nI (by omega)
    refine Ex_aload_n 14 (i := 0) dX9_helpers_13 rfl rfl rfl ?_
    refine Ex_iload_n 15 (i := 1) dX9_helpers_14 rfl rfl rfl ?_
    refine Ex_callV (M' := MX9_placeOf) 18 [.int (nI w)] (rest := []) dX9_helpers_15 lX9_319 mX9_placeOf rfl (xMs_0 hm) rfl (Nat.le_of_ble_eq_true rfl) (Nat.le_of_ble_eq_true rfl) rfl ?_
    refine mc_placeOf hm hS (by omega) (fun x hx => by have := hlN x hx; omega) ?_
    simp only [Option.toList, List.cons_append, List.nil_append]
    refine Ex_if_ge 21 23 dX9_helpers_18 (by decide) rfl (fun c2 => ?_) (fun c2 => ?_)
    · have hwm : w ∈ hmLine H := by
        by_cases z : w ∈ hmLine H
        · exact z
        · exact absurd ((hmPlc_lt (by omega)).mpr z) (Int32.not_lt.mpr c2)
      have hon := hmOn_yes hw (by omega) hwm
      refine Ex_aload_n 24 (i := 0) dX9_helpers_23 rfl rfl rfl ?_
      refine Ex_callV (M' := MX9_mayRing) 27 [] (rest := []) dX9_helpers_24 lX9_402 mX9_mayRing rfl (xMs_0 hm) rfl (Nat.le_of_ble_eq_true rfl) (Nat.le_of_ble_eq_true rfl) rfl ?_
      refine mc_mayRing hm hS hO ho hok ?_
      simp only [Option.toList, List.cons_append, List.nil_append]
      obtain ⟨f, hf, eF⟩ := hmFree_s6 o6 H
      rw [eF]
      refine Ex_istore_n 28 (i := 2) (ls' := [some (.ref m), some (.int (nI w)), some (.int (nI f)), none, none]) dX9_helpers_27 rfl (Nat.le_of_ble_eq_true rfl) rfl rfl rfl ?_
      refine Ex_iconst 29 (v := (-1)) dX9_helpers_28 (by decide) rfl ?_
      refine Ex_istore_n 30 (i := 3) (ls' := [some (.ref m), some (.int (nI w)), some (.int (nI f)), some (.int (-1)), none]) dX9_helpers_29 rfl (Nat.le_of_ble_eq_true rfl) rfl rfl rfl ?_
      refine Ex_iconst 31 (v := 0) dX9_helpers_30 (by decide) rfl ?_
      refine Ex_istore 33 (ls' := [some (.ref m), some (.int (nI w)), some (.int (nI f)), some (.int (-1)), some (.int 0)]) dX9_helpers_31 (Nat.le_of_ble_eq_true rfl) rfl rfl rfl ?_
      have e : spHelpers O H (nI w) = hmOb (hmHl (hmPh O H w) 64) := by simp only [spHelpers, hon, hix, if_true]
      rw [e] at hQ
      exact mb_helpers_loop hm hS hO ho hok h46 hmn hf eF (by omega) (fun I' g hs => hQ I' g.mg hs) (f + 1) 0 I (by omega) hmSf.rf hS
    · refine Ex_iconst 22 (v := (-1)) dX9_helpers_21 (by decide) rfl ?_
      refine Ex_iret dX9_helpers_22 rfl rfl (Or.inl rfl) ?_
      have e : spHelpers O H (nI w) = -1 := by
        have hz : w ∉ hmLine H := (hmPlc_lt (by omega)).mp (Int32.not_le.mp c2)
        simp [spHelpers, hmOn_no2 (by omega) hz]
      rw [← e]
      exact hQ _ hmMg.rf hS
set_option maxHeartbeats 4000000 in
theorem mq_helpers {d : Nat} {sh : xSh} {R : xR} {L : xL} {I : xI} {Q : xQ} {m : Nat} {O : hmO} {H : hmH} (hm : xModel sh R m) (hS : hmMr (I (m + 28)) H) (hO : hmMo I m O) (ho : hmOok O) (hok : hmOk O H) (h46 : I m 46 = nI (hmTk O)) (hmn : hmMin H < 800000) {qv : Int32} (hQ : ∀ I', hmMg m (hmTh I m) I' → hmMr (I' (m + 28)) H → Q (some (.int (spHelpers O H qv))) 0 sh R L I') : Ex (d + 9) 0 0 MX9_helpers 0 sh R L I 0 [some (.ref m), some (.int qv), none, none, none] [] Q := by
  refine Ex_aload_n 1 (i := 0) dX9_helpers_0 rfl rfl rfl ?_
  refine Ex_iconst 2 (v := 0) dX9_helpers_1 (by decide) rfl ?_
  refine Ex_pI 5 (I m) (va_up I m (va_up (I m) 0 0)) dX9_helpers_2 fX9_130 rfl (xMs_0 hm) rfl (fun _ => rfl) rfl rfl rfl rfl ?_
  exact mb_helpers hm (hmTh_mr hS) (hmTh_mo hO) ho hok ((hmTh_f (by omega)).trans h46) hmn  hQ
def hmTv (o : Option Bool) : Int32 := match o with
  | none => -1
  | some b => hmB b
def hmTa (r : Nat → Int32) (k : Nat) (t : hmTo) : Prop := ∀ w, w < 6 → r (6 * k + w) = hmTv (t w)
theorem hmTv_neg {o : Option Bool} : hmTv o < 0 ↔ o = none := by
  cases o with
  | none => exact ⟨fun _ => rfl, fun _ => by decide⟩
  | some b => cases b <;> exact ⟨fun h => absurd h (by decide), fun h => by cases h⟩
theorem hmTv_eq {o : Option Bool} {b : Bool} : hmB b = hmTv o ↔ o = some b := by
  cases o with
  | none => cases b <;> exact ⟨fun h => absurd h (by decide), fun h => by cases h⟩
  | some c => cases b <;> cases c <;> simp [hmTv, hmB]
set_option maxHeartbeats 4000000 in
theorem mc_isAsTold_loop {d : Nat} {sh : xSh} {R : xR} {L : xL} {I : xI} {Q : xQ} {m : Nat} {O : hmO} (hm : xModel sh R m) (hO : hmMo I m O) (ho : hmOok O) {t : hmTo} (hT : hmTa (I (m + 27)) 0 t) (htn : ∀ w, hmN O ≤ w → t w = none) {s : Int32} (hs : hmS6 s) (hQ : Q (some (.int (hmB (hmAs t s)))) 0 sh R L I) : ∀ n i, n + i = hmN O → (∀ c, c < i → t c = none ∨ t c = some (hmBit s c)) → Ex d 0 0 MX9_isAsTold 0 sh R L I 2 [some (.ref m), some (.int s), some (.int (nI i))] [] Q := by
  obtain ⟨on, otk, ow, cd, cfrom, cto, clen, ccd, csem⟩ := id hO
  have o6 := ho.1
  have hT0 : ∀ w, w < 6 → I (m + 27) w = hmTv (t w) := fun w hw => by
    have h1 := hT w hw
    rw [Nat.mul_zero, Nat.zero_add] at h1
    exact h1
  intro n
  induction n with
  | zero =>
    intro i hi hc
    refine Ex_iload_n 3 (i := 2) dX9_isAsTold_2 rfl rfl rfl ?_
    refine Ex_aload_n 4 (i := 0) dX9_isAsTold_3 rfl rfl rfl ?_
    refine Ex_getR 7 dX9_isAsTold_4 fX9_13 (xMs_0 hm) rfl (xMr_10 hm) rfl ?_
    refine Ex_iconst 8 (v := 0) dX9_isAsTold_7 (by decide) rfl ?_
    refine Ex_aI 9 0 (I (m + 2) 0) dX9_isAsTold_8 (xMs_2 hm) rfl (by decide) (by decide) rfl rfl ?_
    rw [on]
    refine Ex_icmp_ge 12 43 dX9_isAsTold_9 (by decide) rfl (fun c1 => ?_) (fun c1 => absurd c1 (fun q => q (nI_le (by omega) (by omega))))
    refine Ex_iconst 44 (v := 1) dX9_isAsTold_43 (by decide) rfl ?_
    refine Ex_iret dX9_isAsTold_44 rfl (by decide) (Or.inl rfl) ?_
    have e : hmB (hmAs t s) = 1 := by
      rw [hmB_1, hmAs_iff]
      intro w hw
      by_cases e : w < i
      · exact hc w e
      · exact Or.inl (htn w (by omega))
    rw [← e]
    exact hQ
  | succ n ih =>
    intro i hi hc
    refine Ex_iload_n 3 (i := 2) dX9_isAsTold_2 rfl rfl rfl ?_
    refine Ex_aload_n 4 (i := 0) dX9_isAsTold_3 rfl rfl rfl ?_
    refine Ex_getR 7 dX9_isAsTold_4 fX9_13 (xMs_0 hm) rfl (xMr_10 hm) rfl ?_
    refine Ex_iconst 8 (v := 0) dX9_isAsTold_7 (by decide) rfl ?_
    refine Ex_aI 9 0 (I (m + 2) 0) dX9_isAsTold_8 (xMs_2 hm) rfl (by decide) (by decide) rfl rfl ?_
    rw [on]
    refine Ex_icmp_ge 12 43 dX9_isAsTold_9 (by decide) rfl (fun c1 => absurd c1 (nI_ge (by omega) (by omega))) (fun c1 => ?_)
    refine Ex_aload_n 13 (i := 0) dX9_isAsTold_12 rfl rfl rfl ?_
    refine Ex_getR 16 dX9_isAsTold_13 fX9_90 (xMs_0 hm) rfl (xMr_38 hm) rfl ?_
    refine Ex_iload_n 17 (i := 2) dX9_isAsTold_16 rfl rfl rfl ?_
    refine Ex_aI 18 i (I (m + 27) i) dX9_isAsTold_17 (xMs_27 hm) rfl (by omega) (by decide) rfl rfl ?_
    rw [hT0 i (by omega)]
    refine Ex_if_lt 21 37 dX9_isAsTold_18 (by decide) rfl (fun c2 => ?_) (fun c2 => ?_)
    · refine Ex_iinc 40 (v := (nI (i + 1))) (ls' := [some (.ref m), some (.int s), some (.int (nI (i + 1)))]) dX9_isAsTold_37 rfl (xinc _) (Nat.le_of_ble_eq_true rfl) rfl rfl rfl ?_
      refine Ex_goto 2 dX9_isAsTold_40 (by decide) ?_
      refine ih (i + 1) (by omega) (fun c hc2 => ?_)
      by_cases e : c = i
      · subst e
        exact Or.inl (hmTv_neg.mp c2)
      · exact hc c (by omega)
    · refine Ex_iload_n 22 (i := 1) dX9_isAsTold_21 rfl rfl rfl ?_
      refine Ex_iload_n 23 (i := 2) dX9_isAsTold_22 rfl rfl rfl ?_
      refine Ex_ishr 24 dX9_isAsTold_23 rfl ?_
      refine Ex_iconst 25 (v := 1) dX9_isAsTold_24 (by decide) rfl ?_
      refine Ex_iand 26 dX9_isAsTold_25 rfl ?_
      rw [hmBit_v hs (show i < 6 by omega)]
      refine Ex_aload_n 27 (i := 0) dX9_isAsTold_26 rfl rfl rfl ?_
      refine Ex_getR 30 dX9_isAsTold_27 fX9_90 (xMs_0 hm) rfl (xMr_38 hm) rfl ?_
      refine Ex_iload_n 31 (i := 2) dX9_isAsTold_30 rfl rfl rfl ?_
      refine Ex_aI 32 i (I (m + 27) i) dX9_isAsTold_31 (xMs_27 hm) rfl (by omega) (by decide) rfl rfl ?_
      rw [hT0 i (by omega)]
      refine Ex_icmp_eq 35 37 dX9_isAsTold_32 (by decide) rfl (fun c3 => ?_) (fun c3 => ?_)
      · refine Ex_iinc 40 (v := (nI (i + 1))) (ls' := [some (.ref m), some (.int s), some (.int (nI (i + 1)))]) dX9_isAsTold_37 rfl (xinc _) (Nat.le_of_ble_eq_true rfl) rfl rfl rfl ?_
        refine Ex_goto 2 dX9_isAsTold_40 (by decide) ?_
        refine ih (i + 1) (by omega) (fun c hc2 => ?_)
        by_cases e : c = i
        · subst e
          exact Or.inr (hmTv_eq.mp c3)
        · exact hc c (by omega)
      · refine Ex_iconst 36 (v := 0) dX9_isAsTold_35 (by decide) rfl ?_
        refine Ex_iret dX9_isAsTold_36 rfl (by decide) (Or.inl rfl) ?_
        have e : hmB (hmAs t s) = 0 := by
          rw [hmB_0]
          cases hb : hmAs t s with
          | false => rfl
          | true =>
            rcases hmAs_iff.mp hb i (by omega) with h1 | h1
            · exact absurd (hmTv_neg.mpr h1) c2
            · exact absurd (hmTv_eq.mpr h1) c3
        rw [← e]
        exact hQ
set_option maxHeartbeats 4000000 in
theorem mc_isAsTold {d : Nat} {sh : xSh} {R : xR} {L : xL} {I : xI} {Q : xQ} {m : Nat} {O : hmO} (hm : xModel sh R m) (hO : hmMo I m O) (ho : hmOok O) {t : hmTo} (hT : hmTa (I (m + 27)) 0 t) (htn : ∀ w, hmN O ≤ w → t w = none) {s : Int32} (hs : hmS6 s) (hQ : Q (some (.int (hmB (hmAs t s)))) 0 sh R L I) : Ex d 0 0 MX9_isAsTold 0 sh R L I 0 [some (.ref m), some (.int s), none] [] Q := by
  refine Ex_iconst 1 (v := 0) dX9_isAsTold_0 (by decide) rfl ?_
  refine Ex_istore_n 2 (i := 2) (ls' := [some (.ref m), some (.int s), some (.int 0)]) dX9_isAsTold_1 rfl (Nat.le_of_ble_eq_true rfl) rfl rfl rfl ?_
  exact mc_isAsTold_loop hm hO ho hT htn hs hQ (hmN O) 0 (by omega) (fun c hc => absurd hc (by omega))
