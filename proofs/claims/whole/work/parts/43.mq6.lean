set_option maxHeartbeats 4000000 in
theorem mc_laysSettled_loop {d : Nat} {sh : xSh} {R : xR} {L : xL} {I : xI} {Q : xQ} {m : Nat} {O : hmO} {H : hmH} (hm : xModel sh R m) (hS : hmMr (I (m + 28)) H) (hO : hmMo I m O) (ho : hmOok O) (hok : hmOk O H) (h46 : I m 46 = nI (hmTk O)) (hmn : hmMin H < 800000) {f : Nat} (hf : f < 64) (eF : hmFree (hmN O) H = nI f) (hQ : ∀ I', hmSf 37 m I I' → hmMr (I' (m + 28)) H → (∀ j, j ≤ f → I' (m + 37) j = (if hmSub (nI j) (nI f) = true then spWith O H (nI j) else 0)) → Q none 0 sh R L I') : ∀ n i J, n + i = f + 1 → hmSf 37 m I J → hmMr (J (m + 28)) H → (∀ j, j < i → J (m + 37) j = (if hmSub (nI j) (nI f) = true then spWith O H (nI j) else 0)) → Ex (d + 9) 0 0 MX9_laysSettled 0 sh R L J 2 [some (.ref m), some (.int (nI f)), some (.int (nI i))] [] Q := by
  intro n
  induction n with
  | zero =>
    intro i J hi gJ hSJ hJ
    refine Ex_iload_n 3 (i := 2) dX9_laysSettled_2 rfl rfl rfl ?_
    refine Ex_iload_n 4 (i := 1) dX9_laysSettled_3 rfl rfl rfl ?_
    refine Ex_icmp_gt 7 36 dX9_laysSettled_4 (by decide) rfl (fun c1 => ?_) (fun c1 => absurd c1 (fun q => q ((nI_ltI (by omega) (by omega)).mpr (by omega))))
    refine Ex_ret0 dX9_laysSettled_36 rfl (Or.inl rfl) ?_
    exact hQ J gJ hSJ (fun j hj => hJ j (by omega))
  | succ n ih =>
    intro i J hi gJ hSJ hJ
    refine Ex_iload_n 3 (i := 2) dX9_laysSettled_2 rfl rfl rfl ?_
    refine Ex_iload_n 4 (i := 1) dX9_laysSettled_3 rfl rfl rfl ?_
    refine Ex_icmp_gt 7 36 dX9_laysSettled_4 (by decide) rfl (fun c1 => absurd c1 (fun q => absurd ((nI_ltI (by omega) (by omega)).mp q) (by omega))) (fun c1 => ?_)
    refine Ex_aload_n 8 (i := 0) dX9_laysSettled_7 rfl rfl rfl ?_
    refine Ex_getR 11 dX9_laysSettled_8 fX9_120 (xMs_0 hm) rfl (xMr_55 hm) rfl ?_
    refine Ex_iload_n 12 (i := 2) dX9_laysSettled_11 rfl rfl rfl ?_
    refine Ex_iload_n 13 (i := 2) dX9_laysSettled_12 rfl rfl rfl ?_
    refine Ex_iload_n 14 (i := 1) dX9_laysSettled_13 rfl rfl rfl ?_
    refine Ex_iconst 15 (v := (-1)) dX9_laysSettled_14 (by decide) rfl ?_
    refine Ex_ixor 16 dX9_laysSettled_15 rfl ?_
    refine Ex_iand 17 dX9_laysSettled_16 rfl ?_
    refine Ex_if_ne 20 28 dX9_laysSettled_17 (by decide) rfl (fun c2 => ?_) (fun c2 => ?_)
    · refine Ex_iconst 29 (v := 0) dX9_laysSettled_28 (by decide) rfl ?_
      refine Ex_sI 30 i (J (m + 37)) (va_up J (m + 37) (va_up (J (m + 37)) i 0)) dX9_laysSettled_29 (xMs_37 hm) rfl (by omega) (by decide) rfl rfl rfl ?_
      refine Ex_iinc 33 (v := (nI (i + 1))) (ls' := [some (.ref m), some (.int (nI f)), some (.int (nI (i + 1)))]) dX9_laysSettled_30 rfl (xinc _) (Nat.le_of_ble_eq_true rfl) rfl rfl rfl ?_
      refine Ex_goto 2 dX9_laysSettled_33 (by decide) ?_
      refine ih (i + 1) _ (by omega) (hmSf.up gJ (Or.inr (Or.inr ⟨rfl, by omega⟩))) (by rw [va_up_ne _ _ (by omega)]; exact hSJ) (fun j hj => ?_)
      rw [va_up_self]
      by_cases e : j = i
      · subst e
        rw [va_up_self, hmSub_no c2]
        rfl
      · rw [va_up_ne _ _ e]
        exact hJ j (by omega)
    · refine Ex_aload_n 21 (i := 0) dX9_laysSettled_20 rfl rfl rfl ?_
      refine Ex_iload_n 22 (i := 2) dX9_laysSettled_21 rfl rfl rfl ?_
      refine Ex_callV (M' := MX9_settledBy) 25 [.int (nI i)] (rest := [.int (nI i), .ref (m + 37)]) dX9_laysSettled_22 lX9_405 mX9_settledBy rfl (xMs_0 hm) rfl (Nat.le_of_ble_eq_true rfl) (Nat.le_of_ble_eq_true rfl) rfl ?_
      have hsub := hmSub_free ho.1 (hm_s6_nI (show i < 64 by omega)) (by rw [eF]; exact hmSub_yes c2)
      refine mc_settledBy hm hSJ (hmSf.mo gJ hO) ho hok (by rw [gJ.2 46 (by omega) (by omega)]; exact h46) hmn hsub (fun I1 g1 hS1 => ?_)
      have gJ1 := gJ.tr g1.e28
      have e37 : I1 (m + 37) = J (m + 37) := g1.1 (m + 37) (by omega) (by omega) (by omega) (by omega) (by omega) (by omega)
      simp only [Option.toList, List.nil_append, List.cons_append]
      refine Ex_goto 29 dX9_laysSettled_25 (by decide) ?_
      refine Ex_sI 30 i (J (m + 37)) (va_up I1 (m + 37) (va_up (J (m + 37)) i (spWith O H (nI i)))) dX9_laysSettled_29 (xMs_37 hm) rfl (by omega) (by decide) e37 rfl rfl ?_
      refine Ex_iinc 33 (v := (nI (i + 1))) (ls' := [some (.ref m), some (.int (nI f)), some (.int (nI (i + 1)))]) dX9_laysSettled_30 rfl (xinc _) (Nat.le_of_ble_eq_true rfl) rfl rfl rfl ?_
      refine Ex_goto 2 dX9_laysSettled_33 (by decide) ?_
      refine ih (i + 1) _ (by omega) (hmSf.up gJ1 (Or.inr (Or.inr ⟨rfl, by omega⟩))) (by rw [va_up_ne _ _ (by omega)]; exact hS1) (fun j hj => ?_)
      rw [va_up_self]
      by_cases e : j = i
      · subst e
        rw [va_up_self, hmSub_yes c2]
        rfl
      · rw [va_up_ne _ _ e]
        exact hJ j (by omega)
set_option maxHeartbeats 4000000 in
theorem mc_laysSettled {d : Nat} {sh : xSh} {R : xR} {L : xL} {I : xI} {Q : xQ} {m : Nat} {O : hmO} {H : hmH} (hm : xModel sh R m) (hS : hmMr (I (m + 28)) H) (hO : hmMo I m O) (ho : hmOok O) (hok : hmOk O H) (h46 : I m 46 = nI (hmTk O)) (hmn : hmMin H < 800000) {f : Nat} (hf : f < 64) (eF : hmFree (hmN O) H = nI f) (hQ : ∀ I', hmSf 37 m I I' → hmMr (I' (m + 28)) H → (∀ j, j ≤ f → I' (m + 37) j = (if hmSub (nI j) (nI f) = true then spWith O H (nI j) else 0)) → Q none 0 sh R L I') : Ex (d + 9) 0 0 MX9_laysSettled 0 sh R L I 0 [some (.ref m), some (.int (nI f)), none] [] Q := by
  refine Ex_iconst 1 (v := 0) dX9_laysSettled_0 (by decide) rfl ?_
  refine Ex_istore_n 2 (i := 2) (ls' := [some (.ref m), some (.int (nI f)), some (.int 0)]) dX9_laysSettled_1 rfl (Nat.le_of_ble_eq_true rfl) rfl rfl rfl ?_
  exact mc_laysSettled_loop hm hS hO ho hok h46 hmn hf eF hQ (f + 1) 0 I (by omega) hmSf.rf hS (fun j hj => absurd hj (by omega))
theorem hmPs_f {O : hmO} {H : hmH} {t : hmTo} {f : Nat} (eF : hmFree (hmN O) H = nI f) (i : Nat) : hmPs O H t i = (hmSub (nI i) (nI f) && hmAs t (spWith O H (nI i))) := by simp only [hmPs, eF]
theorem hmPs_off {O : hmO} {H : hmH} {t : hmTo} {f : Nat} (hf : f < 64) (eF : hmFree (hmN O) H = nI f) : ∀ s, f + 1 ≤ s → s < 64 → hmPs O H t s = false := by
  intro s h1 h2
  rw [hmPs_f eF]
  cases hb : hmSub (nI s) (nI f) with
  | false => rfl
  | true =>
    have := hmSub_le h2 hf hb
    omega
set_option maxHeartbeats 4000000 in
theorem mb_sets_loop {d : Nat} {sh : xSh} {R : xR} {L : xL} {I : xI} {Q : xQ} {m : Nat} {O : hmO} {H : hmH} (hm : xModel sh R m) (hO : hmMo I m O) (ho : hmOok O) (hok : hmOk O H) {f : Nat} (hf : f < 64) (eF : hmFree (hmN O) H = nI f) {t : hmTo} (hT : hmTa (I (m + 27)) 0 t) (htn : ∀ w, hmN O ≤ w → t w = none) (h37 : ∀ j, j ≤ f → I (m + 37) j = (if hmSub (nI j) (nI f) = true then spWith O H (nI j) else 0)) {qv : Int32} (hct : hmCal 3 qv = true) (hQ : Q (some (.int (spSets O H t qv))) 0 sh R L I) : ∀ n i, n + i = f + 1 → Ex (d + 1) 0 0 MX9_sets 0 sh R L I 37 [some (.ref m), some (.int qv), some (.int (nI f)), some (.int (nI (hmSt (hmPs O H t) (nI f) i).1)), some (.int ((hmSt (hmPs O H t) (nI f) i).2.1)), some (.int ((hmSt (hmPs O H t) (nI f) i).2.2)), some (.int (nI i))] [] Q := by
  obtain ⟨on, otk, ow, cd, cfrom, cto, clen, ccd, csem⟩ := id hO
  intro n
  induction n with
  | zero =>
    intro i hi
    have hif : i = f + 1 := by omega
    subst hif
    have e64 : (hmSt (hmPs O H t) (nI f) 64) = (hmSt (hmPs O H t) (nI f) (f + 1)) := hmSt_ext 64 (by omega) (hmPs_off hf eF)
    rw [← e64]
    refine Ex_iload 39 dX9_sets_37 rfl rfl ?_
    refine Ex_iload_n 40 (i := 2) dX9_sets_39 rfl rfl rfl ?_
    refine Ex_icmp_gt 43 92 dX9_sets_40 (by decide) rfl (fun c1 => ?_) (fun c1 => absurd c1 (fun q => q ((nI_ltI (by omega) (by omega)).mpr (by omega))))
    refine Ex_iload_n 93 (i := 3) dX9_sets_92 rfl rfl rfl ?_
    refine Ex_if_eq 96 100 dX9_sets_93 (by decide) rfl (fun c2 => ?_) (fun c2 => ?_)
    · refine Ex_iload_n 101 (i := 1) dX9_sets_100 rfl rfl rfl ?_
      refine Ex_if_ne 104 108 dX9_sets_101 (by decide) rfl (fun c3 => ?_) (fun c3 => ?_)
      · refine Ex_iconst 109 (v := (-1)) dX9_sets_108 (by decide) rfl ?_
        refine Ex_iret dX9_sets_109 rfl rfl (Or.inl rfl) ?_
        have h1 := hmSt_le (p := hmPs O H t) (F := nI f) 64
        have h0 : (hmSt (hmPs O H t) (nI f) 64).1 = 0 := (nI_eq (b := 0) (by omega) (by omega)).mp c2
        have hz : spSets O H t qv = -1 := by
          simp only [spSets, eF, hct, if_true, if_neg c3, if_pos h0]
        rw [← hz]
        exact hQ
      · refine Ex_iload_n 105 (i := 3) dX9_sets_104 rfl rfl rfl ?_
        refine Ex_goto 109 dX9_sets_105 (by decide) ?_
        refine Ex_iret dX9_sets_109 rfl rfl (Or.inl rfl) ?_
        have e0 : spSets O H t qv = nI (hmSt (hmPs O H t) (nI f) 64).1 := by
          simp only [spSets, eF, hct, if_true, if_pos c3]
        rw [← e0]
        exact hQ
    · refine Ex_iload_n 97 (i := 1) dX9_sets_96 rfl rfl rfl ?_
      refine Ex_if_ne 100 110 dX9_sets_97 (by decide) rfl (fun c4 => ?_) (fun c4 => ?_)
      · refine Ex_iload_n 111 (i := 1) dX9_sets_110 rfl rfl rfl ?_
        refine Ex_iconst 112 (v := 1) dX9_sets_111 (by decide) rfl ?_
        refine Ex_icmp_ne 115 120 dX9_sets_112 (by decide) rfl (fun c5 => ?_) (fun c5 => ?_)
        · refine Ex_iload 122 dX9_sets_120 rfl rfl ?_
          refine Ex_iret dX9_sets_122 rfl rfl (Or.inl rfl) ?_
          have h0 : ¬ (hmSt (hmPs O H t) (nI f) 64).1 = 0 := fun q => c2 (by rw [q]; rfl)
          have e0 : spSets O H t qv = (hmSt (hmPs O H t) (nI f) 64).2.2 := by
            simp only [spSets, eF, hct, if_true, if_neg c4, if_neg h0, if_neg c5]
          rw [← e0]
          exact hQ
        · refine Ex_iload 117 dX9_sets_115 rfl rfl ?_
          refine Ex_goto 122 dX9_sets_117 (by decide) ?_
          refine Ex_iret dX9_sets_122 rfl rfl (Or.inl rfl) ?_
          have h0 : ¬ (hmSt (hmPs O H t) (nI f) 64).1 = 0 := fun q => c2 (by rw [q]; rfl)
          have e0 : spSets O H t qv = (hmSt (hmPs O H t) (nI f) 64).2.1 := by
            simp only [spSets, eF, hct, if_true, if_neg c4, if_neg h0, if_pos c5]
          rw [← e0]
          exact hQ
      · refine Ex_iload_n 101 (i := 1) dX9_sets_100 rfl rfl rfl ?_
        refine Ex_if_ne 104 108 dX9_sets_101 (by decide) rfl (fun c6 => ?_) (fun c6 => ?_)
        · refine Ex_iconst 109 (v := (-1)) dX9_sets_108 (by decide) rfl ?_
          refine Ex_iret dX9_sets_109 rfl rfl (Or.inl rfl) ?_
          exact absurd c4 c6
        · refine Ex_iload_n 105 (i := 3) dX9_sets_104 rfl rfl rfl ?_
          refine Ex_goto 109 dX9_sets_105 (by decide) ?_
          refine Ex_iret dX9_sets_109 rfl rfl (Or.inl rfl) ?_
          have e0 : spSets O H t qv = nI (hmSt (hmPs O H t) (nI f) 64).1 := by
            simp only [spSets, eF, hct, if_true, if_pos c6]
          rw [← e0]
          exact hQ
  | succ n ih =>
    intro i hi
    have ep := hmPs_f (t := t) eF i
    refine Ex_iload 39 dX9_sets_37 rfl rfl ?_
    refine Ex_iload_n 40 (i := 2) dX9_sets_39 rfl rfl rfl ?_
    refine Ex_icmp_gt 43 92 dX9_sets_40 (by decide) rfl (fun c1 => absurd c1 (fun q => absurd ((nI_ltI (by omega) (by omega)).mp q) (by omega))) (fun c1 => ?_)
    refine Ex_iload 45 dX9_sets_43 rfl rfl ?_
    refine Ex_iload_n 46 (i := 2) dX9_sets_45 rfl rfl rfl ?_
    refine Ex_iconst 47 (v := (-1)) dX9_sets_46 (by decide) rfl ?_
    refine Ex_ixor 48 dX9_sets_47 rfl ?_
    refine Ex_iand 49 dX9_sets_48 rfl ?_
    refine Ex_if_ne 52 86 dX9_sets_49 (by decide) rfl (fun c2 => ?_) (fun c2 => ?_)
    · refine Ex_iinc 89 (v := (nI (i + 1))) (ls' := [some (.ref m), some (.int qv), some (.int (nI f)), some (.int (nI (hmSt (hmPs O H t) (nI f) i).1)), some (.int ((hmSt (hmPs O H t) (nI f) i).2.1)), some (.int ((hmSt (hmPs O H t) (nI f) i).2.2)), some (.int (nI (i + 1)))]) dX9_sets_86 rfl (xinc _) (Nat.le_of_ble_eq_true rfl) rfl rfl rfl ?_
      refine Ex_goto 37 dX9_sets_89 (by decide) ?_
      have hp : hmPs O H t i = false := by rw [ep, hmSub_no c2, Bool.false_and]
      rw [← hmSt_no (F := nI f) hp]
      exact ih (i + 1) (by omega)
    · refine Ex_aload_n 53 (i := 0) dX9_sets_52 rfl rfl rfl ?_
      refine Ex_aload_n 54 (i := 0) dX9_sets_53 rfl rfl rfl ?_
      refine Ex_getR 57 dX9_sets_54 fX9_120 (xMs_0 hm) rfl (xMr_55 hm) rfl ?_
      refine Ex_iload 59 dX9_sets_57 rfl rfl ?_
      refine Ex_aI 60 i (I (m + 37) i) dX9_sets_59 (xMs_37 hm) rfl (by omega) (by decide) rfl rfl ?_
      refine Ex_callV (M' := MX9_isAsTold) 63 [.int (I (m + 37) i)] (rest := []) dX9_sets_60 lX9_414 mX9_isAsTold rfl (xMs_0 hm) rfl (Nat.le_of_ble_eq_true rfl) (Nat.le_of_ble_eq_true rfl) rfl ?_
      have hsub := hmSub_free ho.1 (hm_s6_nI (show i < 64 by omega)) (by rw [eF]; exact hmSub_yes c2)
      have e37 : I (m + 37) i = spWith O H (nI i) := by rw [h37 i (by omega), hmSub_yes c2, if_pos rfl]
      rw [e37]
      refine mc_isAsTold hm hO ho hT htn (spWith_s6 hok ho hsub) ?_
      simp only [Option.toList, List.nil_append, List.cons_append]
      refine Ex_if_ne 66 69 dX9_sets_63 (by decide) rfl (fun c3 => ?_) (fun c3 => ?_)
      · refine Ex_iinc 72 (v := (nI ((hmSt (hmPs O H t) (nI f) i).1 + 1))) (ls' := [some (.ref m), some (.int qv), some (.int (nI f)), some (.int (nI ((hmSt (hmPs O H t) (nI f) i).1 + 1))), some (.int ((hmSt (hmPs O H t) (nI f) i).2.1)), some (.int ((hmSt (hmPs O H t) (nI f) i).2.2)), some (.int (nI i))]) dX9_sets_69 rfl (xinc _) (Nat.le_of_ble_eq_true rfl) rfl rfl rfl ?_
        refine Ex_iload 74 dX9_sets_72 rfl rfl ?_
        refine Ex_iload 76 dX9_sets_74 rfl rfl ?_
        refine Ex_iand 77 dX9_sets_76 rfl ?_
        refine Ex_istore 79 (ls' := [some (.ref m), some (.int qv), some (.int (nI f)), some (.int (nI ((hmSt (hmPs O H t) (nI f) i).1 + 1))), some (.int (((hmSt (hmPs O H t) (nI f) i).2.1) &&& (nI i))), some (.int ((hmSt (hmPs O H t) (nI f) i).2.2)), some (.int (nI i))]) dX9_sets_77 (Nat.le_of_ble_eq_true rfl) rfl rfl rfl ?_
        refine Ex_iload 81 dX9_sets_79 rfl rfl ?_
        refine Ex_iload 83 dX9_sets_81 rfl rfl ?_
        refine Ex_ior 84 dX9_sets_83 rfl ?_
        refine Ex_istore 86 (ls' := [some (.ref m), some (.int qv), some (.int (nI f)), some (.int (nI ((hmSt (hmPs O H t) (nI f) i).1 + 1))), some (.int (((hmSt (hmPs O H t) (nI f) i).2.1) &&& (nI i))), some (.int (((hmSt (hmPs O H t) (nI f) i).2.2) ||| (nI i))), some (.int (nI i))]) dX9_sets_84 (Nat.le_of_ble_eq_true rfl) rfl rfl rfl ?_
        refine Ex_iinc 89 (v := (nI (i + 1))) (ls' := [some (.ref m), some (.int qv), some (.int (nI f)), some (.int (nI ((hmSt (hmPs O H t) (nI f) i).1 + 1))), some (.int (((hmSt (hmPs O H t) (nI f) i).2.1) &&& (nI i))), some (.int (((hmSt (hmPs O H t) (nI f) i).2.2) ||| (nI i))), some (.int (nI (i + 1)))]) dX9_sets_86 rfl (xinc _) (Nat.le_of_ble_eq_true rfl) rfl rfl rfl ?_
        refine Ex_goto 37 dX9_sets_89 (by decide) ?_
        have hp : hmPs O H t i = true := by rw [ep, hmSub_yes c2, hmB_ne c3]; rfl
        have e : (hmSt (hmPs O H t) (nI f) (i + 1)) = ((hmSt (hmPs O H t) (nI f) i).1 + 1, (hmSt (hmPs O H t) (nI f) i).2.1 &&& nI i, (hmSt (hmPs O H t) (nI f) i).2.2 ||| nI i) := by
          show (if hmPs O H t i = true then _ else _) = _
          rw [if_pos hp]
        refine Ex_l (ls' := [some (.ref m), some (.int qv), some (.int (nI f)), some (.int (nI (hmSt (hmPs O H t) (nI f) (i + 1)).1)), some (.int ((hmSt (hmPs O H t) (nI f) (i + 1)).2.1)), some (.int ((hmSt (hmPs O H t) (nI f) (i + 1)).2.2)), some (.int (nI (i + 1)))]) (by rw [e]) ?_
        exact ih (i + 1) (by omega)
      · refine Ex_goto 86 dX9_sets_66 (by decide) ?_
        refine Ex_iinc 89 (v := (nI (i + 1))) (ls' := [some (.ref m), some (.int qv), some (.int (nI f)), some (.int (nI (hmSt (hmPs O H t) (nI f) i).1)), some (.int ((hmSt (hmPs O H t) (nI f) i).2.1)), some (.int ((hmSt (hmPs O H t) (nI f) i).2.2)), some (.int (nI (i + 1)))]) dX9_sets_86 rfl (xinc _) (Nat.le_of_ble_eq_true rfl) rfl rfl rfl ?_
        refine Ex_goto 37 dX9_sets_89 (by decide) ?_
        have hp : hmPs O H t i = false := by rw [ep, hmB_eq c3, Bool.and_false]
        rw [← hmSt_no (F := nI f) hp]
        exact ih (i + 1) (by omega)
set_option maxHeartbeats 4000000 in
theorem mb_sets {d : Nat} {sh : xSh} {R : xR} {L : xL} {I : xI} {Q : xQ} {m : Nat} {O : hmO} {H : hmH} (hm : xModel sh R m) (hS : hmMr (I (m + 28)) H) (hO : hmMo I m O) (ho : hmOok O) (hok : hmOk O H) (h46 : I m 46 = nI (hmTk O)) (hmn : hmMin H < 800000) {qv : Int32} {t : hmTo} (hT : hmTa (I (m + 27)) 0 t) (htn : ∀ w, hmN O ≤ w → t w = none) (hQ : ∀ I', hmMg m I I' → hmMr (I' (m + 28)) H → (hmCal 3 qv = true → ∀ f, f < 64 → hmFree (hmN O) H = nI f → ∀ j, j ≤ f → I' (m + 37) j = (if hmSub (nI j) (nI f) = true then spWith O H (nI j) else 0)) → Q (some (.int (spSets O H t qv))) 0 sh R L I') : Ex (d + 10) 0 0 MX9_sets 0 sh R L I 5 [some (.ref m), some (.int qv), none, none, none, none, none] [] Q := by
  obtain ⟨s6, smin, slen, sset, stak, sline, sheld, shas, stalk⟩ := id hS
  obtain ⟨o6, ot1, ot2, oo, oll, owf⟩ := id ho
  obtain ⟨on, otk, ow, cd, cfrom, cto, clen, ccd, csem⟩ := id hO
  have hlN := hok.2.1
  refine Ex_iload_n 6 (i := 1) dX9_sets_5 rfl rfl rfl ?_
  refine Ex_iconst 7 (v := 0) dX9_sets_6 (by decide) rfl ?_
  refine Ex_iconst 8 (v := 2) dX9_sets_7 (by decide) rfl ?_
  refine Ex_callS (M' := MX9_within) 11 [.int qv, .int 0, .int 2] (rest := []) dX9_sets_8 lX9_244 mX9_within rfl rfl (Nat.le_of_ble_eq_true rfl) (Nat.le_of_ble_eq_true rfl) rfl ?_
  refine mc_within ?_
  simp only [Option.toList, List.cons_append, List.nil_append]
  refine Ex_if_ne 14 16 dX9_sets_11 (by decide) rfl (fun c1 => ?_) (fun c1 => ?_)
  · refine Ex_aload_n 17 (i := 0) dX9_sets_16 rfl rfl rfl ?_
    refine Ex_callV (M' := MX9_mayRing) 20 [] (rest := []) dX9_sets_17 lX9_402 mX9_mayRing rfl (xMs_0 hm) rfl (Nat.le_of_ble_eq_true rfl) (Nat.le_of_ble_eq_true rfl) rfl ?_
    refine mc_mayRing hm hS hO ho hok ?_
    simp only [Option.toList, List.cons_append, List.nil_append]
    obtain ⟨f, hf, eF⟩ := hmFree_s6 o6 H
    rw [eF]
    refine Ex_istore_n 21 (i := 2) (ls' := [some (.ref m), some (.int qv), some (.int (nI f)), none, none, none, none]) dX9_sets_20 rfl (Nat.le_of_ble_eq_true rfl) rfl rfl rfl ?_
    refine Ex_aload_n 22 (i := 0) dX9_sets_21 rfl rfl rfl ?_
    refine Ex_iload_n 23 (i := 2) dX9_sets_22 rfl rfl rfl ?_
    refine Ex_callV (M' := MX9_laysSettled) 26 [.int (nI f)] (rest := []) dX9_sets_23 lX9_411 mX9_laysSettled rfl (xMs_0 hm) rfl (Nat.le_of_ble_eq_true rfl) (Nat.le_of_ble_eq_true rfl) rfl ?_
    refine mc_laysSettled hm hS hO ho hok h46 hmn hf eF (fun I1 g1 hS1 h37 => ?_)
    simp only [Option.toList, List.nil_append, List.cons_append]
    refine Ex_iconst 27 (v := 0) dX9_sets_26 (by decide) rfl ?_
    refine Ex_istore_n 28 (i := 3) (ls' := [some (.ref m), some (.int qv), some (.int (nI f)), some (.int 0), none, none, none]) dX9_sets_27 rfl (Nat.le_of_ble_eq_true rfl) rfl rfl rfl ?_
    refine Ex_iload_n 29 (i := 2) dX9_sets_28 rfl rfl rfl ?_
    refine Ex_istore 31 (ls' := [some (.ref m), some (.int qv), some (.int (nI f)), some (.int 0), some (.int (nI f)), none, none]) dX9_sets_29 (Nat.le_of_ble_eq_true rfl) rfl rfl rfl ?_
    refine Ex_iconst 32 (v := 0) dX9_sets_31 (by decide) rfl ?_
    refine Ex_istore 34 (ls' := [some (.ref m), some (.int qv), some (.int (nI f)), some (.int 0), some (.int (nI f)), some (.int 0), none]) dX9_sets_32 (Nat.le_of_ble_eq_true rfl) rfl rfl rfl ?_
    refine Ex_iconst 35 (v := 0) dX9_sets_34 (by decide) rfl ?_
    refine Ex_istore 37 (ls' := [some (.ref m), some (.int qv), some (.int (nI f)), some (.int 0), some (.int (nI f)), some (.int 0), some (.int 0)]) dX9_sets_35 (Nat.le_of_ble_eq_true rfl) rfl rfl rfl ?_
    have hct : hmCal 3 qv = true := by
      rw [← hmWith_cal (k := 2) (by omega)]
      exact hmB_ne c1
    have e27 : I1 (m + 27) = I (m + 27) := g1.1 (m + 27) (by omega) (by omega) (by omega) (by omega) (by omega) (by omega)
    refine mb_sets_loop hm (g1.mo hO) ho hok hf eF (by rw [e27]; exact hT) htn h37 hct ?_ (f + 1) 0 (by omega)
    refine hQ I1 g1.mg hS1 (fun _ f2 hf2 eF2 j hj => ?_)
    have e2 : f2 = f := (nI_eq (by omega) (by omega)).mp (eF2.symm.trans eF)
    rw [e2] at hj ⊢
    exact h37 j hj
  · refine Ex_iconst 15 (v := (-1)) dX9_sets_14 (by decide) rfl ?_
    refine Ex_iret dX9_sets_15 rfl rfl (Or.inl rfl) ?_
    have e : spSets O H t qv = -1 := by
      have h1 : hmCal 3 qv = false := by
        rw [← hmWith_cal (k := 2) (by omega)]
        exact hmB_eq c1
      simp [spSets, h1]
    rw [← e]
    exact hQ _ hmMg.rf hS (fun q => by
      have h1 : hmCal 3 qv = false := by
        rw [← hmWith_cal (k := 2) (by omega)]
        exact hmB_eq c1
      rw [h1] at q
      exact absurd q (by decide))
set_option maxHeartbeats 4000000 in
theorem mq_sets {d : Nat} {sh : xSh} {R : xR} {L : xL} {I : xI} {Q : xQ} {m : Nat} {O : hmO} {H : hmH} (hm : xModel sh R m) (hS : hmMr (I (m + 28)) H) (hO : hmMo I m O) (ho : hmOok O) (hok : hmOk O H) (h46 : I m 46 = nI (hmTk O)) (hmn : hmMin H < 800000) {qv : Int32} {t : hmTo} (hT : hmTa (I (m + 27)) 0 t) (htn : ∀ w, hmN O ≤ w → t w = none)  (hQ : ∀ I', hmMg m (hmTh I m) I' → hmMr (I' (m + 28)) H → (hmCal 3 qv = true → ∀ f, f < 64 → hmFree (hmN O) H = nI f → ∀ j, j ≤ f → I' (m + 37) j = (if hmSub (nI j) (nI f) = true then spWith O H (nI j) else 0)) → Q (some (.int (spSets O H t qv))) 0 sh R L I') : Ex (d + 10) 0 0 MX9_sets 0 sh R L I 0 [some (.ref m), some (.int qv), none, none, none, none, none] [] Q := by
  refine Ex_aload_n 1 (i := 0) dX9_sets_0 rfl rfl rfl ?_
  refine Ex_iconst 2 (v := 0) dX9_sets_1 (by decide) rfl ?_
  refine Ex_pI 5 (I m) (va_up I m (va_up (I m) 0 0)) dX9_sets_2 fX9_130 rfl (xMs_0 hm) rfl (fun _ => rfl) rfl rfl rfl rfl ?_
  exact mb_sets hm (hmTh_mr hS) (hmTh_mo hO) ho hok ((hmTh_f (by omega)).trans h46) hmn (show hmTa (hmTh I m (m + 27)) 0 t by rw [hmTh_r (by omega)]; exact hT) htn hQ
set_option maxHeartbeats 4000000 in
theorem mb_ask_in {d : Nat} {sh : xSh} {R : xR} {L : xL} {I : xI} {Q : xQ} {m : Nat} {O : hmO} {H : hmH} (hm : xModel sh R m) (hO : hmMo I m O) (ho : hmOok O) (hok : hmOk O H) {f : Nat} (hf : f < 64) (eF : hmFree (hmN O) H = nI f) {t : hmTo} (hT : hmTa (I (m + 27)) 0 t) (htn : ∀ w, hmN O ≤ w → t w = none) (h37 : ∀ j, j ≤ f → I (m + 37) j = (if hmSub (nI j) (nI f) = true then spWith O H (nI j) else 0)) {c : Nat} (hc : c < 6) {qm ql qb : Int32} (hE : Ex (d + 1) 0 0 MX9_ask 0 sh R L I 110 [some (.ref m), some (.int (nI f)), some (.int qm), some (.int ql), some (.int qb), some (.int (nI c)), some (.int (nI (hmTl (hmPs O H t) (fun s => spWith O H (nI s)) c 64))), none] [] Q) : ∀ n i, n + i = f + 1 → Ex (d + 1) 0 0 MX9_ask 0 sh R L I 54 [some (.ref m), some (.int (nI f)), some (.int qm), some (.int ql), some (.int qb), some (.int (nI c)), some (.int (nI (hmTl (hmPs O H t) (fun s => spWith O H (nI s)) c i))), some (.int (nI i))] [] Q := by
  obtain ⟨on, otk, ow, cd, cfrom, cto, clen, ccd, csem⟩ := id hO
  intro n
  induction n with
  | zero =>
    intro i hi
    have hif : i = f + 1 := by omega
    subst hif
    have e64 : (hmTl (hmPs O H t) (fun s => spWith O H (nI s)) c 64) = (hmTl (hmPs O H t) (fun s => spWith O H (nI s)) c (f + 1)) := hmTl_ext 64 (by omega) (hmPs_off hf eF)
    rw [← e64]
    refine Ex_iload 56 dX9_ask_54 rfl rfl ?_
    refine Ex_iload_n 57 (i := 1) dX9_ask_56 rfl rfl rfl ?_
    refine Ex_icmp_gt 60 110 dX9_ask_57 (by decide) rfl (fun c1 => ?_) (fun c1 => absurd c1 (fun q => q ((nI_ltI (by omega) (by omega)).mpr (by omega))))
    refine Ex_fgt (ls' := [some (.ref m), some (.int (nI f)), some (.int qm), some (.int ql), some (.int qb), some (.int (nI c)), some (.int (nI (hmTl (hmPs O H t) (fun s => spWith O H (nI s)) c 64))), none]) (by simp [xsub]) ?_
    exact hE
  | succ n ih =>
    intro i hi
    have ep := hmPs_f (t := t) eF i
    refine Ex_iload 56 dX9_ask_54 rfl rfl ?_
    refine Ex_iload_n 57 (i := 1) dX9_ask_56 rfl rfl rfl ?_
    refine Ex_icmp_gt 60 110 dX9_ask_57 (by decide) rfl (fun c1 => absurd c1 (fun q => absurd ((nI_ltI (by omega) (by omega)).mp q) (by omega))) (fun c1 => ?_)
    refine Ex_iload 62 dX9_ask_60 rfl rfl ?_
    refine Ex_iload 64 dX9_ask_62 rfl rfl ?_
    refine Ex_iload_n 65 (i := 1) dX9_ask_64 rfl rfl rfl ?_
    refine Ex_iconst 66 (v := (-1)) dX9_ask_65 (by decide) rfl ?_
    refine Ex_ixor 67 dX9_ask_66 rfl ?_
    refine Ex_iand 68 dX9_ask_67 rfl ?_
    refine Ex_if_ne 71 100 dX9_ask_68 (by decide) rfl (fun c2 => ?_) (fun c2 => ?_)
    · refine Ex_iconst 101 (v := 0) dX9_ask_100 (by decide) rfl ?_
      refine Ex_iadd 102 dX9_ask_101 rfl ?_
      refine Ex_istore 104 (ls' := [some (.ref m), some (.int (nI f)), some (.int qm), some (.int ql), some (.int qb), some (.int (nI c)), some (.int ((nI (hmTl (hmPs O H t) (fun s => spWith O H (nI s)) c i)) + 0)), some (.int (nI i))]) dX9_ask_102 (Nat.le_of_ble_eq_true rfl) rfl rfl rfl ?_
      refine Ex_iinc 107 (v := (nI (i + 1))) (ls' := [some (.ref m), some (.int (nI f)), some (.int qm), some (.int ql), some (.int qb), some (.int (nI c)), some (.int ((nI (hmTl (hmPs O H t) (fun s => spWith O H (nI s)) c i)) + 0)), some (.int (nI (i + 1)))]) dX9_ask_104 rfl (xinc _) (Nat.le_of_ble_eq_true rfl) rfl rfl rfl ?_
      refine Ex_goto 54 dX9_ask_107 (by decide) ?_
      have hp : hmPs O H t i = false := by rw [ep, hmSub_no c2, Bool.false_and]
      have e : (hmTl (hmPs O H t) (fun s => spWith O H (nI s)) c (i + 1)) = (hmTl (hmPs O H t) (fun s => spWith O H (nI s)) c i) := hmTl_no hp
      refine Ex_l (ls' := [some (.ref m), some (.int (nI f)), some (.int qm), some (.int ql), some (.int qb), some (.int (nI c)), some (.int (nI (hmTl (hmPs O H t) (fun s => spWith O H (nI s)) c (i + 1)))), some (.int (nI (i + 1)))]) (by rw [e, Int32.add_zero]) ?_
      exact ih (i + 1) (by omega)
    · refine Ex_aload_n 72 (i := 0) dX9_ask_71 rfl rfl rfl ?_
      refine Ex_aload_n 73 (i := 0) dX9_ask_72 rfl rfl rfl ?_
      refine Ex_getR 76 dX9_ask_73 fX9_120 (xMs_0 hm) rfl (xMr_55 hm) rfl ?_
      refine Ex_iload 78 dX9_ask_76 rfl rfl ?_
      refine Ex_aI 79 i (I (m + 37) i) dX9_ask_78 (xMs_37 hm) rfl (by omega) (by decide) rfl rfl ?_
      refine Ex_callV (M' := MX9_isAsTold) 82 [.int (I (m + 37) i)] (rest := [.int (nI (hmTl (hmPs O H t) (fun s => spWith O H (nI s)) c i))]) dX9_ask_79 lX9_414 mX9_isAsTold rfl (xMs_0 hm) rfl (Nat.le_of_ble_eq_true rfl) (Nat.le_of_ble_eq_true rfl) rfl ?_
      have hsub := hmSub_free ho.1 (hm_s6_nI (show i < 64 by omega)) (by rw [eF]; exact hmSub_yes c2)
      have e37 : I (m + 37) i = spWith O H (nI i) := by rw [h37 i (by omega), hmSub_yes c2, if_pos rfl]
      rw [e37]
      refine mc_isAsTold hm hO ho hT htn (spWith_s6 hok ho hsub) ?_
      simp only [Option.toList, List.nil_append, List.cons_append]
      refine Ex_if_eq 85 100 dX9_ask_82 (by decide) rfl (fun c3 => ?_) (fun c3 => ?_)
      · refine Ex_iconst 101 (v := 0) dX9_ask_100 (by decide) rfl ?_
        refine Ex_iadd 102 dX9_ask_101 rfl ?_
        refine Ex_istore 104 (ls' := [some (.ref m), some (.int (nI f)), some (.int qm), some (.int ql), some (.int qb), some (.int (nI c)), some (.int ((nI (hmTl (hmPs O H t) (fun s => spWith O H (nI s)) c i)) + 0)), some (.int (nI i))]) dX9_ask_102 (Nat.le_of_ble_eq_true rfl) rfl rfl rfl ?_
        refine Ex_iinc 107 (v := (nI (i + 1))) (ls' := [some (.ref m), some (.int (nI f)), some (.int qm), some (.int ql), some (.int qb), some (.int (nI c)), some (.int ((nI (hmTl (hmPs O H t) (fun s => spWith O H (nI s)) c i)) + 0)), some (.int (nI (i + 1)))]) dX9_ask_104 rfl (xinc _) (Nat.le_of_ble_eq_true rfl) rfl rfl rfl ?_
        refine Ex_goto 54 dX9_ask_107 (by decide) ?_
        have hp : hmPs O H t i = false := by rw [ep, hmB_eq c3, Bool.and_false]
        have e : (hmTl (hmPs O H t) (fun s => spWith O H (nI s)) c (i + 1)) = (hmTl (hmPs O H t) (fun s => spWith O H (nI s)) c i) := hmTl_no hp
        refine Ex_l (ls' := [some (.ref m), some (.int (nI f)), some (.int qm), some (.int ql), some (.int qb), some (.int (nI c)), some (.int (nI (hmTl (hmPs O H t) (fun s => spWith O H (nI s)) c (i + 1)))), some (.int (nI (i + 1)))]) (by rw [e, Int32.add_zero]) ?_
        exact ih (i + 1) (by omega)
      · refine Ex_aload_n 86 (i := 0) dX9_ask_85 rfl rfl rfl ?_
        refine Ex_getR 89 dX9_ask_86 fX9_120 (xMs_0 hm) rfl (xMr_55 hm) rfl ?_
        refine Ex_iload 91 dX9_ask_89 rfl rfl ?_
        refine Ex_aI 92 i (I (m + 37) i) dX9_ask_91 (xMs_37 hm) rfl (by omega) (by decide) rfl rfl ?_
        rw [e37]
        refine Ex_iload 94 dX9_ask_92 rfl rfl ?_
        refine Ex_ishr 95 dX9_ask_94 rfl ?_
        refine Ex_iconst 96 (v := 1) dX9_ask_95 (by decide) rfl ?_
        refine Ex_iand 97 dX9_ask_96 rfl ?_
        rw [hmBit_v (spWith_s6 hok ho hsub) hc]
        refine Ex_goto 101 dX9_ask_97 (by decide) ?_
        refine Ex_iadd 102 dX9_ask_101 rfl ?_
        refine Ex_istore 104 (ls' := [some (.ref m), some (.int (nI f)), some (.int qm), some (.int ql), some (.int qb), some (.int (nI c)), some (.int ((nI (hmTl (hmPs O H t) (fun s => spWith O H (nI s)) c i)) + (hmB (hmBit (spWith O H (nI i)) c)))), some (.int (nI i))]) dX9_ask_102 (Nat.le_of_ble_eq_true rfl) rfl rfl rfl ?_
        refine Ex_iinc 107 (v := (nI (i + 1))) (ls' := [some (.ref m), some (.int (nI f)), some (.int qm), some (.int ql), some (.int qb), some (.int (nI c)), some (.int ((nI (hmTl (hmPs O H t) (fun s => spWith O H (nI s)) c i)) + (hmB (hmBit (spWith O H (nI i)) c)))), some (.int (nI (i + 1)))]) dX9_ask_104 rfl (xinc _) (Nat.le_of_ble_eq_true rfl) rfl rfl rfl ?_
        refine Ex_goto 54 dX9_ask_107 (by decide) ?_
        have hp : hmPs O H t i = true := by rw [ep, hmSub_yes c2, hmB_ne c3]; rfl
        have e : (hmTl (hmPs O H t) (fun s => spWith O H (nI s)) c (i + 1)) = _ := hmTl_yes hp
        refine Ex_l (ls' := [some (.ref m), some (.int (nI f)), some (.int qm), some (.int ql), some (.int qb), some (.int (nI c)), some (.int (nI (hmTl (hmPs O H t) (fun s => spWith O H (nI s)) c (i + 1)))), some (.int (nI (i + 1)))]) (by rw [e, hm_addB]) ?_
        exact ih (i + 1) (by omega)
set_option maxHeartbeats 4000000 in
theorem mb_ask_loop {d : Nat} {sh : xSh} {R : xR} {L : xL} {I : xI} {Q : xQ} {m : Nat} {O : hmO} {H : hmH} (hm : xModel sh R m) (hO : hmMo I m O) (ho : hmOok O) (hok : hmOk O H) {f : Nat} (hf : f < 64) (eF : hmFree (hmN O) H = nI f) {t : hmTo} (hT : hmTa (I (m + 27)) 0 t) (htn : ∀ w, hmN O ≤ w → t w = none) (h37 : ∀ j, j ≤ f → I (m + 37) j = (if hmSub (nI j) (nI f) = true then spWith O H (nI j) else 0)) (hQ : Q (some (.int (hmEv t (hmSt (hmPs O H t) (nI f) 64).1 (fun c => (hmTl (hmPs O H t) (fun s => spWith O H (nI s)) c 64)) (hmN O)).2)) 0 sh R L I) : ∀ n c, n + c = hmN O → Ex (d + 1) 0 0 MX9_ask 0 sh R L I 24 [some (.ref m), some (.int (nI f)), some (.int (nI (hmSt (hmPs O H t) (nI f) 64).1)), some (.int (nI (hmEv t (hmSt (hmPs O H t) (nI f) 64).1 (fun c => (hmTl (hmPs O H t) (fun s => spWith O H (nI s)) c 64)) c).1)), some (.int ((hmEv t (hmSt (hmPs O H t) (nI f) 64).1 (fun c => (hmTl (hmPs O H t) (fun s => spWith O H (nI s)) c 64)) c).2)), some (.int (nI c)), none, none] [] Q := by
  obtain ⟨on, otk, ow, cd, cfrom, cto, clen, ccd, csem⟩ := id hO
  have hT0 : ∀ w, w < 6 → I (m + 27) w = hmTv (t w) := fun w hw => by
    have h1 := hT w hw
    rw [Nat.mul_zero, Nat.zero_add] at h1
    exact h1
  have o6 := ho.1
  have hmy := hmSt_le (p := hmPs O H t) (F := nI f) 64
  intro n
  induction n with
  | zero =>
    intro c hi
    refine Ex_iload 26 dX9_ask_24 rfl rfl ?_
    refine Ex_aload_n 27 (i := 0) dX9_ask_26 rfl rfl rfl ?_
    refine Ex_getR 30 dX9_ask_27 fX9_13 (xMs_0 hm) rfl (xMr_10 hm) rfl ?_
    refine Ex_iconst 31 (v := 0) dX9_ask_30 (by decide) rfl ?_
    refine Ex_aI 32 0 (I (m + 2) 0) dX9_ask_31 (xMs_2 hm) rfl (by decide) (by decide) rfl rfl ?_
    rw [on]
    refine Ex_icmp_ge 35 143 dX9_ask_32 (by decide) rfl (fun c1 => ?_) (fun c1 => absurd c1 (fun q => q (nI_le (by omega) (by omega))))
    refine Ex_iload 145 dX9_ask_143 rfl rfl ?_
    refine Ex_iret dX9_ask_145 rfl rfl (Or.inl rfl) ?_
    rw [show c = hmN O by omega]
    exact hQ
  | succ n ih =>
    intro c hi
    have hle := hmEv_le t (hmSt (hmPs O H t) (nI f) 64).1 (fun c => (hmTl (hmPs O H t) (fun s => spWith O H (nI s)) c 64)) c
    have htl := hmTl_le (p := hmPs O H t) (f := fun s => spWith O H (nI s)) (c := c) (nI f) 64
    refine Ex_iload 26 dX9_ask_24 rfl rfl ?_
    refine Ex_aload_n 27 (i := 0) dX9_ask_26 rfl rfl rfl ?_
    refine Ex_getR 30 dX9_ask_27 fX9_13 (xMs_0 hm) rfl (xMr_10 hm) rfl ?_
    refine Ex_iconst 31 (v := 0) dX9_ask_30 (by decide) rfl ?_
    refine Ex_aI 32 0 (I (m + 2) 0) dX9_ask_31 (xMs_2 hm) rfl (by decide) (by decide) rfl rfl ?_
    rw [on]
    refine Ex_icmp_ge 35 143 dX9_ask_32 (by decide) rfl (fun c1 => absurd c1 (nI_ge (by omega) (by omega))) (fun c1 => ?_)
    refine Ex_aload_n 36 (i := 0) dX9_ask_35 rfl rfl rfl ?_
    refine Ex_getR 39 dX9_ask_36 fX9_90 (xMs_0 hm) rfl (xMr_38 hm) rfl ?_
    refine Ex_iload 41 dX9_ask_39 rfl rfl ?_
    refine Ex_aI 42 c (I (m + 27) c) dX9_ask_41 (xMs_27 hm) rfl (by omega) (by decide) rfl rfl ?_
    rw [hT0 c (by omega)]
    refine Ex_if_lt 45 48 dX9_ask_42 (by decide) rfl (fun c2 => ?_) (fun c2 => ?_)
    · refine Ex_iconst 49 (v := 0) dX9_ask_48 (by decide) rfl ?_
      refine Ex_istore 51 (ls' := [some (.ref m), some (.int (nI f)), some (.int (nI (hmSt (hmPs O H t) (nI f) 64).1)), some (.int (nI (hmEv t (hmSt (hmPs O H t) (nI f) 64).1 (fun c => (hmTl (hmPs O H t) (fun s => spWith O H (nI s)) c 64)) c).1)), some (.int ((hmEv t (hmSt (hmPs O H t) (nI f) 64).1 (fun c => (hmTl (hmPs O H t) (fun s => spWith O H (nI s)) c 64)) c).2)), some (.int (nI c)), some (.int 0), none]) dX9_ask_49 (Nat.le_of_ble_eq_true rfl) rfl rfl rfl ?_
      refine Ex_iconst 52 (v := 0) dX9_ask_51 (by decide) rfl ?_
      refine Ex_istore 54 (ls' := [some (.ref m), some (.int (nI f)), some (.int (nI (hmSt (hmPs O H t) (nI f) 64).1)), some (.int (nI (hmEv t (hmSt (hmPs O H t) (nI f) 64).1 (fun c => (hmTl (hmPs O H t) (fun s => spWith O H (nI s)) c 64)) c).1)), some (.int ((hmEv t (hmSt (hmPs O H t) (nI f) 64).1 (fun c => (hmTl (hmPs O H t) (fun s => spWith O H (nI s)) c 64)) c).2)), some (.int (nI c)), some (.int 0), some (.int 0)]) dX9_ask_52 (Nat.le_of_ble_eq_true rfl) rfl rfl rfl ?_
      have htc : t c = none := hmTv_neg.mp c2
      refine mb_ask_in hm hO ho hok hf eF hT htn h37 (c := c) (by omega) ?_ (f + 1) 0 (by omega)
      refine Ex_iload 112 dX9_ask_110 rfl rfl ?_
      refine Ex_iload_n 113 (i := 2) dX9_ask_112 rfl rfl rfl ?_
      refine Ex_iload 115 dX9_ask_113 rfl rfl ?_
      refine Ex_isub 116 dX9_ask_115 rfl ?_
      rw [hm_nIsub htl (by omega)]
      refine Ex_max 119 dX9_ask_116 lmX9_420 (by decide) rfl ?_
      rw [hm_max (by omega) (by omega)]
      refine Ex_istore 121 (ls' := [some (.ref m), some (.int (nI f)), some (.int (nI (hmSt (hmPs O H t) (nI f) 64).1)), some (.int (nI (hmEv t (hmSt (hmPs O H t) (nI f) 64).1 (fun c => (hmTl (hmPs O H t) (fun s => spWith O H (nI s)) c 64)) c).1)), some (.int ((hmEv t (hmSt (hmPs O H t) (nI f) 64).1 (fun c => (hmTl (hmPs O H t) (fun s => spWith O H (nI s)) c 64)) c).2)), some (.int (nI c)), some (.int (nI (max (hmTl (hmPs O H t) (fun s => spWith O H (nI s)) c 64) ((hmSt (hmPs O H t) (nI f) 64).1 - (hmTl (hmPs O H t) (fun s => spWith O H (nI s)) c 64))))), none]) dX9_ask_119 (Nat.le_of_ble_eq_true rfl) rfl rfl rfl ?_
      refine Ex_iload 123 dX9_ask_121 rfl rfl ?_
      refine Ex_iload_n 124 (i := 3) dX9_ask_123 rfl rfl rfl ?_
      refine Ex_icmp_lt 127 130 dX9_ask_124 (by decide) rfl (fun c71 => ?_) (fun c71 => ?_)
      · refine Ex_iload 132 dX9_ask_130 rfl rfl ?_
        refine Ex_istore_n 133 (i := 3) (ls' := [some (.ref m), some (.int (nI f)), some (.int (nI (hmSt (hmPs O H t) (nI f) 64).1)), some (.int (nI (max (hmTl (hmPs O H t) (fun s => spWith O H (nI s)) c 64) ((hmSt (hmPs O H t) (nI f) 64).1 - (hmTl (hmPs O H t) (fun s => spWith O H (nI s)) c 64))))), some (.int ((hmEv t (hmSt (hmPs O H t) (nI f) 64).1 (fun c => (hmTl (hmPs O H t) (fun s => spWith O H (nI s)) c 64)) c).2)), some (.int (nI c)), some (.int (nI (max (hmTl (hmPs O H t) (fun s => spWith O H (nI s)) c 64) ((hmSt (hmPs O H t) (nI f) 64).1 - (hmTl (hmPs O H t) (fun s => spWith O H (nI s)) c 64))))), none]) dX9_ask_132 rfl (Nat.le_of_ble_eq_true rfl) rfl rfl rfl ?_
        refine Ex_iload 135 dX9_ask_133 rfl rfl ?_
        refine Ex_istore 137 (ls' := [some (.ref m), some (.int (nI f)), some (.int (nI (hmSt (hmPs O H t) (nI f) 64).1)), some (.int (nI (max (hmTl (hmPs O H t) (fun s => spWith O H (nI s)) c 64) ((hmSt (hmPs O H t) (nI f) 64).1 - (hmTl (hmPs O H t) (fun s => spWith O H (nI s)) c 64))))), some (.int (nI c)), some (.int (nI c)), some (.int (nI (max (hmTl (hmPs O H t) (fun s => spWith O H (nI s)) c 64) ((hmSt (hmPs O H t) (nI f) 64).1 - (hmTl (hmPs O H t) (fun s => spWith O H (nI s)) c 64))))), none]) dX9_ask_135 (Nat.le_of_ble_eq_true rfl) rfl rfl rfl ?_
        refine Ex_iinc 140 (v := (nI (c + 1))) (ls' := [some (.ref m), some (.int (nI f)), some (.int (nI (hmSt (hmPs O H t) (nI f) 64).1)), some (.int (nI (max (hmTl (hmPs O H t) (fun s => spWith O H (nI s)) c 64) ((hmSt (hmPs O H t) (nI f) 64).1 - (hmTl (hmPs O H t) (fun s => spWith O H (nI s)) c 64))))), some (.int (nI c)), some (.int (nI (c + 1))), some (.int (nI (max (hmTl (hmPs O H t) (fun s => spWith O H (nI s)) c 64) ((hmSt (hmPs O H t) (nI f) 64).1 - (hmTl (hmPs O H t) (fun s => spWith O H (nI s)) c 64))))), none]) dX9_ask_137 rfl (xinc _) (Nat.le_of_ble_eq_true rfl) rfl rfl rfl ?_
        refine Ex_goto 24 dX9_ask_140 (by decide) ?_
        refine Ex_fgt (ls' := [some (.ref m), some (.int (nI f)), some (.int (nI (hmSt (hmPs O H t) (nI f) 64).1)), some (.int (nI (max (hmTl (hmPs O H t) (fun s => spWith O H (nI s)) c 64) ((hmSt (hmPs O H t) (nI f) 64).1 - (hmTl (hmPs O H t) (fun s => spWith O H (nI s)) c 64))))), some (.int (nI c)), some (.int (nI (c + 1))), none, none]) (by simp [xsub]) ?_
        have hl : max (hmTl (hmPs O H t) (fun s => spWith O H (nI s)) c 64) ((hmSt (hmPs O H t) (nI f) 64).1 - (hmTl (hmPs O H t) (fun s => spWith O H (nI s)) c 64)) < (hmEv t (hmSt (hmPs O H t) (nI f) 64).1 (fun c => (hmTl (hmPs O H t) (fun s => spWith O H (nI s)) c 64)) c).1 := (nI_ltI (by omega) (by omega)).mp c71
        have e : (hmEv t (hmSt (hmPs O H t) (nI f) 64).1 (fun c => (hmTl (hmPs O H t) (fun s => spWith O H (nI s)) c 64)) (c + 1)) = (max (hmTl (hmPs O H t) (fun s => spWith O H (nI s)) c 64) ((hmSt (hmPs O H t) (nI f) 64).1 - (hmTl (hmPs O H t) (fun s => spWith O H (nI s)) c 64)), nI c) := by
          show (if t c = none ∧ _ then _ else _) = _
          rw [if_pos ⟨htc, hl⟩]
        refine Ex_l (ls' := [some (.ref m), some (.int (nI f)), some (.int (nI (hmSt (hmPs O H t) (nI f) 64).1)), some (.int (nI (hmEv t (hmSt (hmPs O H t) (nI f) 64).1 (fun c => (hmTl (hmPs O H t) (fun s => spWith O H (nI s)) c 64)) (c + 1)).1)), some (.int ((hmEv t (hmSt (hmPs O H t) (nI f) 64).1 (fun c => (hmTl (hmPs O H t) (fun s => spWith O H (nI s)) c 64)) (c + 1)).2)), some (.int (nI (c + 1))), none, none]) (by rw [e]) ?_
        exact ih (c + 1) (by omega)
      · refine Ex_goto 137 dX9_ask_127 (by decide) ?_
        refine Ex_iinc 140 (v := (nI (c + 1))) (ls' := [some (.ref m), some (.int (nI f)), some (.int (nI (hmSt (hmPs O H t) (nI f) 64).1)), some (.int (nI (hmEv t (hmSt (hmPs O H t) (nI f) 64).1 (fun c => (hmTl (hmPs O H t) (fun s => spWith O H (nI s)) c 64)) c).1)), some (.int ((hmEv t (hmSt (hmPs O H t) (nI f) 64).1 (fun c => (hmTl (hmPs O H t) (fun s => spWith O H (nI s)) c 64)) c).2)), some (.int (nI (c + 1))), some (.int (nI (max (hmTl (hmPs O H t) (fun s => spWith O H (nI s)) c 64) ((hmSt (hmPs O H t) (nI f) 64).1 - (hmTl (hmPs O H t) (fun s => spWith O H (nI s)) c 64))))), none]) dX9_ask_137 rfl (xinc _) (Nat.le_of_ble_eq_true rfl) rfl rfl rfl ?_
        refine Ex_goto 24 dX9_ask_140 (by decide) ?_
        refine Ex_fgt (ls' := [some (.ref m), some (.int (nI f)), some (.int (nI (hmSt (hmPs O H t) (nI f) 64).1)), some (.int (nI (hmEv t (hmSt (hmPs O H t) (nI f) 64).1 (fun c => (hmTl (hmPs O H t) (fun s => spWith O H (nI s)) c 64)) c).1)), some (.int ((hmEv t (hmSt (hmPs O H t) (nI f) 64).1 (fun c => (hmTl (hmPs O H t) (fun s => spWith O H (nI s)) c 64)) c).2)), some (.int (nI (c + 1))), none, none]) (by simp [xsub]) ?_
        have hn : ¬ max (hmTl (hmPs O H t) (fun s => spWith O H (nI s)) c 64) ((hmSt (hmPs O H t) (nI f) 64).1 - (hmTl (hmPs O H t) (fun s => spWith O H (nI s)) c 64)) < (hmEv t (hmSt (hmPs O H t) (nI f) 64).1 (fun c => (hmTl (hmPs O H t) (fun s => spWith O H (nI s)) c 64)) c).1 := fun q => c71 ((nI_ltI (by omega) (by omega)).mpr q)
        have e : (hmEv t (hmSt (hmPs O H t) (nI f) 64).1 (fun c => (hmTl (hmPs O H t) (fun s => spWith O H (nI s)) c 64)) (c + 1)) = (hmEv t (hmSt (hmPs O H t) (nI f) 64).1 (fun c => (hmTl (hmPs O H t) (fun s => spWith O H (nI s)) c 64)) c) := by
          show (if t c = none ∧ _ then _ else _) = _
          rw [if_neg (fun q => hn q.2)]
        rw [← e]
        exact ih (c + 1) (by omega)
    · refine Ex_goto 137 dX9_ask_45 (by decide) ?_
      refine Ex_iinc 140 (v := (nI (c + 1))) (ls' := [some (.ref m), some (.int (nI f)), some (.int (nI (hmSt (hmPs O H t) (nI f) 64).1)), some (.int (nI (hmEv t (hmSt (hmPs O H t) (nI f) 64).1 (fun c => (hmTl (hmPs O H t) (fun s => spWith O H (nI s)) c 64)) c).1)), some (.int ((hmEv t (hmSt (hmPs O H t) (nI f) 64).1 (fun c => (hmTl (hmPs O H t) (fun s => spWith O H (nI s)) c 64)) c).2)), some (.int (nI (c + 1))), none, none]) dX9_ask_137 rfl (xinc _) (Nat.le_of_ble_eq_true rfl) rfl rfl rfl ?_
      refine Ex_goto 24 dX9_ask_140 (by decide) ?_
      have hn : ¬ t c = none := fun q => c2 (hmTv_neg.mpr q)
      have e : (hmEv t (hmSt (hmPs O H t) (nI f) 64).1 (fun c => (hmTl (hmPs O H t) (fun s => spWith O H (nI s)) c 64)) (c + 1)) = (hmEv t (hmSt (hmPs O H t) (nI f) 64).1 (fun c => (hmTl (hmPs O H t) (fun s => spWith O H (nI s)) c 64)) c) := by
        show (if t c = none ∧ _ then _ else _) = _
        rw [if_neg (fun q => hn q.1)]
      rw [← e]
      exact ih (c + 1) (by omega)
theorem hmTh_id {I : xI} {m : Nat} (h : I m 0 = 0) : hmTh I m = I := by
  unfold hmTh
  rw [← h, va_up_id, va_up_id]
set_option maxHeartbeats 4000000 in
theorem mb_ask {d : Nat} {sh : xSh} {R : xR} {L : xL} {I : xI} {Q : xQ} {m : Nat} {O : hmO} {H : hmH} (hm : xModel sh R m) (hS : hmMr (I (m + 28)) H) (hO : hmMo I m O) (ho : hmOok O) (hok : hmOk O H) (h46 : I m 46 = nI (hmTk O)) (hmn : hmMin H < 800000) {t : hmTo} (hT : hmTa (I (m + 27)) 0 t) (htn : ∀ w, hmN O ≤ w → t w = none) (h0 : I m 0 = 0) (hQ : ∀ I', hmMg m I I' → hmMr (I' (m + 28)) H → Q (some (.int (spAsk O H t))) 0 sh R L I') : Ex (d + 11) 0 0 MX9_ask 0 sh R L I 5 [some (.ref m), none, none, none, none, none, none, none] [] Q := by
  obtain ⟨s6, smin, slen, sset, stak, sline, sheld, shas, stalk⟩ := id hS
  obtain ⟨o6, ot1, ot2, oo, oll, owf⟩ := id ho
  obtain ⟨on, otk, ow, cd, cfrom, cto, clen, ccd, csem⟩ := id hO
  have hlN := hok.2.1
  refine Ex_aload_n 6 (i := 0) dX9_ask_5 rfl rfl rfl ?_
  refine Ex_callV (M' := MX9_mayRing) 9 [] (rest := []) dX9_ask_6 lX9_402 mX9_mayRing rfl (xMs_0 hm) rfl (Nat.le_of_ble_eq_true rfl) (Nat.le_of_ble_eq_true rfl) rfl ?_
  refine mc_mayRing hm hS hO ho hok ?_
  simp only [Option.toList, List.cons_append, List.nil_append]
  obtain ⟨f, hf, eF⟩ := hmFree_s6 o6 H
  rw [eF]
  refine Ex_istore_n 10 (i := 1) (ls' := [some (.ref m), some (.int (nI f)), none, none, none, none, none, none]) dX9_ask_9 rfl (Nat.le_of_ble_eq_true rfl) rfl rfl rfl ?_
  refine Ex_aload_n 11 (i := 0) dX9_ask_10 rfl rfl rfl ?_
  refine Ex_iconst 12 (v := 0) dX9_ask_11 (by decide) rfl ?_
  refine Ex_callV (M' := MX9_sets) 15 [.int 0] (rest := []) dX9_ask_12 lX9_417 mX9_sets rfl (xMs_0 hm) rfl (Nat.le_of_ble_eq_true rfl) (Nat.le_of_ble_eq_true rfl) rfl ?_
  refine mq_sets (t := t) hm hS hO ho hok h46 hmn hT htn (fun I1 g1 hS1 h37 => ?_)
  rw [hmTh_id h0] at g1
  have e27 : I1 (m + 27) = I (m + 27) := g1.1 (m + 27) (by unfold hmMt; omega)
  have es : spSets O H t 0 = nI (hmSt (hmPs O H t) (nI f) 64).1 := by
    have h1 : hmCal 3 0 = true := by decide
    simp only [spSets, h1, if_true, eF]
  rw [es]
  simp only [Option.toList, List.nil_append, List.cons_append]
  refine Ex_istore_n 16 (i := 2) (ls' := [some (.ref m), some (.int (nI f)), some (.int (nI (hmSt (hmPs O H t) (nI f) 64).1)), none, none, none, none, none]) dX9_ask_15 rfl (Nat.le_of_ble_eq_true rfl) rfl rfl rfl ?_
  refine Ex_iload_n 17 (i := 2) dX9_ask_16 rfl rfl rfl ?_
  refine Ex_istore_n 18 (i := 3) (ls' := [some (.ref m), some (.int (nI f)), some (.int (nI (hmSt (hmPs O H t) (nI f) 64).1)), some (.int (nI (hmSt (hmPs O H t) (nI f) 64).1)), none, none, none, none]) dX9_ask_17 rfl (Nat.le_of_ble_eq_true rfl) rfl rfl rfl ?_
  refine Ex_iconst 19 (v := (-1)) dX9_ask_18 (by decide) rfl ?_
  refine Ex_istore 21 (ls' := [some (.ref m), some (.int (nI f)), some (.int (nI (hmSt (hmPs O H t) (nI f) 64).1)), some (.int (nI (hmSt (hmPs O H t) (nI f) 64).1)), some (.int (-1)), none, none, none]) dX9_ask_19 (Nat.le_of_ble_eq_true rfl) rfl rfl rfl ?_
  refine Ex_iconst 22 (v := 0) dX9_ask_21 (by decide) rfl ?_
  refine Ex_istore 24 (ls' := [some (.ref m), some (.int (nI f)), some (.int (nI (hmSt (hmPs O H t) (nI f) 64).1)), some (.int (nI (hmSt (hmPs O H t) (nI f) 64).1)), some (.int (-1)), some (.int 0), none, none]) dX9_ask_22 (Nat.le_of_ble_eq_true rfl) rfl rfl rfl ?_
  have ea : spAsk O H t = (hmEv t (hmSt (hmPs O H t) (nI f) 64).1 (fun c => (hmTl (hmPs O H t) (fun s => spWith O H (nI s)) c 64)) (hmN O)).2 := by
    unfold spAsk
    rw [eF]
  rw [ea] at hQ
  exact mb_ask_loop hm (g1.mo hO) ho hok hf eF (by rw [e27]; exact hT) htn (h37 (by decide) f hf eF) (hQ I1 g1 hS1) (hmN O) 0 (by omega)
set_option maxHeartbeats 4000000 in
theorem mq_ask {d : Nat} {sh : xSh} {R : xR} {L : xL} {I : xI} {Q : xQ} {m : Nat} {O : hmO} {H : hmH} (hm : xModel sh R m) (hS : hmMr (I (m + 28)) H) (hO : hmMo I m O) (ho : hmOok O) (hok : hmOk O H) (h46 : I m 46 = nI (hmTk O)) (hmn : hmMin H < 800000) {t : hmTo} (hT : hmTa (I (m + 27)) 0 t) (htn : ∀ w, hmN O ≤ w → t w = none) (hQ : ∀ I', hmMg m (hmTh I m) I' → hmMr (I' (m + 28)) H → Q (some (.int (spAsk O H t))) 0 sh R L I') : Ex (d + 11) 0 0 MX9_ask 0 sh R L I 0 [some (.ref m), none, none, none, none, none, none, none] [] Q := by
  refine Ex_aload_n 1 (i := 0) dX9_ask_0 rfl rfl rfl ?_
  refine Ex_iconst 2 (v := 0) dX9_ask_1 (by decide) rfl ?_
  refine Ex_pI 5 (I m) (va_up I m (va_up (I m) 0 0)) dX9_ask_2 fX9_130 rfl (xMs_0 hm) rfl (fun _ => rfl) rfl rfl rfl rfl ?_
  exact mb_ask hm (hmTh_mr hS) (hmTh_mo hO) ho hok ((hmTh_f (by omega)).trans h46) hmn (show hmTa (hmTh I m (m + 27)) 0 t by rw [hmTh_r (by omega)]; exact hT) htn (show hmTh I m m 0 = 0 by unfold hmTh; rw [va_up_self, va_up_self]) hQ
