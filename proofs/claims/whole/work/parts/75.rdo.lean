theorem hm_weq {l w : List Nat} {v c : Int64} (hl : hmWd l) (hw : hmWd w) (hv : v = hmE256 l) (hc : c = hmE256 w) : (lg_cmp v c = 0 ↔ l = w) := by
  rw [hm_lg0, hv, hc]
  exact ⟨fun q => hmE256_inj hl hw q, fun q => by rw [q]⟩
def hmLwd (l : List Nat) : Bool := decide (l = wCaller ∨ l = wTrouble ∨ l = wKnows ∨ l = wHolds ∨ l = wTakes ∨ l = wBelieves ∨ l = wRing ∨ l = wOff ∨ l = wSwap ∨ l = wMinute)
def hmKo (l : List Nat) : Int32 := match hmKl l with
  | none => -1
  | some k => nI k
set_option maxHeartbeats 4000000 in
theorem c_isLineWord {d : Nat} {sh : xSh} {R : xR} {L : xL} {I : xI} {Q : xQ} {v : Int64} {l : List Nat} (hv : v = hmE256 l) (hl : hmWd l) (hQ : Q (some (.int (hmB (hmLwd l)))) 0 sh R L I) : Ex d 0 0 MX5_isLineWord 0 sh R L I 0 [some (.long v), none] [] Q := by
  refine Ex_lload_n 1 (i := 0) dX5_isLineWord_0 rfl rfl rfl ?_
  refine Ex_ldc2 4 (v := 109270082020722) dX5_isLineWord_1 kX5_79 rfl ?_
  refine Ex_lcmp 5 dX5_isLineWord_4 rfl ?_
  refine Ex_if_eq 8 80 dX5_isLineWord_5 (by decide) rfl (fun c1 => ?_) (fun c1 => ?_)
  · refine Ex_iconst 81 (v := 1) dX5_isLineWord_80 (by decide) rfl ?_
    refine Ex_goto 85 dX5_isLineWord_81 (by decide) ?_
    refine Ex_iret dX5_isLineWord_85 rfl (by decide) (Or.inl rfl) ?_
    have e : hmB (hmLwd l) = 1 := by
      have h := (hm_weq hl (w := wCaller) (by unfold hmWd; decide) hv (by decide +kernel)).mp c1
      rw [h]
      decide
    rw [← e]
    exact hQ
  · refine Ex_lload_n 9 (i := 0) dX5_isLineWord_8 rfl rfl rfl ?_
    refine Ex_ldc2 12 (v := 32776920334756965) dX5_isLineWord_9 kX5_112 rfl ?_
    refine Ex_lcmp 13 dX5_isLineWord_12 rfl ?_
    refine Ex_if_eq 16 80 dX5_isLineWord_13 (by decide) rfl (fun c2 => ?_) (fun c2 => ?_)
    · refine Ex_iconst 81 (v := 1) dX5_isLineWord_80 (by decide) rfl ?_
      refine Ex_goto 85 dX5_isLineWord_81 (by decide) ?_
      refine Ex_iret dX5_isLineWord_85 rfl (by decide) (Or.inl rfl) ?_
      have e : hmB (hmLwd l) = 1 := by
        have h := (hm_weq hl (w := wTrouble) (by unfold hmWd; decide) hv (by decide +kernel)).mp c2
        rw [h]
        decide
      rw [← e]
      exact hQ
    · refine Ex_lload_n 17 (i := 0) dX5_isLineWord_16 rfl rfl rfl ?_
      refine Ex_ldc2 20 (v := 461414299507) dX5_isLineWord_17 kX5_125 rfl ?_
      refine Ex_lcmp 21 dX5_isLineWord_20 rfl ?_
      refine Ex_if_eq 24 80 dX5_isLineWord_21 (by decide) rfl (fun c3 => ?_) (fun c3 => ?_)
      · refine Ex_iconst 81 (v := 1) dX5_isLineWord_80 (by decide) rfl ?_
        refine Ex_goto 85 dX5_isLineWord_81 (by decide) ?_
        refine Ex_iret dX5_isLineWord_85 rfl (by decide) (Or.inl rfl) ?_
        have e : hmB (hmLwd l) = 1 := by
          have h := (hm_weq hl (w := wKnows) (by unfold hmWd; decide) hv (by decide +kernel)).mp c3
          rw [h]
          decide
        rw [← e]
        exact hQ
      · refine Ex_lload_n 25 (i := 0) dX5_isLineWord_24 rfl rfl rfl ?_
        refine Ex_ldc2 28 (v := 448545973363) dX5_isLineWord_25 kX5_130 rfl ?_
        refine Ex_lcmp 29 dX5_isLineWord_28 rfl ?_
        refine Ex_if_eq 32 80 dX5_isLineWord_29 (by decide) rfl (fun c4 => ?_) (fun c4 => ?_)
        · refine Ex_iconst 81 (v := 1) dX5_isLineWord_80 (by decide) rfl ?_
          refine Ex_goto 85 dX5_isLineWord_81 (by decide) ?_
          refine Ex_iret dX5_isLineWord_85 rfl (by decide) (Or.inl rfl) ?_
          have e : hmB (hmLwd l) = 1 := by
            have h := (hm_weq hl (w := wHolds) (by unfold hmWd; decide) hv (by decide +kernel)).mp c4
            rw [h]
            decide
          rw [← e]
          exact hQ
        · refine Ex_lload_n 33 (i := 0) dX5_isLineWord_32 rfl rfl rfl ?_
          refine Ex_ldc2 36 (v := 499850634611) dX5_isLineWord_33 kX5_88 rfl ?_
          refine Ex_lcmp 37 dX5_isLineWord_36 rfl ?_
          refine Ex_if_eq 40 80 dX5_isLineWord_37 (by decide) rfl (fun c5 => ?_) (fun c5 => ?_)
          · refine Ex_iconst 81 (v := 1) dX5_isLineWord_80 (by decide) rfl ?_
            refine Ex_goto 85 dX5_isLineWord_81 (by decide) ?_
            refine Ex_iret dX5_isLineWord_85 rfl (by decide) (Or.inl rfl) ?_
            have e : hmB (hmLwd l) = 1 := by
              have h := (hm_weq hl (w := wTakes) (by unfold hmWd; decide) hv (by decide +kernel)).mp c5
              rw [h]
              decide
            rw [← e]
            exact hQ
          · refine Ex_lload_n 41 (i := 0) dX5_isLineWord_40 rfl rfl rfl ?_
            refine Ex_ldc2 44 (v := 7090192388294337907) dX5_isLineWord_41 kX5_93 rfl ?_
            refine Ex_lcmp 45 dX5_isLineWord_44 rfl ?_
            refine Ex_if_eq 48 80 dX5_isLineWord_45 (by decide) rfl (fun c6 => ?_) (fun c6 => ?_)
            · refine Ex_iconst 81 (v := 1) dX5_isLineWord_80 (by decide) rfl ?_
              refine Ex_goto 85 dX5_isLineWord_81 (by decide) ?_
              refine Ex_iret dX5_isLineWord_85 rfl (by decide) (Or.inl rfl) ?_
              have e : hmB (hmLwd l) = 1 := by
                have h := (hm_weq hl (w := wBelieves) (by unfold hmWd; decide) hv (by decide +kernel)).mp c6
                rw [h]
                decide
              rw [← e]
              exact hQ
            · refine Ex_lload_n 49 (i := 0) dX5_isLineWord_48 rfl rfl rfl ?_
              refine Ex_ldc2 52 (v := 1919512167) dX5_isLineWord_49 kX5_151 rfl ?_
              refine Ex_lcmp 53 dX5_isLineWord_52 rfl ?_
              refine Ex_if_eq 56 80 dX5_isLineWord_53 (by decide) rfl (fun c7 => ?_) (fun c7 => ?_)
              · refine Ex_iconst 81 (v := 1) dX5_isLineWord_80 (by decide) rfl ?_
                refine Ex_goto 85 dX5_isLineWord_81 (by decide) ?_
                refine Ex_iret dX5_isLineWord_85 rfl (by decide) (Or.inl rfl) ?_
                have e : hmB (hmLwd l) = 1 := by
                  have h := (hm_weq hl (w := wRing) (by unfold hmWd; decide) hv (by decide +kernel)).mp c7
                  rw [h]
                  decide
                rw [← e]
                exact hQ
              · refine Ex_lload_n 57 (i := 0) dX5_isLineWord_56 rfl rfl rfl ?_
                refine Ex_ldc2 60 (v := 7300710) dX5_isLineWord_57 kX5_153 rfl ?_
                refine Ex_lcmp 61 dX5_isLineWord_60 rfl ?_
                refine Ex_if_eq 64 80 dX5_isLineWord_61 (by decide) rfl (fun c8 => ?_) (fun c8 => ?_)
                · refine Ex_iconst 81 (v := 1) dX5_isLineWord_80 (by decide) rfl ?_
                  refine Ex_goto 85 dX5_isLineWord_81 (by decide) ?_
                  refine Ex_iret dX5_isLineWord_85 rfl (by decide) (Or.inl rfl) ?_
                  have e : hmB (hmLwd l) = 1 := by
                    have h := (hm_weq hl (w := wOff) (by unfold hmWd; decide) hv (by decide +kernel)).mp c8
                    rw [h]
                    decide
                  rw [← e]
                  exact hQ
                · refine Ex_lload_n 65 (i := 0) dX5_isLineWord_64 rfl rfl rfl ?_
                  refine Ex_ldc2 68 (v := 1937203568) dX5_isLineWord_65 kX5_155 rfl ?_
                  refine Ex_lcmp 69 dX5_isLineWord_68 rfl ?_
                  refine Ex_if_eq 72 80 dX5_isLineWord_69 (by decide) rfl (fun c9 => ?_) (fun c9 => ?_)
                  · refine Ex_iconst 81 (v := 1) dX5_isLineWord_80 (by decide) rfl ?_
                    refine Ex_goto 85 dX5_isLineWord_81 (by decide) ?_
                    refine Ex_iret dX5_isLineWord_85 rfl (by decide) (Or.inl rfl) ?_
                    have e : hmB (hmLwd l) = 1 := by
                      have h := (hm_weq hl (w := wSwap) (by unfold hmWd; decide) hv (by decide +kernel)).mp c9
                      rw [h]
                      decide
                    rw [← e]
                    exact hQ
                  · refine Ex_lload_n 73 (i := 0) dX5_isLineWord_72 rfl rfl rfl ?_
                    refine Ex_ldc2 76 (v := 120299592184933) dX5_isLineWord_73 kX5_157 rfl ?_
                    refine Ex_lcmp 77 dX5_isLineWord_76 rfl ?_
                    refine Ex_if_ne 80 84 dX5_isLineWord_77 (by decide) rfl (fun c10 => ?_) (fun c10 => ?_)
                    · refine Ex_iconst 85 (v := 0) dX5_isLineWord_84 (by decide) rfl ?_
                      refine Ex_iret dX5_isLineWord_85 rfl (by decide) (Or.inl rfl) ?_
                      have e : hmB (hmLwd l) = 0 := by
                        have n0 : ¬ l = wCaller := fun q => c1 ((hm_weq hl (w := wCaller) (by unfold hmWd; decide) hv (by decide +kernel)).mpr q)
                        have n1 : ¬ l = wTrouble := fun q => c2 ((hm_weq hl (w := wTrouble) (by unfold hmWd; decide) hv (by decide +kernel)).mpr q)
                        have n2 : ¬ l = wKnows := fun q => c3 ((hm_weq hl (w := wKnows) (by unfold hmWd; decide) hv (by decide +kernel)).mpr q)
                        have n3 : ¬ l = wHolds := fun q => c4 ((hm_weq hl (w := wHolds) (by unfold hmWd; decide) hv (by decide +kernel)).mpr q)
                        have n4 : ¬ l = wTakes := fun q => c5 ((hm_weq hl (w := wTakes) (by unfold hmWd; decide) hv (by decide +kernel)).mpr q)
                        have n5 : ¬ l = wBelieves := fun q => c6 ((hm_weq hl (w := wBelieves) (by unfold hmWd; decide) hv (by decide +kernel)).mpr q)
                        have n6 : ¬ l = wRing := fun q => c7 ((hm_weq hl (w := wRing) (by unfold hmWd; decide) hv (by decide +kernel)).mpr q)
                        have n7 : ¬ l = wOff := fun q => c8 ((hm_weq hl (w := wOff) (by unfold hmWd; decide) hv (by decide +kernel)).mpr q)
                        have n8 : ¬ l = wSwap := fun q => c9 ((hm_weq hl (w := wSwap) (by unfold hmWd; decide) hv (by decide +kernel)).mpr q)
                        have n9 : ¬ l = wMinute := fun q => c10 ((hm_weq hl (w := wMinute) (by unfold hmWd; decide) hv (by decide +kernel)).mpr q)
                        rw [hmB_0]
                        unfold hmLwd
                        exact decide_eq_false (fun q => by rcases q with q | q | q | q | q | q | q | q | q | q <;> contradiction)
                      rw [← e]
                      exact hQ
                    · refine Ex_iconst 81 (v := 1) dX5_isLineWord_80 (by decide) rfl ?_
                      refine Ex_goto 85 dX5_isLineWord_81 (by decide) ?_
                      refine Ex_iret dX5_isLineWord_85 rfl (by decide) (Or.inl rfl) ?_
                      have e : hmB (hmLwd l) = 1 := by
                        have h := (hm_weq hl (w := wMinute) (by unfold hmWd; decide) hv (by decide +kernel)).mp c10
                        rw [h]
                        decide
                      rw [← e]
                      exact hQ
set_option maxHeartbeats 4000000 in
theorem c_kindOf {d : Nat} {sh : xSh} {R : xR} {L : xL} {I : xI} {Q : xQ} {v : Int64} {l : List Nat} (hv : v = hmE256 l) (hl : hmWd l) (hQ : Q (some (.int (hmKo l))) 0 sh R L I) : Ex d 0 0 MX5_kindOf 0 sh R L I 0 [some (.long v), none] [] Q := by
  refine Ex_lload_n 1 (i := 0) dX5_kindOf_0 rfl rfl rfl ?_
  refine Ex_ldc2 4 (v := 482854660462) dX5_kindOf_1 kX5_159 rfl ?_
  refine Ex_lcmp 5 dX5_kindOf_4 rfl ?_
  refine Ex_if_ne 8 10 dX5_kindOf_5 (by decide) rfl (fun c1 => ?_) (fun c1 => ?_)
  · refine Ex_lload_n 11 (i := 0) dX5_kindOf_10 rfl rfl rfl ?_
    refine Ex_ldc2 14 (v := 7563385) dX5_kindOf_11 kX5_161 rfl ?_
    refine Ex_lcmp 15 dX5_kindOf_14 rfl ?_
    refine Ex_if_ne 18 20 dX5_kindOf_15 (by decide) rfl (fun c2 => ?_) (fun c2 => ?_)
    · refine Ex_lload_n 21 (i := 0) dX5_kindOf_20 rfl rfl rfl ?_
      refine Ex_ldc2 24 (v := 113728375974256) dX5_kindOf_21 kX5_163 rfl ?_
      refine Ex_lcmp 25 dX5_kindOf_24 rfl ?_
      refine Ex_if_ne 28 30 dX5_kindOf_25 (by decide) rfl (fun c3 => ?_) (fun c3 => ?_)
      · refine Ex_lload_n 31 (i := 0) dX5_kindOf_30 rfl rfl rfl ?_
        refine Ex_ldc2 34 (v := 1684365670) dX5_kindOf_31 kX5_165 rfl ?_
        refine Ex_lcmp 35 dX5_kindOf_34 rfl ?_
        refine Ex_if_ne 38 42 dX5_kindOf_35 (by decide) rfl (fun c4 => ?_) (fun c4 => ?_)
        · refine Ex_iconst 43 (v := (-1)) dX5_kindOf_42 (by decide) rfl ?_
          refine Ex_iret dX5_kindOf_43 rfl rfl (Or.inl rfl) ?_
          have e : hmKo l = -1 := by
            have n0 : ¬ l = wPlain := fun q => c1 ((hm_weq hl (w := wPlain) (by unfold hmWd; decide) hv (by decide +kernel)).mpr q)
            have n1 : ¬ l = wShy := fun q => c2 ((hm_weq hl (w := wShy) (by unfold hmWd; decide) hv (by decide +kernel)).mpr q)
            have n2 : ¬ l = wGossip := fun q => c3 ((hm_weq hl (w := wGossip) (by unfold hmWd; decide) hv (by decide +kernel)).mpr q)
            have n3 : ¬ l = wDeaf := fun q => c4 ((hm_weq hl (w := wDeaf) (by unfold hmWd; decide) hv (by decide +kernel)).mpr q)
            unfold hmKo hmKl
            rw [if_neg n0, if_neg n1, if_neg n2, if_neg n3]
          rw [← e]
          exact hQ
        · refine Ex_iconst 39 (v := 3) dX5_kindOf_38 (by decide) rfl ?_
          refine Ex_goto 43 dX5_kindOf_39 (by decide) ?_
          refine Ex_iret dX5_kindOf_43 rfl rfl (Or.inl rfl) ?_
          have e : hmKo l = 3 := by
            have h := (hm_weq hl (w := wDeaf) (by unfold hmWd; decide) hv (by decide +kernel)).mp c4
            rw [h]
            decide
          rw [← e]
          exact hQ
      · refine Ex_iconst 29 (v := 2) dX5_kindOf_28 (by decide) rfl ?_
        refine Ex_iret dX5_kindOf_29 rfl rfl (Or.inl rfl) ?_
        have e : hmKo l = 2 := by
          have h := (hm_weq hl (w := wGossip) (by unfold hmWd; decide) hv (by decide +kernel)).mp c3
          rw [h]
          decide
        rw [← e]
        exact hQ
    · refine Ex_iconst 19 (v := 1) dX5_kindOf_18 (by decide) rfl ?_
      refine Ex_iret dX5_kindOf_19 rfl rfl (Or.inl rfl) ?_
      have e : hmKo l = 1 := by
        have h := (hm_weq hl (w := wShy) (by unfold hmWd; decide) hv (by decide +kernel)).mp c2
        rw [h]
        decide
      rw [← e]
      exact hQ
  · refine Ex_iconst 9 (v := 0) dX5_kindOf_8 (by decide) rfl ?_
    refine Ex_iret dX5_kindOf_9 rfl rfl (Or.inl rfl) ?_
    have e : hmKo l = 0 := by
      have h := (hm_weq hl (w := wPlain) (by unfold hmWd; decide) hv (by decide +kernel)).mp c1
      rw [h]
      decide
    rw [← e]
    exact hQ
theorem hmNm_eq {t : hmTok} (h : t.1 = 2) : hmNm t = (!hmLwd t.2.1 && (hmKl t.2.1).isNone && !decide (t.2.1 = wNot) && !decide (t.2.1 = wAnd) && !decide (t.2.1 = wOr)) := by
  unfold hmNm hmLwd hmKl
  by_cases a1 : t.2.1 = wPlain
  · simp [h, hmRes, a1]
  by_cases a2 : t.2.1 = wShy
  · simp [h, hmRes, a2]; decide
  by_cases a3 : t.2.1 = wGossip
  · simp [h, hmRes, a3]; decide
  by_cases a4 : t.2.1 = wDeaf
  · simp [h, hmRes, a4]; decide
  rw [if_neg a1, if_neg a2, if_neg a3, if_neg a4]
  apply Bool.eq_iff_iff.mpr
  simp only [hmRes, h, true_and, List.mem_cons, List.not_mem_nil, or_false, a1, a2, a3, a4, false_or, decide_eq_true_eq, Bool.and_eq_true, Bool.not_eq_true', decide_eq_false_iff_not, Option.isNone_none, and_true]
  constructor
  · intro q
    refine ⟨⟨⟨fun z => q ?_, fun z => q ?_⟩, fun z => q ?_⟩, fun z => q ?_⟩
    · rcases z with z | z | z | z | z | z | z | z | z | z <;> simp [z]
    · simp [z]
    · simp [z]
    · simp [z]
  · intro q z
    obtain ⟨⟨⟨q1, q2⟩, q3⟩, q4⟩ := q
    rcases z with z | z | z | z | z | z | z | z | z | z | z | z | z
    all_goals first | exact q2 z | exact q3 z | exact q4 z | exact q1 (by simp [z])
set_option maxHeartbeats 4000000 in
theorem c_isName {d : Nat} {sh : xSh} {R : xR} {L : xL} {I : xI} {Q : xQ} {a : Nat} {T : List Nat} {t : hmTok} {r : List hmTok} (ha : xReader sh R a) (hC : hmCx I L a T t r) (hQ : Q (some (.int (hmB (hmNm t)))) 0 sh R L I) : Ex (d + 1) 0 0 MX5_isName 0 sh R L I 0 [some (.ref a), none, none] [] Q := by
  obtain ⟨s2, s3, sv, s0, s5, sk, sp⟩ := id hC.2
  have k4 := sk.2.2.2
  refine Ex_aload_n 1 (i := 0) dX5_isName_0 rfl rfl rfl ?_
  refine Ex_getR 4 dX5_isName_1 fX5_12 ha.1 rfl ha.2.2.2.1 rfl ?_
  refine Ex_gL 7 (L (a + 1) 4) dX5_isName_4 fX5_72 ha.2.1 rfl rfl ?_
  refine Ex_lstore_n 8 (i := 1) (ls' := [some (.ref a), some (.long (L (a + 1) 4)), none]) dX5_isName_7 rfl (Nat.le_of_ble_eq_true rfl) rfl rfl rfl ?_
  refine Ex_aload_n 9 (i := 0) dX5_isName_8 rfl rfl rfl ?_
  refine Ex_getR 12 dX5_isName_9 fX5_12 ha.1 rfl ha.2.2.2.1 rfl ?_
  refine Ex_gI 15 (I (a + 1) 2) dX5_isName_12 fX5_37 ha.2.1 rfl rfl rfl ?_
  rw [s2]
  refine Ex_iconst 16 (v := 2) dX5_isName_15 (by decide) rfl ?_
  refine Ex_icmp_ne 19 62 dX5_isName_16 (by decide) rfl (fun c1 => ?_) (fun c1 => ?_)
  · refine Ex_iconst 63 (v := 0) dX5_isName_62 (by decide) rfl ?_
    refine Ex_iret dX5_isName_63 rfl (by decide) (Or.inl rfl) ?_
    have e : hmB (hmNm t) = 0 := by
      rw [hmB_0]
      unfold hmNm
      exact decide_eq_false (fun q => c1 (by rw [q.1]; rfl))
    rw [← e]
    exact hQ
  · have t2 : t.1 = 2 := (nI_eq (by omega) (by omega)).mp c1
    have hv := sv.1 t2
    have hl : hmWd t.2.1 := ⟨(sk.1 t2).1, (sk.1 t2).2.1⟩
    have en := hmNm_eq t2
    refine Ex_lload_n 20 (i := 1) dX5_isName_19 rfl rfl rfl ?_
    refine Ex_callS (M' := MX5_isLineWord) 23 [.long (L (a + 1) 4)] (rest := []) dX5_isName_20 lX5_138 mX5_isLineWord rfl rfl (Nat.le_of_ble_eq_true rfl) (Nat.le_of_ble_eq_true rfl) rfl ?_
    refine c_isLineWord hv hl ?_
    simp only [Option.toList, List.cons_append, List.nil_append]
    refine Ex_if_ne 26 62 dX5_isName_23 (by decide) rfl (fun c2 => ?_) (fun c2 => ?_)
    · refine Ex_iconst 63 (v := 0) dX5_isName_62 (by decide) rfl ?_
      refine Ex_iret dX5_isName_63 rfl (by decide) (Or.inl rfl) ?_
      have e : hmB (hmNm t) = 0 := by
        rw [hmB_0, en]
        rw [hmB_ne c2]
        rfl
      rw [← e]
      exact hQ
    · refine Ex_lload_n 27 (i := 1) dX5_isName_26 rfl rfl rfl ?_
      refine Ex_callS (M' := MX5_kindOf) 30 [.long (L (a + 1) 4)] (rest := []) dX5_isName_27 lX5_141 mX5_kindOf rfl rfl (Nat.le_of_ble_eq_true rfl) (Nat.le_of_ble_eq_true rfl) rfl ?_
      refine c_kindOf hv hl ?_
      simp only [Option.toList, List.cons_append, List.nil_append]
      refine Ex_iconst 31 (v := (-1)) dX5_isName_30 (by decide) rfl ?_
      refine Ex_icmp_ne 34 62 dX5_isName_31 (by decide) rfl (fun c3 => ?_) (fun c3 => ?_)
      · refine Ex_iconst 63 (v := 0) dX5_isName_62 (by decide) rfl ?_
        refine Ex_iret dX5_isName_63 rfl (by decide) (Or.inl rfl) ?_
        have e : hmB (hmNm t) = 0 := by
          rw [hmB_0, en]
          have h2 : (hmKl t.2.1).isNone = false := by
            cases e : hmKl t.2.1 with
            | some k => rfl
            | none => exact absurd (show hmKo t.2.1 = -1 by unfold hmKo; rw [e]) c3
          rw [h2, Bool.and_false]
          rfl
        rw [← e]
        exact hQ
      · refine Ex_lload_n 35 (i := 1) dX5_isName_34 rfl rfl rfl ?_
        refine Ex_ldc2 38 (v := 7237492) dX5_isName_35 kX5_145 rfl ?_
        refine Ex_lcmp 39 dX5_isName_38 rfl ?_
        refine Ex_if_eq 42 62 dX5_isName_39 (by decide) rfl (fun c4 => ?_) (fun c4 => ?_)
        · refine Ex_iconst 63 (v := 0) dX5_isName_62 (by decide) rfl ?_
          refine Ex_iret dX5_isName_63 rfl (by decide) (Or.inl rfl) ?_
          have e : hmB (hmNm t) = 0 := by
            rw [hmB_0, en]
            have h3 := (hm_weq hl (w := wNot) (by unfold hmWd; decide) hv (by decide +kernel)).mp c4
            rw [h3]
            decide
          rw [← e]
          exact hQ
        · refine Ex_lload_n 43 (i := 1) dX5_isName_42 rfl rfl rfl ?_
          refine Ex_ldc2 46 (v := 6385252) dX5_isName_43 kX5_147 rfl ?_
          refine Ex_lcmp 47 dX5_isName_46 rfl ?_
          refine Ex_if_eq 50 62 dX5_isName_47 (by decide) rfl (fun c5 => ?_) (fun c5 => ?_)
          · refine Ex_iconst 63 (v := 0) dX5_isName_62 (by decide) rfl ?_
            refine Ex_iret dX5_isName_63 rfl (by decide) (Or.inl rfl) ?_
            have e : hmB (hmNm t) = 0 := by
              rw [hmB_0, en]
              have h3 := (hm_weq hl (w := wAnd) (by unfold hmWd; decide) hv (by decide +kernel)).mp c5
              rw [h3]
              decide
            rw [← e]
            exact hQ
          · refine Ex_lload_n 51 (i := 1) dX5_isName_50 rfl rfl rfl ?_
            refine Ex_ldc2 54 (v := 28530) dX5_isName_51 kX5_149 rfl ?_
            refine Ex_lcmp 55 dX5_isName_54 rfl ?_
            refine Ex_if_eq 58 62 dX5_isName_55 (by decide) rfl (fun c6 => ?_) (fun c6 => ?_)
            · refine Ex_iconst 63 (v := 0) dX5_isName_62 (by decide) rfl ?_
              refine Ex_iret dX5_isName_63 rfl (by decide) (Or.inl rfl) ?_
              have e : hmB (hmNm t) = 0 := by
                rw [hmB_0, en]
                have h3 := (hm_weq hl (w := wOr) (by unfold hmWd; decide) hv (by decide +kernel)).mp c6
                rw [h3]
                decide
              rw [← e]
              exact hQ
            · refine Ex_iconst 59 (v := 1) dX5_isName_58 (by decide) rfl ?_
              refine Ex_goto 63 dX5_isName_59 (by decide) ?_
              refine Ex_iret dX5_isName_63 rfl (by decide) (Or.inl rfl) ?_
              have e : hmB (hmNm t) = 1 := by
                have h1 := hmB_eq c2
                have h2 : (hmKl t.2.1).isNone = true := by
                  cases e : hmKl t.2.1 with
                  | none => rfl
                  | some k =>
                    have h9 : hmKo t.2.1 = nI k := by unfold hmKo; rw [e]
                    have k9 : k < 4 := by
                      unfold hmKl at e
                      repeat' split at e
                      all_goals first | (cases e; omega) | exact absurd e (by simp)
                    have h8 : 0 ≤ nI k := hm_nI0 (by omega)
                    rw [← h9, c3] at h8
                    exact absurd h8 (by decide)
                have h3 : ¬ t.2.1 = wNot := fun q => c4 ((hm_weq hl (w := wNot) (by unfold hmWd; decide) hv (by decide +kernel)).mpr q)
                have h4 : ¬ t.2.1 = wAnd := fun q => c5 ((hm_weq hl (w := wAnd) (by unfold hmWd; decide) hv (by decide +kernel)).mpr q)
                have h5 : ¬ t.2.1 = wOr := fun q => c6 ((hm_weq hl (w := wOr) (by unfold hmWd; decide) hv (by decide +kernel)).mpr q)
                rw [hmB_1, en, h1, h2, decide_eq_false h3, decide_eq_false h4, decide_eq_false h5]
                rfl
              rw [← e]
              exact hQ
/-- the number of a name among some -/
def hmFi (nms : List (List Nat)) (l : List Nat) : Int32 := if l ∈ nms then nI (nms.idxOf l) else -1
theorem hm_idx_at {nms : List (List Nat)} {l : List Nat} {i : Nat} (hi : i < nms.length) (he : nms.getD i [] = l) (hn : ∀ j, j < i → ¬ nms.getD j [] = l) : l ∈ nms ∧ nms.idxOf l = i := by
  have e : nms.getD i [] = nms[i] := by rw [List.getD_eq_getElem?_getD, List.getElem?_eq_getElem hi]; rfl
  have hm : l ∈ nms := by rw [← he, e]; exact List.getElem_mem hi
  refine ⟨hm, ?_⟩
  have hlt := List.idxOf_lt_length_iff.mpr hm
  have hge := List.getElem_idxOf hlt
  rcases Nat.lt_trichotomy (nms.idxOf l) i with q | q | q
  · exact absurd (by rw [List.getD_eq_getElem?_getD, List.getElem?_eq_getElem hlt]; exact hge) (hn _ q)
  · exact q
  · have h9 := List.not_of_lt_findIdx (xs := nms) (p := fun x => x == l) q
    rw [← e, he] at h9
    simp at h9
set_option maxHeartbeats 4000000 in
theorem c_callerNamed_loop {d : Nat} {sh : xSh} {R : xR} {L : xL} {I : xI} {Q : xQ} {dd : Nat} {nms : List (List Nat)} {v : Int64} {l : List Nat} (hdd : xDesk sh R dd) (hn6 : nms.length ≤ 6) (h6 : I dd 6 = nI nms.length) (hnm : ∀ i, i < nms.length → L (dd + 1) i = hmE256 (nms.getD i []) ∧ hmWd (nms.getD i [])) (hv : v = hmE256 l) (hl : hmWd l) (hQ : Q (some (.int (hmFi nms l))) 0 sh R L I) : ∀ n i, n + i = nms.length → (∀ j, j < i → ¬ nms.getD j [] = l) → Ex d 0 0 MX0_callerNamed 0 sh R L I 2 [some (.ref dd), some (.long v), none, some (.int (nI i))] [] Q := by
  intro n
  induction n with
  | zero =>
    intro i hi hn
    refine Ex_iload_n 3 (i := 3) dX0_callerNamed_2 rfl rfl rfl ?_
    refine Ex_aload_n 4 (i := 0) dX0_callerNamed_3 rfl rfl rfl ?_
    refine Ex_gI 7 (I dd 6) dX0_callerNamed_4 fX0_39 hdd.1 rfl rfl rfl ?_
    rw [h6]
    refine Ex_icmp_ge 10 29 dX0_callerNamed_7 (by decide) rfl (fun c1 => ?_) (fun c1 => absurd c1 (fun q => q (nI_le (by omega) (by omega))))
    refine Ex_iconst 30 (v := (-1)) dX0_callerNamed_29 (by decide) rfl ?_
    refine Ex_iret dX0_callerNamed_30 rfl rfl (Or.inl rfl) ?_
    have e : hmFi nms l = -1 := by
      unfold hmFi
      rw [if_neg]
      intro q
      obtain ⟨j, hj, ej⟩ := List.getElem_of_mem q
      exact hn j (by omega) (by rw [List.getD_eq_getElem?_getD, List.getElem?_eq_getElem hj]; exact ej)
    rw [← e]
    exact hQ
  | succ n ih =>
    intro i hi hn
    have hni := hnm i (by omega)
    refine Ex_iload_n 3 (i := 3) dX0_callerNamed_2 rfl rfl rfl ?_
    refine Ex_aload_n 4 (i := 0) dX0_callerNamed_3 rfl rfl rfl ?_
    refine Ex_gI 7 (I dd 6) dX0_callerNamed_4 fX0_39 hdd.1 rfl rfl rfl ?_
    rw [h6]
    refine Ex_icmp_ge 10 29 dX0_callerNamed_7 (by decide) rfl (fun c1 => absurd c1 (nI_ge (by omega) (by omega))) (fun c1 => ?_)
    refine Ex_aload_n 11 (i := 0) dX0_callerNamed_10 rfl rfl rfl ?_
    refine Ex_getR 14 dX0_callerNamed_11 fX0_9 hdd.1 rfl hdd.2.2.2.2.2.2.2.2.2.1 rfl ?_
    refine Ex_iload_n 15 (i := 3) dX0_callerNamed_14 rfl rfl rfl ?_
    refine Ex_aL 16 i (L (dd + 1) i) dX0_callerNamed_15 hdd.2.1 rfl (by omega) (by decide) rfl rfl ?_
    rw [hni.1]
    refine Ex_lload_n 17 (i := 1) dX0_callerNamed_16 rfl rfl rfl ?_
    refine Ex_lcmp 18 dX0_callerNamed_17 rfl ?_
    refine Ex_if_ne 21 23 dX0_callerNamed_18 (by decide) rfl (fun c2 => ?_) (fun c2 => ?_)
    · refine Ex_iinc 26 (v := (nI (i + 1))) (ls' := [some (.ref dd), some (.long v), none, some (.int (nI (i + 1)))]) dX0_callerNamed_23 rfl (xinc _) (Nat.le_of_ble_eq_true rfl) rfl rfl rfl ?_
      refine Ex_goto 2 dX0_callerNamed_26 (by decide) ?_
      refine ih (i + 1) (by omega) (fun j hj q => ?_)
      by_cases e : j = i
      · rw [e] at q
        exact c2 ((hm_weq hni.2 hl rfl hv).mpr q)
      · exact hn j (by omega) q
    · refine Ex_iload_n 22 (i := 3) dX0_callerNamed_21 rfl rfl rfl ?_
      refine Ex_iret dX0_callerNamed_22 rfl rfl (Or.inl rfl) ?_
      have h2 := (hm_weq hni.2 hl rfl hv).mp c2
      have h3 := hm_idx_at (by omega) h2 hn
      have e : hmFi nms l = nI i := by
        unfold hmFi
        rw [if_pos h3.1, h3.2]
      rw [← e]
      exact hQ
set_option maxHeartbeats 4000000 in
theorem c_callerNamed {d : Nat} {sh : xSh} {R : xR} {L : xL} {I : xI} {Q : xQ} {dd : Nat} {nms : List (List Nat)} {v : Int64} {l : List Nat} (hdd : xDesk sh R dd) (hn6 : nms.length ≤ 6) (h6 : I dd 6 = nI nms.length) (hnm : ∀ i, i < nms.length → L (dd + 1) i = hmE256 (nms.getD i []) ∧ hmWd (nms.getD i [])) (hv : v = hmE256 l) (hl : hmWd l) (hQ : Q (some (.int (hmFi nms l))) 0 sh R L I) : Ex d 0 0 MX0_callerNamed 0 sh R L I 0 [some (.ref dd), some (.long v), none, none] [] Q := by
  refine Ex_iconst 1 (v := 0) dX0_callerNamed_0 (by decide) rfl ?_
  refine Ex_istore_n 2 (i := 3) (ls' := [some (.ref dd), some (.long v), none, some (.int 0)]) dX0_callerNamed_1 rfl (Nat.le_of_ble_eq_true rfl) rfl rfl rfl ?_
  exact c_callerNamed_loop hdd hn6 h6 hnm hv hl hQ nms.length 0 (by omega) (fun j hj => absurd hj (by omega))
