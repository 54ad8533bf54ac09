/-! the day, as it is read -/
def hmDw (t : hmTok) : Option Nat := if hmIsW t wRing = true then some 0 else if hmIsW t wOff = true then some 1 else if hmIsW t wSwap = true then some 2 else if hmIsW t wMinute = true then some 3 else none
def hmNc (nms : List (List Nat)) (other : Option Nat) (ts : List hmTok) : Nat ⊕ (Nat × List hmTok) := match ts with
  | [] => .inl 0
  | t :: r => if hmNm t = true then (if t.2.1 ∈ nms then (if some (nms.idxOf t.2.1) = other then .inl (hmFl 3 t) else .inr (nms.idxOf t.2.1, r)) else .inl (hmFl 2 t)) else .inl (hmFl 1 t)
def hmY3 (D : hmDay) (x : Nat × Nat × Nat) (ts : List hmTok) : Nat ⊕ (hmDay × List hmTok) := hmBd (hmXs 59 ts) (fun r => .inr (D ++ [x], r))
def hmY2 (nms : List (List Nat)) (D : hmDay) (k : Nat) (ts : List hmTok) : Nat ⊕ (hmDay × List hmTok) := hmBd (hmNc nms none ts) (fun p => if k = 2 then hmBd (hmNc nms (some p.1) p.2) (fun q => hmY3 D (2, p.1, q.1) q.2) else hmY3 D (k, p.1, 0) p.2)
def hmDL (nms : List (List Nat)) (D : hmDay) (ts : List hmTok) : Nat ⊕ (hmDay × List hmTok) := match ts with
  | [] => .inl 0
  | t :: r => match hmDw t with
    | none => .inl (hmFl 1 t)
    | some k => if D.length = 40 then .inl (hmFl 5 t) else if k = 3 then hmY3 D (3, 0, 0) r else hmY2 nms D k r
def hmRD (nms : List (List Nat)) : Nat → hmDay → List hmTok → Nat ⊕ hmDay
  | 0, D, _ => .inr D
  | n + 1, D, ts => match ts with
    | [] => .inr D
    | t :: r => if t.1 = 0 then .inr D else hmBd (hmDL nms D (t :: r)) (fun p => hmRD nms n p.1 p.2)
theorem hmRD_c {nms : List (List Nat)} {n : Nat} {D : hmDay} {t : hmTok} {r : List hmTok} : hmRD nms (n + 1) D (t :: r) = if t.1 = 0 then .inr D else hmBd (hmDL nms D (t :: r)) (fun p => hmRD nms n p.1 p.2) := rfl
theorem hmDL_no {nms : List (List Nat)} {D : hmDay} {t : hmTok} {r : List hmTok} (h : hmDw t = none) : hmDL nms D (t :: r) = .inl (hmFl 1 t) := by
  show (match hmDw t with | none => Sum.inl (hmFl 1 t) | some k => if D.length = 40 then .inl (hmFl 5 t) else if k = 3 then hmY3 D (3, 0, 0) r else hmY2 nms D k r) = _
  rw [h]
theorem hmDL_yes {nms : List (List Nat)} {D : hmDay} {t : hmTok} {r : List hmTok} {k : Nat} (h : hmDw t = some k) : hmDL nms D (t :: r) = if D.length = 40 then .inl (hmFl 5 t) else if k = 3 then hmY3 D (3, 0, 0) r else hmY2 nms D k r := by
  show (match hmDw t with | none => Sum.inl (hmFl 1 t) | some k => if D.length = 40 then .inl (hmFl 5 t) else if k = 3 then hmY3 D (3, 0, 0) r else hmY2 nms D k r) = _
  rw [h]
theorem hmDw_lt {t : hmTok} {k : Nat} (h : hmDw t = some k) : k < 4 ∧ ¬ t.1 = 0 := by
  have g : ∀ l, hmIsW t l = true → ¬ t.1 = 0 := fun l q z => by simp [hmIsW, z] at q
  unfold hmDw at h
  by_cases c1 : hmIsW t wRing = true
  · rw [if_pos c1] at h; cases h; exact ⟨by omega, g _ c1⟩
  by_cases c2 : hmIsW t wOff = true
  · rw [if_neg c1, if_pos c2] at h; cases h; exact ⟨by omega, g _ c2⟩
  by_cases c3 : hmIsW t wSwap = true
  · rw [if_neg c1, if_neg c2, if_pos c3] at h; cases h; exact ⟨by omega, g _ c3⟩
  by_cases c4 : hmIsW t wMinute = true
  · rw [if_neg c1, if_neg c2, if_neg c3, if_pos c4] at h; cases h; exact ⟨by omega, g _ c4⟩
  rw [if_neg c1, if_neg c2, if_neg c3, if_neg c4] at h
  exact absurd h (by simp)
def hmOi (o : Option Nat) : Int32 := match o with
  | none => -1
  | some k => nI k
set_option maxHeartbeats 4000000 in
theorem c_deedWord {d : Nat} {sh : xSh} {R : xR} {L : xL} {I : xI} {Q : xQ} {a : Nat} {T : List Nat} {t : hmTok} {r : List hmTok} (ha : xReader sh R a) (hC : hmCx I L a T t r) (hQ : Q (some (.int (hmOi (hmDw t)))) 0 sh R L I) : Ex (d + 1) 0 0 MX5_deedWord 0 sh R L I 0 [some (.ref a)] [] Q := by
  refine Ex_aload_n 1 (i := 0) dX5_deedWord_0 rfl rfl rfl ?_
  refine Ex_getR 4 dX5_deedWord_1 fX5_12 ha.1 rfl ha.2.2.2.1 rfl ?_
  refine Ex_ldc2 7 (v := 1919512167) dX5_deedWord_4 kX5_151 rfl ?_
  refine Ex_callV (M' := MX7_isWord) 10 [.long 1919512167] (rest := []) dX5_deedWord_7 lX5_57 mX7_isWord rfl ha.2.1 rfl (Nat.le_of_ble_eq_true rfl) (Nat.le_of_ble_eq_true rfl) rfl ?_
  refine c_isWord (xR_t ha) hC.2 (l := wRing) (by decide +kernel) (by unfold hmWd; decide) ?_
  simp only [Option.toList, List.cons_append, List.nil_append]
  refine Ex_if_eq 13 15 dX5_deedWord_10 (by decide) rfl (fun c1 => ?_) (fun c1 => ?_)
  · refine Ex_aload_n 16 (i := 0) dX5_deedWord_15 rfl rfl rfl ?_
    refine Ex_getR 19 dX5_deedWord_16 fX5_12 ha.1 rfl ha.2.2.2.1 rfl ?_
    refine Ex_ldc2 22 (v := 7300710) dX5_deedWord_19 kX5_153 rfl ?_
    refine Ex_callV (M' := MX7_isWord) 25 [.long 7300710] (rest := []) dX5_deedWord_22 lX5_57 mX7_isWord rfl ha.2.1 rfl (Nat.le_of_ble_eq_true rfl) (Nat.le_of_ble_eq_true rfl) rfl ?_
    refine c_isWord (xR_t ha) hC.2 (l := wOff) (by decide +kernel) (by unfold hmWd; decide) ?_
    simp only [Option.toList, List.cons_append, List.nil_append]
    refine Ex_if_eq 28 30 dX5_deedWord_25 (by decide) rfl (fun c2 => ?_) (fun c2 => ?_)
    · refine Ex_aload_n 31 (i := 0) dX5_deedWord_30 rfl rfl rfl ?_
      refine Ex_getR 34 dX5_deedWord_31 fX5_12 ha.1 rfl ha.2.2.2.1 rfl ?_
      refine Ex_ldc2 37 (v := 1937203568) dX5_deedWord_34 kX5_155 rfl ?_
      refine Ex_callV (M' := MX7_isWord) 40 [.long 1937203568] (rest := []) dX5_deedWord_37 lX5_57 mX7_isWord rfl ha.2.1 rfl (Nat.le_of_ble_eq_true rfl) (Nat.le_of_ble_eq_true rfl) rfl ?_
      refine c_isWord (xR_t ha) hC.2 (l := wSwap) (by decide +kernel) (by unfold hmWd; decide) ?_
      simp only [Option.toList, List.cons_append, List.nil_append]
      refine Ex_if_eq 43 45 dX5_deedWord_40 (by decide) rfl (fun c3 => ?_) (fun c3 => ?_)
      · refine Ex_aload_n 46 (i := 0) dX5_deedWord_45 rfl rfl rfl ?_
        refine Ex_getR 49 dX5_deedWord_46 fX5_12 ha.1 rfl ha.2.2.2.1 rfl ?_
        refine Ex_ldc2 52 (v := 120299592184933) dX5_deedWord_49 kX5_157 rfl ?_
        refine Ex_callV (M' := MX7_isWord) 55 [.long 120299592184933] (rest := []) dX5_deedWord_52 lX5_57 mX7_isWord rfl ha.2.1 rfl (Nat.le_of_ble_eq_true rfl) (Nat.le_of_ble_eq_true rfl) rfl ?_
        refine c_isWord (xR_t ha) hC.2 (l := wMinute) (by decide +kernel) (by unfold hmWd; decide) ?_
        simp only [Option.toList, List.cons_append, List.nil_append]
        refine Ex_if_eq 58 62 dX5_deedWord_55 (by decide) rfl (fun c4 => ?_) (fun c4 => ?_)
        · refine Ex_iconst 63 (v := (-1)) dX5_deedWord_62 (by decide) rfl ?_
          refine Ex_iret dX5_deedWord_63 rfl rfl (Or.inl rfl) ?_
          have e : hmOi (hmDw t) = -1 := by
            have n10 := hmB_eq c1
            have n25 := hmB_eq c2
            have n40 := hmB_eq c3
            have n55 := hmB_eq c4
            unfold hmDw
            rw [if_neg (by rw [n10]; decide), if_neg (by rw [n25]; decide), if_neg (by rw [n40]; decide), if_neg (by rw [n55]; decide)]
            rfl
          rw [← e]
          exact hQ
        · refine Ex_iconst 59 (v := 3) dX5_deedWord_58 (by decide) rfl ?_
          refine Ex_goto 63 dX5_deedWord_59 (by decide) ?_
          refine Ex_iret dX5_deedWord_63 rfl rfl (Or.inl rfl) ?_
          have e : hmOi (hmDw t) = 3 := by
            have n10 := hmB_eq c1
            have n25 := hmB_eq c2
            have n40 := hmB_eq c3
            have y := hmB_ne c4
            unfold hmDw
            rw [if_neg (by rw [n10]; decide), if_neg (by rw [n25]; decide), if_neg (by rw [n40]; decide), if_pos y]
            rfl
          rw [← e]
          exact hQ
      · refine Ex_iconst 44 (v := 2) dX5_deedWord_43 (by decide) rfl ?_
        refine Ex_iret dX5_deedWord_44 rfl rfl (Or.inl rfl) ?_
        have e : hmOi (hmDw t) = 2 := by
          have n10 := hmB_eq c1
          have n25 := hmB_eq c2
          have y := hmB_ne c3
          unfold hmDw
          rw [if_neg (by rw [n10]; decide), if_neg (by rw [n25]; decide), if_pos y]
          rfl
        rw [← e]
        exact hQ
    · refine Ex_iconst 29 (v := 1) dX5_deedWord_28 (by decide) rfl ?_
      refine Ex_iret dX5_deedWord_29 rfl rfl (Or.inl rfl) ?_
      have e : hmOi (hmDw t) = 1 := by
        have n10 := hmB_eq c1
        have y := hmB_ne c2
        unfold hmDw
        rw [if_neg (by rw [n10]; decide), if_pos y]
        rfl
      rw [← e]
      exact hQ
  · refine Ex_iconst 14 (v := 0) dX5_deedWord_13 (by decide) rfl ?_
    refine Ex_iret dX5_deedWord_14 rfl rfl (Or.inl rfl) ?_
    have e : hmOi (hmDw t) = 0 := by
      have y := hmB_ne c1
      unfold hmDw
      rw [if_pos y]
      rfl
    rw [← e]
    exact hQ
theorem hmNc_c {nms : List (List Nat)} {other : Option Nat} {t : hmTok} {r : List hmTok} : hmNc nms other (t :: r) = if hmNm t = true then (if t.2.1 ∈ nms then (if some (nms.idxOf t.2.1) = other then .inl (hmFl 3 t) else .inr (nms.idxOf t.2.1, r)) else .inl (hmFl 2 t)) else .inl (hmFl 1 t) := rfl
set_option maxHeartbeats 4000000 in
theorem c_namedCaller {d : Nat} {sh : xSh} {R : xR} {L : xL} {I : xI} {Q : xQ} {a dk : Nat} {T : List Nat} {t : hmTok} {r : List hmTok} (ha : xReader sh R a) (hdk : xDesk sh R dk) (hdis : a + 3 ≤ dk ∨ dk + 9 ≤ a) (hc : ∀ x, x ∈ T → x < 127) (hC : hmCx I L a T t r) {nms : List (List Nat)} (hnl : nms.length ≤ 6) (h6 : I dk 6 = nI nms.length) (hnm : ∀ i, i < nms.length → L (dk + 1) i = hmE256 (nms.getD i []) ∧ hmWd (nms.getD i [])) {ot : Option Nat} (hot : ∀ k, ot = some k → k < 2147483648) (hF : ∀ k, 1 ≤ k → k ≤ 5 → hmNc nms ot (t :: r) = .inl (hmFl k t) → Q (some (.int (-1))) 0 sh R L (va_up I a (va_up (I a) 1 (nI (hmFl k t))))) (hQ : ∀ i t' r' I' L', i < nms.length → hmNc nms ot (t :: r) = .inr (i, t' :: r') → (t' :: r').length < (t :: r).length → hmSp (a + 1) I I' → hmSl (a + 1) L L' → hmCx I' L' a T t' r' → Q (some (.int (nI i))) 0 sh R L' I') : Ex (d + 6) 0 0 MX5_namedCaller 0 sh R L I 0 [some (.ref a), some (.ref dk), some (.int (hmOi ot)), none] [] Q := by
  obtain ⟨s2, s3, sv, s0, s5, sk, sp⟩ := id hC.2
  by_cases hn : hmNm t = true
  · have eb : hmB (hmNm t) = 1 := (hmB_1 _).mpr hn
    have t2 : t.1 = 2 := (of_decide_eq_true hn).1
    have hv := sv.1 t2
    have hl : hmWd t.2.1 := ⟨(sk.1 t2).1, (sk.1 t2).2.1⟩
    by_cases hin : t.2.1 ∈ nms
    · have hlt := List.idxOf_lt_length_iff.mpr hin
      have ef : hmFi nms t.2.1 = nI (nms.idxOf t.2.1) := by unfold hmFi; rw [if_pos hin]
      have h8 : ¬ nI (nms.idxOf t.2.1) = -1 := fun q => by
        have h0 : 0 ≤ nI (nms.idxOf t.2.1) := hm_nI0 (by omega)
        rw [q] at h0
        exact absurd h0 (by decide)
      by_cases ho : some (nms.idxOf t.2.1) = ot
      · have eo : hmOi ot = nI (nms.idxOf t.2.1) := by rw [← ho]; rfl
        refine Ex_aload_n 1 (i := 0) dX5_namedCaller_0 rfl rfl rfl ?_
        refine Ex_callV (M' := MX5_isName) 4 [] (rest := []) dX5_namedCaller_1 lX5_167 mX5_isName rfl ha.1 rfl (Nat.le_of_ble_eq_true rfl) (Nat.le_of_ble_eq_true rfl) rfl ?_
        refine c_isName ha hC ?_
        simp only [Option.toList, List.cons_append, List.nil_append]
        rw [eb]
        refine Ex_if_eq 7 21 dX5_namedCaller_4 (by decide) rfl (fun c1 => absurd c1 (by decide)) (fun c1 => ?_)
        refine Ex_aload_n 8 (i := 1) dX5_namedCaller_7 rfl rfl rfl ?_
        refine Ex_aload_n 9 (i := 0) dX5_namedCaller_8 rfl rfl rfl ?_
        refine Ex_getR 12 dX5_namedCaller_9 fX5_12 ha.1 rfl ha.2.2.2.1 rfl ?_
        refine Ex_gL 15 (L (a + 1) 4) dX5_namedCaller_12 fX5_72 ha.2.1 rfl rfl ?_
        rw [hv]
        refine Ex_callV (M' := MX0_callerNamed) 18 [.long (hmE256 t.2.1)] (rest := []) dX5_namedCaller_15 lX5_171 mX0_callerNamed rfl hdk.1 rfl (Nat.le_of_ble_eq_true rfl) (Nat.le_of_ble_eq_true rfl) rfl ?_
        refine c_callerNamed hdk hnl h6 hnm rfl hl ?_
        simp only [Option.toList, List.cons_append, List.nil_append]
        rw [ef]
        refine Ex_goto 22 dX5_namedCaller_18 (by decide) ?_
        refine Ex_istore_n 23 (i := 3) (ls' := [some (.ref a), some (.ref dk), some (.int (hmOi ot)), some (.int (nI (nms.idxOf t.2.1)))]) dX5_namedCaller_22 rfl (Nat.le_of_ble_eq_true rfl) rfl rfl rfl ?_
        refine Ex_iload_n 24 (i := 3) dX5_namedCaller_23 rfl rfl rfl ?_
        refine Ex_iconst 25 (v := (-1)) dX5_namedCaller_24 (by decide) rfl ?_
        refine Ex_icmp_ne 28 47 dX5_namedCaller_25 (by decide) rfl (fun c2 => ?_) (fun c2 => absurd c2 h8)
        refine Ex_iload_n 48 (i := 3) dX5_namedCaller_47 rfl rfl rfl ?_
        refine Ex_iload_n 49 (i := 2) dX5_namedCaller_48 rfl rfl rfl ?_
        refine Ex_icmp_ne 52 60 dX5_namedCaller_49 (by decide) rfl (fun c3 => absurd c3 (fun q => q eo.symm)) (fun c3 => ?_)
        refine Ex_aload_n 53 (i := 0) dX5_namedCaller_52 rfl rfl rfl ?_
        refine Ex_iconst 54 (v := 3) dX5_namedCaller_53 (by decide) rfl ?_
        refine Ex_callV (M' := MX5_fail) 57 [.int 3] (rest := []) dX5_namedCaller_54 lX5_61 mX5_fail rfl ha.1 rfl (Nat.le_of_ble_eq_true rfl) (Nat.le_of_ble_eq_true rfl) rfl ?_
        refine c_fail (k := 3) ha hC ?_
        simp only [Option.toList, List.nil_append, List.cons_append]
        refine Ex_pop 58 dX5_namedCaller_57 rfl rfl ?_
        refine Ex_iconst 59 (v := (-1)) dX5_namedCaller_58 (by decide) rfl ?_
        refine Ex_iret dX5_namedCaller_59 rfl rfl (Or.inl rfl) ?_
        exact hF 3 (by omega) (by omega) (by rw [hmNc_c, if_pos hn, if_pos hin, if_pos ho])
      · have eo : ¬ nI (nms.idxOf t.2.1) = hmOi ot := fun q => by
          cases ot with
          | none => exact h8 q
          | some k =>
            have h9 : nI (nms.idxOf t.2.1) = nI k := q
            exact ho (congrArg some ((nI_eq (by omega) (hot k rfl)).mp h9))
        refine Ex_aload_n 1 (i := 0) dX5_namedCaller_0 rfl rfl rfl ?_
        refine Ex_callV (M' := MX5_isName) 4 [] (rest := []) dX5_namedCaller_1 lX5_167 mX5_isName rfl ha.1 rfl (Nat.le_of_ble_eq_true rfl) (Nat.le_of_ble_eq_true rfl) rfl ?_
        refine c_isName ha hC ?_
        simp only [Option.toList, List.cons_append, List.nil_append]
        rw [eb]
        refine Ex_if_eq 7 21 dX5_namedCaller_4 (by decide) rfl (fun c1 => absurd c1 (by decide)) (fun c1 => ?_)
        refine Ex_aload_n 8 (i := 1) dX5_namedCaller_7 rfl rfl rfl ?_
        refine Ex_aload_n 9 (i := 0) dX5_namedCaller_8 rfl rfl rfl ?_
        refine Ex_getR 12 dX5_namedCaller_9 fX5_12 ha.1 rfl ha.2.2.2.1 rfl ?_
        refine Ex_gL 15 (L (a + 1) 4) dX5_namedCaller_12 fX5_72 ha.2.1 rfl rfl ?_
        rw [hv]
        refine Ex_callV (M' := MX0_callerNamed) 18 [.long (hmE256 t.2.1)] (rest := []) dX5_namedCaller_15 lX5_171 mX0_callerNamed rfl hdk.1 rfl (Nat.le_of_ble_eq_true rfl) (Nat.le_of_ble_eq_true rfl) rfl ?_
        refine c_callerNamed hdk hnl h6 hnm rfl hl ?_
        simp only [Option.toList, List.cons_append, List.nil_append]
        rw [ef]
        refine Ex_goto 22 dX5_namedCaller_18 (by decide) ?_
        refine Ex_istore_n 23 (i := 3) (ls' := [some (.ref a), some (.ref dk), some (.int (hmOi ot)), some (.int (nI (nms.idxOf t.2.1)))]) dX5_namedCaller_22 rfl (Nat.le_of_ble_eq_true rfl) rfl rfl rfl ?_
        refine Ex_iload_n 24 (i := 3) dX5_namedCaller_23 rfl rfl rfl ?_
        refine Ex_iconst 25 (v := (-1)) dX5_namedCaller_24 (by decide) rfl ?_
        refine Ex_icmp_ne 28 47 dX5_namedCaller_25 (by decide) rfl (fun c2 => ?_) (fun c2 => absurd c2 h8)
        refine Ex_iload_n 48 (i := 3) dX5_namedCaller_47 rfl rfl rfl ?_
        refine Ex_iload_n 49 (i := 2) dX5_namedCaller_48 rfl rfl rfl ?_
        refine Ex_icmp_ne 52 60 dX5_namedCaller_49 (by decide) rfl (fun c3 => ?_) (fun c3 => absurd c3 eo)
        refine Ex_aload_n 61 (i := 0) dX5_namedCaller_60 rfl rfl rfl ?_
        refine Ex_getR 64 dX5_namedCaller_61 fX5_12 ha.1 rfl ha.2.2.2.1 rfl ?_
        refine Ex_callV (M' := MX7_step) 67 [] (rest := []) dX5_namedCaller_64 lX5_65 mX7_step rfl ha.2.1 rfl (Nat.le_of_ble_eq_true rfl) (Nat.le_of_ble_eq_true rfl) rfl ?_
        refine c_rstep ha hc hC (by omega) (fun t1 r1 I1 L1 er1 gs1 gt1 hC1 => ?_)
        simp only [Option.toList, List.nil_append, List.cons_append]
        refine Ex_iload_n 68 (i := 3) dX5_namedCaller_67 rfl rfl rfl ?_
        refine Ex_iret dX5_namedCaller_68 rfl rfl (Or.inl rfl) ?_
        exact hQ (nms.idxOf t.2.1) t1 r1 I1 L1 hlt (by rw [hmNc_c, if_pos hn, if_pos hin, if_neg ho, er1]) (by rw [er1]; simp) gs1 gt1 hC1
    · have ef : hmFi nms t.2.1 = -1 := by unfold hmFi; rw [if_neg hin]
      refine Ex_aload_n 1 (i := 0) dX5_namedCaller_0 rfl rfl rfl ?_
      refine Ex_callV (M' := MX5_isName) 4 [] (rest := []) dX5_namedCaller_1 lX5_167 mX5_isName rfl ha.1 rfl (Nat.le_of_ble_eq_true rfl) (Nat.le_of_ble_eq_true rfl) rfl ?_
      refine c_isName ha hC ?_
      simp only [Option.toList, List.cons_append, List.nil_append]
      rw [eb]
      refine Ex_if_eq 7 21 dX5_namedCaller_4 (by decide) rfl (fun c1 => absurd c1 (by decide)) (fun c1 => ?_)
      refine Ex_aload_n 8 (i := 1) dX5_namedCaller_7 rfl rfl rfl ?_
      refine Ex_aload_n 9 (i := 0) dX5_namedCaller_8 rfl rfl rfl ?_
      refine Ex_getR 12 dX5_namedCaller_9 fX5_12 ha.1 rfl ha.2.2.2.1 rfl ?_
      refine Ex_gL 15 (L (a + 1) 4) dX5_namedCaller_12 fX5_72 ha.2.1 rfl rfl ?_
      rw [hv]
      refine Ex_callV (M' := MX0_callerNamed) 18 [.long (hmE256 t.2.1)] (rest := []) dX5_namedCaller_15 lX5_171 mX0_callerNamed rfl hdk.1 rfl (Nat.le_of_ble_eq_true rfl) (Nat.le_of_ble_eq_true rfl) rfl ?_
      refine c_callerNamed hdk hnl h6 hnm rfl hl ?_
      simp only [Option.toList, List.cons_append, List.nil_append]
      rw [ef]
      refine Ex_goto 22 dX5_namedCaller_18 (by decide) ?_
      refine Ex_istore_n 23 (i := 3) (ls' := [some (.ref a), some (.ref dk), some (.int (hmOi ot)), some (.int (-1))]) dX5_namedCaller_22 rfl (Nat.le_of_ble_eq_true rfl) rfl rfl rfl ?_
      refine Ex_iload_n 24 (i := 3) dX5_namedCaller_23 rfl rfl rfl ?_
      refine Ex_iconst 25 (v := (-1)) dX5_namedCaller_24 (by decide) rfl ?_
      refine Ex_icmp_ne 28 47 dX5_namedCaller_25 (by decide) rfl (fun c2 => absurd c2 (fun q => q (by decide))) (fun c2 => ?_)
      refine Ex_aload_n 29 (i := 0) dX5_namedCaller_28 rfl rfl rfl ?_
      refine Ex_aload_n 30 (i := 0) dX5_namedCaller_29 rfl rfl rfl ?_
      refine Ex_callV (M' := MX5_isName) 33 [] (rest := [.ref a]) dX5_namedCaller_30 lX5_167 mX5_isName rfl ha.1 rfl (Nat.le_of_ble_eq_true rfl) (Nat.le_of_ble_eq_true rfl) rfl ?_
      refine c_isName ha hC ?_
      simp only [Option.toList, List.cons_append, List.nil_append]
      rw [eb]
      refine Ex_if_eq 36 40 dX5_namedCaller_33 (by decide) rfl (fun c3 => absurd c3 (by decide)) (fun c3 => ?_)
      refine Ex_iconst 37 (v := 2) dX5_namedCaller_36 (by decide) rfl ?_
      refine Ex_goto 41 dX5_namedCaller_37 (by decide) ?_
      refine Ex_callV (M' := MX5_fail) 44 [.int 2] (rest := []) dX5_namedCaller_41 lX5_61 mX5_fail rfl ha.1 rfl (Nat.le_of_ble_eq_true rfl) (Nat.le_of_ble_eq_true rfl) rfl ?_
      refine c_fail (k := 2) ha hC ?_
      simp only [Option.toList, List.nil_append, List.cons_append]
      refine Ex_pop 45 dX5_namedCaller_44 rfl rfl ?_
      refine Ex_iconst 46 (v := (-1)) dX5_namedCaller_45 (by decide) rfl ?_
      refine Ex_iret dX5_namedCaller_46 rfl rfl (Or.inl rfl) ?_
      exact hF 2 (by omega) (by omega) (by rw [hmNc_c, if_pos hn, if_neg hin])
  · have eb : hmB (hmNm t) = 0 := by
      rw [hmB_0]
      cases q : hmNm t  with
      | false => rfl
      | true => exact absurd q hn
    refine Ex_aload_n 1 (i := 0) dX5_namedCaller_0 rfl rfl rfl ?_
    refine Ex_callV (M' := MX5_isName) 4 [] (rest := []) dX5_namedCaller_1 lX5_167 mX5_isName rfl ha.1 rfl (Nat.le_of_ble_eq_true rfl) (Nat.le_of_ble_eq_true rfl) rfl ?_
    refine c_isName ha hC ?_
    simp only [Option.toList, List.cons_append, List.nil_append]
    rw [eb]
    refine Ex_if_eq 7 21 dX5_namedCaller_4 (by decide) rfl (fun c1 => ?_) (fun c1 => absurd c1 (fun q => q (by decide)))
    refine Ex_iconst 22 (v := (-1)) dX5_namedCaller_21 (by decide) rfl ?_
    refine Ex_istore_n 23 (i := 3) (ls' := [some (.ref a), some (.ref dk), some (.int (hmOi ot)), some (.int (-1))]) dX5_namedCaller_22 rfl (Nat.le_of_ble_eq_true rfl) rfl rfl rfl ?_
    refine Ex_iload_n 24 (i := 3) dX5_namedCaller_23 rfl rfl rfl ?_
    refine Ex_iconst 25 (v := (-1)) dX5_namedCaller_24 (by decide) rfl ?_
    refine Ex_icmp_ne 28 47 dX5_namedCaller_25 (by decide) rfl (fun c2 => absurd c2 (fun q => q (by decide))) (fun c2 => ?_)
    refine Ex_aload_n 29 (i := 0) dX5_namedCaller_28 rfl rfl rfl ?_
    refine Ex_aload_n 30 (i := 0) dX5_namedCaller_29 rfl rfl rfl ?_
    refine Ex_callV (M' := MX5_isName) 33 [] (rest := [.ref a]) dX5_namedCaller_30 lX5_167 mX5_isName rfl ha.1 rfl (Nat.le_of_ble_eq_true rfl) (Nat.le_of_ble_eq_true rfl) rfl ?_
    refine c_isName ha hC ?_
    simp only [Option.toList, List.cons_append, List.nil_append]
    rw [eb]
    refine Ex_if_eq 36 40 dX5_namedCaller_33 (by decide) rfl (fun c3 => ?_) (fun c3 => absurd c3 (fun q => q (by decide)))
    refine Ex_iconst 41 (v := 1) dX5_namedCaller_40 (by decide) rfl ?_
    refine Ex_callV (M' := MX5_fail) 44 [.int 1] (rest := []) dX5_namedCaller_41 lX5_61 mX5_fail rfl ha.1 rfl (Nat.le_of_ble_eq_true rfl) (Nat.le_of_ble_eq_true rfl) rfl ?_
    refine c_fail (k := 1) ha hC ?_
    simp only [Option.toList, List.nil_append, List.cons_append]
    refine Ex_pop 45 dX5_namedCaller_44 rfl rfl ?_
    refine Ex_iconst 46 (v := (-1)) dX5_namedCaller_45 (by decide) rfl ?_
    refine Ex_iret dX5_namedCaller_46 rfl rfl (Or.inl rfl) ?_
    exact hF 1 (by omega) (by omega) (by rw [hmNc_c, if_neg hn])
