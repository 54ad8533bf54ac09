set_option maxHeartbeats 4000000 in
theorem c_exchange {d : Nat} {sh : xSh} {R : xR} {L : xL} {I : xI} {Q : xQ} {a i j : Nat} (ha : xRows sh R a) (hi : i < 6) (hj : j < 6) (hQ : Q none 0 sh R L (va_up I (a + 1) (va_up (va_up (I (a + 1)) i (I (a + 1) j)) j (I (a + 1) i)))) : Ex d 0 0 MX6_exchange 0 sh R L I 0 [some (.ref a), some (.int (nI i)), some (.int (nI j)), none] [] Q := by
  refine Ex_aload_n 1 (i := 0) dX6_exchange_0 rfl rfl rfl ?_
  refine Ex_getR 4 dX6_exchange_1 fX6_9 ha.1 rfl ha.2.2.2.1 rfl ?_
  refine Ex_iload_n 5 (i := 1) dX6_exchange_4 rfl rfl rfl ?_
  refine Ex_aI 6 i (I (a + 1) i) dX6_exchange_5 ha.2.1 rfl (by omega) (by decide) rfl rfl ?_
  refine Ex_istore_n 7 (i := 3) (ls' := [some (.ref a), some (.int (nI i)), some (.int (nI j)), some (.int (I (a + 1) i))]) dX6_exchange_6 rfl (Nat.le_of_ble_eq_true rfl) rfl rfl rfl ?_
  refine Ex_aload_n 8 (i := 0) dX6_exchange_7 rfl rfl rfl ?_
  refine Ex_getR 11 dX6_exchange_8 fX6_9 ha.1 rfl ha.2.2.2.1 rfl ?_
  refine Ex_iload_n 12 (i := 1) dX6_exchange_11 rfl rfl rfl ?_
  refine Ex_aload_n 13 (i := 0) dX6_exchange_12 rfl rfl rfl ?_
  refine Ex_getR 16 dX6_exchange_13 fX6_9 ha.1 rfl ha.2.2.2.1 rfl ?_
  refine Ex_iload_n 17 (i := 2) dX6_exchange_16 rfl rfl rfl ?_
  refine Ex_aI 18 j (I (a + 1) j) dX6_exchange_17 ha.2.1 rfl (by omega) (by decide) rfl rfl ?_
  refine Ex_sI 19 i (I (a + 1)) (va_up I (a + 1) (va_up (I (a + 1)) i (I (a + 1) j))) dX6_exchange_18 ha.2.1 rfl (by omega) (by decide) rfl rfl rfl ?_
  refine Ex_aload_n 20 (i := 0) dX6_exchange_19 rfl rfl rfl ?_
  refine Ex_getR 23 dX6_exchange_20 fX6_9 ha.1 rfl ha.2.2.2.1 rfl ?_
  refine Ex_iload_n 24 (i := 2) dX6_exchange_23 rfl rfl rfl ?_
  refine Ex_iload_n 25 (i := 3) dX6_exchange_24 rfl rfl rfl ?_
  refine Ex_sI 26 j (va_up (I (a + 1)) i (I (a + 1) j)) (va_up I (a + 1) (va_up (va_up (I (a + 1)) i (I (a + 1) j)) j (I (a + 1) i))) dX6_exchange_25 ha.2.1 rfl (by omega) (by decide) (va_up_self _ _ _) (va_up_up _ _ _ _) rfl ?_
  refine Ex_ret0 dX6_exchange_26 rfl (Or.inl rfl) ?_
  exact hQ
set_option maxHeartbeats 4000000 in
theorem c_weigh {d : Nat} {sh : xSh} {R : xR} {L : xL} {I : xI} {Q : xQ} {a : Nat} {x : Int32} (ha : xRows sh R a) (hno : x ≤ I a 3 → Q none 0 sh R L I) (hyes : ¬ x ≤ I a 3 → Q none 0 sh R L (va_up (va_up I a (va_up (I a) 3 x)) (a + 2) (va_cpy (I (a + 1)) (I (a + 2)) 0 0 6))) : Ex (d + 1) 0 0 MX6_weigh 0 sh R L I 0 [some (.ref a), some (.int x)] [] Q := by
  refine Ex_iload_n 1 (i := 1) dX6_weigh_0 rfl rfl rfl ?_
  refine Ex_aload_n 2 (i := 0) dX6_weigh_1 rfl rfl rfl ?_
  refine Ex_gI 5 (I a 3) dX6_weigh_2 fX6_22 ha.1 rfl rfl rfl ?_
  refine Ex_icmp_le 8 28 dX6_weigh_5 (by decide) rfl (fun c1 => ?_) (fun c1 => ?_)
  · refine Ex_ret0 dX6_weigh_28 rfl (Or.inl rfl) ?_
    exact hno c1
  · refine Ex_aload_n 9 (i := 0) dX6_weigh_8 rfl rfl rfl ?_
    refine Ex_iload_n 10 (i := 1) dX6_weigh_9 rfl rfl rfl ?_
    refine Ex_pI 13 (I a) (va_up I a (va_up (I a) 3 x)) dX6_weigh_10 fX6_22 rfl ha.1 rfl (fun _ => rfl) rfl rfl rfl rfl ?_
    refine Ex_aload_n 14 (i := 0) dX6_weigh_13 rfl rfl rfl ?_
    refine Ex_getR 17 dX6_weigh_14 fX6_9 ha.1 rfl ha.2.2.2.1 rfl ?_
    refine Ex_iconst 18 (v := 0) dX6_weigh_17 (by decide) rfl ?_
    refine Ex_aload_n 19 (i := 0) dX6_weigh_18 rfl rfl rfl ?_
    refine Ex_getR 22 dX6_weigh_19 fX6_15 ha.1 rfl ha.2.2.2.2 rfl ?_
    refine Ex_iconst 23 (v := 0) dX6_weigh_22 (by decide) rfl ?_
    refine Ex_bipush 25 (v := 6) dX6_weigh_23 (by decide) rfl ?_
    refine Ex_cpI 28 0 0 6 (I (a + 1)) (I (a + 2)) (va_up (va_up I a (va_up (I a) 3 x)) (a + 2) (va_cpy (I (a + 1)) (I (a + 2)) 0 0 6)) dX6_weigh_25 lX6_29 ha.2.1 ha.2.2.1 rfl rfl rfl (by decide) (by decide) (by decide) (by decide) (va_up_ne _ _ (by omega)) (va_up_ne _ _ (by omega)) rfl (by decide) rfl ?_
    refine Ex_ret0 dX6_weigh_28 rfl (Or.inl rfl) ?_
    exact hyes c1
/-- what a search for the best order answers: how many stand in it, the most, the row -/
def spBest (f : Nat × Int32 × List Nat) (v : Int32) : Int32 := if v = -1 then f.2.1 else if hmCal f.1 v = true then nI (f.2.2.getD (hmIx v) 0) else -2
set_option maxHeartbeats 4000000 in
theorem c_answerTo {d : Nat} {sh : xSh} {R : xR} {L : xL} {I : xI} {Q : xQ} {a : Nat} {f : Nat × Int32 × List Nat} (ha : xRows sh R a) (hf : f.1 ≤ 6) (h2 : I a 2 = nI f.1) (h3 : I a 3 = f.2.1) (h4 : ∀ i, i < f.1 → I (a + 2) i = nI (f.2.2.getD i 0)) {qv : Int32} (hQ : Q (some (.int (spBest f qv))) 0 sh R L I) : Ex d 0 0 MX6_answerTo 0 sh R L I 0 [some (.ref a), some (.int qv)] [] Q := by
  refine Ex_iload_n 1 (i := 1) dX6_answerTo_0 rfl rfl rfl ?_
  refine Ex_iconst 2 (v := (-1)) dX6_answerTo_1 (by decide) rfl ?_
  refine Ex_icmp_ne 5 10 dX6_answerTo_2 (by decide) rfl (fun c1 => ?_) (fun c1 => ?_)
  · refine Ex_iload_n 11 (i := 1) dX6_answerTo_10 rfl rfl rfl ?_
    refine Ex_if_lt 14 31 dX6_answerTo_11 (by decide) rfl (fun c2 => ?_) (fun c2 => ?_)
    · refine Ex_bipush 33 (v := (-2)) dX6_answerTo_31 (by decide) rfl ?_
      refine Ex_iret dX6_answerTo_33 rfl rfl (Or.inl rfl) ?_
      have e : spBest f qv = -2 := by
        have h1 : hmCal f.1 qv = false := by
          simp only [hmCal, decide_eq_false_iff_not]; exact fun q => absurd (hm_lt0.mp c2) (by omega)
        simp [spBest, if_neg c1, h1]
      rw [← e]
      exact hQ
    · refine Ex_iload_n 15 (i := 1) dX6_answerTo_14 rfl rfl rfl ?_
      refine Ex_aload_n 16 (i := 0) dX6_answerTo_15 rfl rfl rfl ?_
      refine Ex_gI 19 (I a 2) dX6_answerTo_16 fX6_18 ha.1 rfl rfl rfl ?_
      rw [h2]
      refine Ex_icmp_ge 22 31 dX6_answerTo_19 (by decide) rfl (fun c3 => ?_) (fun c3 => ?_)
      · refine Ex_bipush 33 (v := (-2)) dX6_answerTo_31 (by decide) rfl ?_
        refine Ex_iret dX6_answerTo_33 rfl rfl (Or.inl rfl) ?_
        have e : spBest f qv = -2 := by
          have h1 : hmCal f.1 qv = false := by
            simp only [hmCal, decide_eq_false_iff_not]; exact fun q => absurd ((hm_leN (by omega)).mp c3) (by omega)
          simp [spBest, if_neg c1, h1]
        rw [← e]
        exact hQ
      · have hct : hmCal f.1 qv = true := by
          simp only [hmCal, decide_eq_true_eq]
          have h1 : ¬ qv.toInt < 0 := fun q => c2 (hm_lt0.mpr q)
          have h2 : ¬ (f.1 : Int) ≤ qv.toInt := fun q => c3 ((hm_leN (by omega)).mpr q)
          omega
        obtain ⟨w, hw, rfl⟩ := hmCal_of hct
        have hix : hmIx (nI w) = w := hmIx_nI (by omega)
        refine Ex_aload_n 23 (i := 0) dX6_answerTo_22 rfl rfl rfl ?_
        refine Ex_getR 26 dX6_answerTo_23 fX6_15 ha.1 rfl ha.2.2.2.2 rfl ?_
        refine Ex_iload_n 27 (i := 1) dX6_answerTo_26 rfl rfl rfl ?_
        refine Ex_aI 28 w (I (a + 2) w) dX6_answerTo_27 ha.2.2.1 rfl (by omega) (by decide) rfl rfl ?_
        rw [h4 w hw]
        refine Ex_goto 33 dX6_answerTo_28 (by decide) ?_
        refine Ex_iret dX6_answerTo_33 rfl rfl (Or.inl rfl) ?_
        have e : spBest f (nI w) = nI (f.2.2.getD w 0) := by
          simp only [spBest, if_neg c1, hct, hix, if_true]
        rw [← e]
        exact hQ
  · refine Ex_aload_n 6 (i := 0) dX6_answerTo_5 rfl rfl rfl ?_
    refine Ex_gI 9 (I a 3) dX6_answerTo_6 fX6_22 ha.1 rfl rfl rfl ?_
    rw [h3]
    refine Ex_iret dX6_answerTo_9 rfl rfl (Or.inl rfl) ?_
    have e : spBest f qv = f.2.1 := by
      simp only [spBest, if_pos c1]
    rw [← e]
    exact hQ
