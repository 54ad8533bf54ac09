set_option maxHeartbeats 4000000 in
theorem mc_readsCaller {d : Nat} {sh : xSh} {R : xR} {L : xL} {I : xI} {Q : xQ} {m : Nat} {T : List Nat} (hm : xModel sh R m) (hc : ∀ x, x ∈ T → x < 127) {nms : List (List Nat)} (hnl : nms.length ≤ 6) {t : hmTok} {r : List hmTok} (hA : hmAm I L m T t r) (ht : ¬ t.1 = 0) (h6 : I (m + 2) 2 = nI nms.length) (hnm : ∀ i, i < nms.length → L (m + 3) (6 + i) = hmE27 (nms.getD i []) ∧ hmWd (nms.getD i [])) (hF5 : nms.length = 6 → Q (some (.int 0)) 0 sh R L (va_up I m (va_up (I m) 9 (nI (hmFl 5 t))))) (hF : ¬ nms.length = 6 → ∀ F I' L', hmCL nms r = .inl F → 1 ≤ F → F < 20000 → hmZf m (6 + nms.length) I I' → hmZl m (6 + nms.length) L L' → I' m 9 = nI F → Q (some (.int 0)) 0 sh R L' I') (hQ : ¬ nms.length = 6 → ∀ c t' r' I' L', hmCL nms r = .inr (c, t' :: r') → hmZf m (6 + nms.length) I I' → hmZl m (6 + nms.length) L L' → I' (m + 2) 2 = nI (nms.length + 1) → (L' (m + 3) (6 + nms.length) = hmE27 c.1 ∧ I' (m + 4) (6 + nms.length) = nI c.2.1 ∧ I' (m + 5) (6 + nms.length) = nI c.2.2.1 ∧ I' (m + 6) (6 + nms.length) = c.2.2.2.1 ∧ I' (m + 7) (6 + nms.length) = nI c.2.2.2.2) → hmAm I' L' m T t' r' → Q (some (.int 1)) 0 sh R L' I') : Ex (d + 3) 0 0 MX9_readsCaller 0 sh R L I 0 [some (.ref m), none, none, none] [] Q := by
  by_cases h9 : nms.length = 6
  · refine Ex_bipush 2 (v := 6) dX9_readsCaller_0 (by decide) rfl ?_
    refine Ex_aload_n 3 (i := 0) dX9_readsCaller_2 rfl rfl rfl ?_
    refine Ex_getR 6 dX9_readsCaller_3 fX9_13 (xMs_0 hm) rfl (xMr_10 hm) rfl ?_
    refine Ex_iconst 7 (v := 2) dX9_readsCaller_6 (by decide) rfl ?_
    refine Ex_aI 8 2 (I (m + 2) 2) dX9_readsCaller_7 (xMs_2 hm) rfl (by decide) (by decide) rfl rfl ?_
    rw [h6]
    refine Ex_iadd 9 dX9_readsCaller_8 rfl ?_
    rw [show (6 : Int32) = nI 6 from rfl, hm_addN]
    refine Ex_istore_n 10 (i := 1) (ls' := [some (.ref m), some (.int (nI (6 + nms.length))), none, none]) dX9_readsCaller_9 rfl (Nat.le_of_ble_eq_true rfl) rfl rfl rfl ?_
    refine Ex_iload_n 11 (i := 1) dX9_readsCaller_10 rfl rfl rfl ?_
    refine Ex_bipush 13 (v := 12) dX9_readsCaller_11 (by decide) rfl ?_
    refine Ex_icmp_ne 16 22 dX9_readsCaller_13 (by decide) rfl (fun c1 => absurd c1 (fun q => q (by rw [h9]; rfl))) (fun c1 => ?_)
    refine Ex_aload_n 17 (i := 0) dX9_readsCaller_16 rfl rfl rfl ?_
    refine Ex_iconst 18 (v := 5) dX9_readsCaller_17 (by decide) rfl ?_
    refine Ex_callV (M' := MX9_fails) 21 [.int 5] (rest := []) dX9_readsCaller_18 lX9_193 mX9_fails rfl (xMs_0 hm) rfl (Nat.le_of_ble_eq_true rfl) (Nat.le_of_ble_eq_true rfl) rfl ?_
    refine mc_fails (k := 5) hm hA ?_
    simp only [Option.toList, List.nil_append, List.cons_append]
    refine Ex_iret dX9_readsCaller_21 rfl (by decide) (Or.inl rfl) ?_
    exact hF5 h9
  replace hF := hF h9
  replace hQ := hQ h9
  refine Ex_bipush 2 (v := 6) dX9_readsCaller_0 (by decide) rfl ?_
  refine Ex_aload_n 3 (i := 0) dX9_readsCaller_2 rfl rfl rfl ?_
  refine Ex_getR 6 dX9_readsCaller_3 fX9_13 (xMs_0 hm) rfl (xMr_10 hm) rfl ?_
  refine Ex_iconst 7 (v := 2) dX9_readsCaller_6 (by decide) rfl ?_
  refine Ex_aI 8 2 (I (m + 2) 2) dX9_readsCaller_7 (xMs_2 hm) rfl (by decide) (by decide) rfl rfl ?_
  rw [h6]
  refine Ex_iadd 9 dX9_readsCaller_8 rfl ?_
  rw [show (6 : Int32) = nI 6 from rfl, hm_addN]
  refine Ex_istore_n 10 (i := 1) (ls' := [some (.ref m), some (.int (nI (6 + nms.length))), none, none]) dX9_readsCaller_9 rfl (Nat.le_of_ble_eq_true rfl) rfl rfl rfl ?_
  refine Ex_iload_n 11 (i := 1) dX9_readsCaller_10 rfl rfl rfl ?_
  refine Ex_bipush 13 (v := 12) dX9_readsCaller_11 (by decide) rfl ?_
  refine Ex_icmp_ne 16 22 dX9_readsCaller_13 (by decide) rfl (fun c1 => ?_) (fun c1 => absurd c1 (fun q => absurd ((nI_eq (b := 12) (by omega) (by omega)).mp q) (by omega)))
  refine Ex_aload_n 23 (i := 0) dX9_readsCaller_22 rfl rfl rfl ?_
  refine Ex_callV (M' := MX9_nextToken) 26 [] (rest := []) dX9_readsCaller_23 lX9_200 mX9_nextToken rfl (xMs_0 hm) rfl (Nat.le_of_ble_eq_true rfl) (Nat.le_of_ble_eq_true rfl) rfl ?_
  refine mc_nxt hm hA hc ht (fun t1 r1 I1 L1 er1 gs1 gt1 hA1 => ?_)
  simp only [Option.toList, List.nil_append, List.cons_append]
  have g1 : hmZf m (6 + nms.length) I I1 := hmZf.nf gs1
  have l1 : hmZl m (6 + nms.length) L L1 := hmZl.nl gt1
  have o1 : I1 (m + 2) 2 = nI nms.length := by rw [gs1.1 (m + 2) (by omega)]; exact h6
  have hN1 : ∀ i, i < nms.length → L1 (m + 3) (6 + i) = hmE27 (nms.getD i []) ∧ hmWd (nms.getD i []) := fun i hi => by rw [gt1.1 (m + 3) (by omega)]; exact hnm i hi
  refine Ex_aload_n 27 (i := 0) dX9_readsCaller_26 rfl rfl rfl ?_
  refine Ex_callV (M' := MX9_isKept) 30 [] (rest := []) dX9_readsCaller_27 lX9_251 mX9_isKept rfl (xMs_0 hm) rfl (Nat.le_of_ble_eq_true rfl) (Nat.le_of_ble_eq_true rfl) rfl ?_
  refine mc_isKept hm hA1 ?_
  simp only [Option.toList, List.cons_append, List.nil_append]
  refine Ex_if_eq 33 39 dX9_readsCaller_30 (by decide) rfl (fun c2 => ?_) (fun c2 => ?_)
  · have hnt : hmNm t1 = true := by
      have q := hmB_eq c2
      cases z : hmNm t1 with
      | true => rfl
      | false => rw [z] at q; exact absurd q (by decide)
    have t2' : t1.1 = 2 := (of_decide_eq_true hnt).1
    refine Ex_aload_n 40 (i := 0) dX9_readsCaller_39 rfl rfl rfl ?_
    refine Ex_iconst 41 (v := 1) dX9_readsCaller_40 (by decide) rfl ?_
    refine Ex_callV (M' := MX9_callerNamed) 44 [.int 1] (rest := []) dX9_readsCaller_41 lX9_255 mX9_callerNamed rfl (xMs_0 hm) rfl (Nat.le_of_ble_eq_true rfl) (Nat.le_of_ble_eq_true rfl) rfl ?_
    refine mc_callerNamed1 hm hA1 t2' hnl o1 hN1 ?_
    simp only [Option.toList, List.cons_append, List.nil_append]
    refine Ex_if_lt 47 53 dX9_readsCaller_44 (by decide) rfl (fun c3 => ?_) (fun c3 => ?_)
    · have hin : ¬ t1.2.1 ∈ nms := fun z => by
        have q := c3
        unfold hmFi at q
        rw [if_pos z] at q
        exact absurd q (Int32.not_lt.mpr (hm_nI0 (by have := List.idxOf_lt_length_iff.mpr z; omega)))
      refine Ex_aload_n 54 (i := 0) dX9_readsCaller_53 rfl rfl rfl ?_
      refine Ex_gL 57 (L1 m 7) dX9_readsCaller_54 fX9_147 (xMs_0 hm) rfl rfl ?_
      rw [hA1.2.2.2.1 t2']
      refine Ex_lstore_n 58 (i := 2) (ls' := [some (.ref m), some (.int (nI (6 + nms.length))), some (.long (hmE27 t1.2.1)), none]) dX9_readsCaller_57 rfl (Nat.le_of_ble_eq_true rfl) rfl rfl rfl ?_
      refine Ex_aload_n 59 (i := 0) dX9_readsCaller_58 rfl rfl rfl ?_
      refine Ex_callV (M' := MX9_nextToken) 62 [] (rest := []) dX9_readsCaller_59 lX9_200 mX9_nextToken rfl (xMs_0 hm) rfl (Nat.le_of_ble_eq_true rfl) (Nat.le_of_ble_eq_true rfl) rfl ?_
      refine mc_nxt hm hA1 hc (by omega) (fun t2 r2 I2 L2 er2 gs2 gt2 hA2 => ?_)
      simp only [Option.toList, List.nil_append, List.cons_append]
      have g2 := g1.tr (hmZf.nf (n := (6 + nms.length)) gs2)
      have l2 := l1.tr (hmZl.nl (n := (6 + nms.length)) gt2)
      have o2 : I2 (m + 2) 2 = nI nms.length := by rw [gs2.1 (m + 2) (by omega)]; exact o1
      have e2 : hmCL nms r = hmC2 t1.2.1 (t2 :: r2) := by rw [er1, ← er2]; exact (if_pos hnt).trans (if_neg hin)
      refine Ex_aload_n 63 (i := 0) dX9_readsCaller_62 rfl rfl rfl ?_
      refine Ex_getR 66 dX9_readsCaller_63 fX9_20 (xMs_0 hm) rfl (xMr_12 hm) rfl ?_
      refine Ex_iload_n 67 (i := 1) dX9_readsCaller_66 rfl rfl rfl ?_
      refine Ex_aload_n 68 (i := 0) dX9_readsCaller_67 rfl rfl rfl ?_
      refine Ex_ldc2 71 (v := 8740238) dX9_readsCaller_68 kX9_236 rfl ?_
      refine Ex_callV (M' := MX9_isWord) 74 [.long 8740238] (rest := [.int (nI (6 + nms.length)), .ref (m + 4)]) dX9_readsCaller_71 lX9_185 mX9_isWord rfl (xMs_0 hm) rfl (Nat.le_of_ble_eq_true rfl) (Nat.le_of_ble_eq_true rfl) rfl ?_
      refine mc_isWord hm hA2 (l := wPlain) (by decide +kernel) (by unfold hmWd; decide) ?_
      simp only [Option.toList, List.cons_append, List.nil_append]
      refine Ex_if_eq 77 81 dX9_readsCaller_74 (by decide) rfl (fun c4 => ?_) (fun c4 => ?_)
      · refine Ex_aload_n 82 (i := 0) dX9_readsCaller_81 rfl rfl rfl ?_
        refine Ex_ldc2 85 (v := 14092) dX9_readsCaller_82 kX9_238 rfl ?_
        refine Ex_callV (M' := MX9_isWord) 88 [.long 14092] (rest := [.int (nI (6 + nms.length)), .ref (m + 4)]) dX9_readsCaller_85 lX9_185 mX9_isWord rfl (xMs_0 hm) rfl (Nat.le_of_ble_eq_true rfl) (Nat.le_of_ble_eq_true rfl) rfl ?_
        refine mc_isWord hm hA2 (l := wShy) (by decide +kernel) (by unfold hmWd; decide) ?_
        simp only [Option.toList, List.cons_append, List.nil_append]
        refine Ex_if_eq 91 95 dX9_readsCaller_88 (by decide) rfl (fun c5 => ?_) (fun c5 => ?_)
        · refine Ex_aload_n 96 (i := 0) dX9_readsCaller_95 rfl rfl rfl ?_
          refine Ex_ldc2 99 (v := 108802051) dX9_readsCaller_96 kX9_240 rfl ?_
          refine Ex_callV (M' := MX9_isWord) 102 [.long 108802051] (rest := [.int (nI (6 + nms.length)), .ref (m + 4)]) dX9_readsCaller_99 lX9_185 mX9_isWord rfl (xMs_0 hm) rfl (Nat.le_of_ble_eq_true rfl) (Nat.le_of_ble_eq_true rfl) rfl ?_
          refine mc_isWord hm hA2 (l := wGossip) (by decide +kernel) (by unfold hmWd; decide) ?_
          simp only [Option.toList, List.cons_append, List.nil_append]
          refine Ex_if_eq 105 109 dX9_readsCaller_102 (by decide) rfl (fun c6 => ?_) (fun c6 => ?_)
          · refine Ex_aload_n 110 (i := 0) dX9_readsCaller_109 rfl rfl rfl ?_
            refine Ex_ldc2 113 (v := 82410) dX9_readsCaller_110 kX9_242 rfl ?_
            refine Ex_callV (M' := MX9_isWord) 116 [.long 82410] (rest := [.int (nI (6 + nms.length)), .ref (m + 4)]) dX9_readsCaller_113 lX9_185 mX9_isWord rfl (xMs_0 hm) rfl (Nat.le_of_ble_eq_true rfl) (Nat.le_of_ble_eq_true rfl) rfl ?_
            refine mc_isWord hm hA2 (l := wDeaf) (by decide +kernel) (by unfold hmWd; decide) ?_
            simp only [Option.toList, List.cons_append, List.nil_append]
            refine Ex_if_eq 119 123 dX9_readsCaller_116 (by decide) rfl (fun c7 => ?_) (fun c7 => ?_)
            · refine Ex_iconst 124 (v := (-1)) dX9_readsCaller_123 (by decide) rfl ?_
              have ev : hmOi (hmKk t2) = -1 := by
                have n0 := hmB_eq c4
                have n1 := hmB_eq c5
                have n2 := hmB_eq c6
                have n3 := hmB_eq c7
                have hk : hmKk t2 = none := by
                  unfold hmKk hmKl
                  by_cases z : t2.1 = 2
                  · have f : ∀ l, hmIsW t2 l = false → ¬ t2.2.1 = l := fun l q y => by simp [hmIsW, z, y] at q
                    rw [if_pos z, if_neg (f _ n0), if_neg (f _ n1), if_neg (f _ n2), if_neg (f _ n3)]
                  · rw [if_neg z]
                rw [hk]
                rfl
              refine Ex_st (st' := [.int (hmOi (hmKk t2)), .int (nI (6 + nms.length)), .ref (m + 4)]) (by rw [ev]) ?_
              exact mc_readsCaller2 hm hc (by omega) hA2 g2 l2 o2 e2 hF hQ
            · refine Ex_iconst 120 (v := 3) dX9_readsCaller_119 (by decide) rfl ?_
              refine Ex_goto 124 dX9_readsCaller_120 (by decide) ?_
              have ev : hmOi (hmKk t2) = 3 := by
                have y := of_decide_eq_true (hmB_ne c7)
                have hk : hmKk t2 = some 3 := by
                  unfold hmKk hmKl
                  rw [if_pos y.1, y.2]
                  decide
                rw [hk]
                rfl
              refine Ex_st (st' := [.int (hmOi (hmKk t2)), .int (nI (6 + nms.length)), .ref (m + 4)]) (by rw [ev]) ?_
              exact mc_readsCaller2 hm hc (by omega) hA2 g2 l2 o2 e2 hF hQ
          · refine Ex_iconst 106 (v := 2) dX9_readsCaller_105 (by decide) rfl ?_
            refine Ex_goto 124 dX9_readsCaller_106 (by decide) ?_
            have ev : hmOi (hmKk t2) = 2 := by
              have y := of_decide_eq_true (hmB_ne c6)
              have hk : hmKk t2 = some 2 := by
                unfold hmKk hmKl
                rw [if_pos y.1, y.2]
                decide
              rw [hk]
              rfl
            refine Ex_st (st' := [.int (hmOi (hmKk t2)), .int (nI (6 + nms.length)), .ref (m + 4)]) (by rw [ev]) ?_
            exact mc_readsCaller2 hm hc (by omega) hA2 g2 l2 o2 e2 hF hQ
        · refine Ex_iconst 92 (v := 1) dX9_readsCaller_91 (by decide) rfl ?_
          refine Ex_goto 124 dX9_readsCaller_92 (by decide) ?_
          have ev : hmOi (hmKk t2) = 1 := by
            have y := of_decide_eq_true (hmB_ne c5)
            have hk : hmKk t2 = some 1 := by
              unfold hmKk hmKl
              rw [if_pos y.1, y.2]
              decide
            rw [hk]
            rfl
          refine Ex_st (st' := [.int (hmOi (hmKk t2)), .int (nI (6 + nms.length)), .ref (m + 4)]) (by rw [ev]) ?_
          exact mc_readsCaller2 hm hc (by omega) hA2 g2 l2 o2 e2 hF hQ
      · refine Ex_iconst 78 (v := 0) dX9_readsCaller_77 (by decide) rfl ?_
        refine Ex_goto 124 dX9_readsCaller_78 (by decide) ?_
        have ev : hmOi (hmKk t2) = 0 := by
          have y := of_decide_eq_true (hmB_ne c4)
          have hk : hmKk t2 = some 0 := by
            unfold hmKk hmKl
            rw [if_pos y.1, y.2]
            decide
          rw [hk]
          rfl
        refine Ex_st (st' := [.int (hmOi (hmKk t2)), .int (nI (6 + nms.length)), .ref (m + 4)]) (by rw [ev]) ?_
        exact mc_readsCaller2 hm hc (by omega) hA2 g2 l2 o2 e2 hF hQ
    · have hin : t1.2.1 ∈ nms := by
        by_cases z : t1.2.1 ∈ nms
        · exact z
        · have q := c3
          unfold hmFi at q
          rw [if_neg z] at q
          exact absurd (by decide) q
      refine Ex_aload_n 48 (i := 0) dX9_readsCaller_47 rfl rfl rfl ?_
      refine Ex_iconst 49 (v := 3) dX9_readsCaller_48 (by decide) rfl ?_
      refine Ex_callV (M' := MX9_fails) 52 [.int 3] (rest := []) dX9_readsCaller_49 lX9_193 mX9_fails rfl (xMs_0 hm) rfl (Nat.le_of_ble_eq_true rfl) (Nat.le_of_ble_eq_true rfl) rfl ?_
      refine mc_fails (k := 3) hm hA1 ?_
      simp only [Option.toList, List.nil_append, List.cons_append]
      refine Ex_iret dX9_readsCaller_52 rfl (by decide) (Or.inl rfl) ?_
      have hfl := hmFl_lt (k := 3) (t := t1) (by omega) (by omega) hA1.pl
      exact hF (hmFl 3 t1) _ L1 (by rw [er1]; exact (if_pos hnt).trans (if_pos hin)) hfl.1 hfl.2 (g1.tr hmZf.fl) (l1) (by rw [va_up_self, va_up_self])
  · refine Ex_aload_n 34 (i := 0) dX9_readsCaller_33 rfl rfl rfl ?_
    refine Ex_iconst 35 (v := 1) dX9_readsCaller_34 (by decide) rfl ?_
    refine Ex_callV (M' := MX9_fails) 38 [.int 1] (rest := []) dX9_readsCaller_35 lX9_193 mX9_fails rfl (xMs_0 hm) rfl (Nat.le_of_ble_eq_true rfl) (Nat.le_of_ble_eq_true rfl) rfl ?_
    refine mc_fails (k := 1) hm hA1 ?_
    simp only [Option.toList, List.nil_append, List.cons_append]
    refine Ex_iret dX9_readsCaller_38 rfl (by decide) (Or.inl rfl) ?_
    have hfl := hmFl_lt (k := 1) (t := t1) (by omega) (by omega) hA1.pl
    exact hF (hmFl 1 t1) _ L1 (by rw [er1]; exact if_neg (by have q := hmB_ne c2; exact fun z => by rw [z] at q; exact absurd q (by decide))) hfl.1 hfl.2 (g1.tr hmZf.fl) (l1) (by rw [va_up_self, va_up_self])
set_option maxHeartbeats 4000000 in
theorem mc_readsTakes {d : Nat} {sh : xSh} {R : xR} {L : xL} {I : xI} {Q : xQ} {m : Nat} {T : List Nat} (hm : xModel sh R m) (hc : ∀ x, x ∈ T → x < 127) {t : hmTok} {r : List hmTok} (hA : hmAm I L m T t r) (ht : ¬ t.1 = 0) {D : hmDr} {tk : Bool} (htk : I m 20 = hmB tk) (hF3 : tk = true → Q (some (.int 0)) 0 sh R L (va_up I m (va_up (I m) 9 (nI (hmFl 3 t))))) (hF : tk = false → ∀ F I' L', hmBd (hmXn 1 20 r) (fun p => hmT2 D p.1 p.2) = .inl F → 1 ≤ F → F < 20000 → (∀ x, x ≠ m → x ≠ m + 2 → I' x = I x) → (∀ k, k ≠ 4 → k ≠ 5 → k ≠ 6 → k ≠ 8 → k ≠ 9 → k ≠ 33 → k ≠ 20 → I' m k = I m k) → (∀ j, j ≠ 3 → I' (m + 2) j = I (m + 2) j) → hmNl m L L' → I' m 9 = nI F → Q (some (.int 0)) 0 sh R L' I') (hQ : tk = false → ∀ n t' r' I' L', hmBd (hmXn 1 20 r) (fun p => hmT2 D p.1 p.2) = .inr ((D.1, some n, D.2.2), t' :: r') → (∀ x, x ≠ m → x ≠ m + 2 → I' x = I x) → (∀ k, k ≠ 4 → k ≠ 5 → k ≠ 6 → k ≠ 8 → k ≠ 9 → k ≠ 33 → k ≠ 20 → I' m k = I m k) → (∀ j, j ≠ 3 → I' (m + 2) j = I (m + 2) j) → I' m 20 = 1 → I' (m + 2) 3 = nI n → hmNl m L L' → hmAm I' L' m T t' r' → Q (some (.int 1)) 0 sh R L' I') : Ex (d + 3) 0 0 MX9_readsTakes 0 sh R L I 0 [some (.ref m)] [] Q := by
  cases tk with
  | true =>
    refine Ex_aload_n 1 (i := 0) dX9_readsTakes_0 rfl rfl rfl ?_
    refine Ex_gI 4 (I m 20) dX9_readsTakes_1 fX9_271 (xMs_0 hm) rfl rfl rfl ?_
    rw [show I m 20 = 1 from htk]
    refine Ex_if_eq 7 13 dX9_readsTakes_4 (by decide) rfl (fun c1 => absurd c1 (by decide)) (fun c1 => ?_)
    refine Ex_aload_n 8 (i := 0) dX9_readsTakes_7 rfl rfl rfl ?_
    refine Ex_iconst 9 (v := 3) dX9_readsTakes_8 (by decide) rfl ?_
    refine Ex_callV (M' := MX9_fails) 12 [.int 3] (rest := []) dX9_readsTakes_9 lX9_193 mX9_fails rfl (xMs_0 hm) rfl (Nat.le_of_ble_eq_true rfl) (Nat.le_of_ble_eq_true rfl) rfl ?_
    refine mc_fails (k := 3) hm hA ?_
    simp only [Option.toList, List.nil_append, List.cons_append]
    refine Ex_iret dX9_readsTakes_12 rfl (by decide) (Or.inl rfl) ?_
    exact hF3 rfl
  | false =>
    refine Ex_aload_n 1 (i := 0) dX9_readsTakes_0 rfl rfl rfl ?_
    refine Ex_gI 4 (I m 20) dX9_readsTakes_1 fX9_271 (xMs_0 hm) rfl rfl rfl ?_
    rw [show I m 20 = 0 from htk]
    refine Ex_if_eq 7 13 dX9_readsTakes_4 (by decide) rfl (fun c1 => ?_) (fun c1 => absurd c1 (fun q => q (by decide)))
    refine Ex_aload_n 14 (i := 0) dX9_readsTakes_13 rfl rfl rfl ?_
    refine Ex_iconst 15 (v := 1) dX9_readsTakes_14 (by decide) rfl ?_
    refine Ex_pI 18 (I m) (va_up I m (va_up (I m) 20 1)) dX9_readsTakes_15 fX9_271 rfl (xMs_0 hm) (by decide) (fun _ => rfl) rfl rfl rfl rfl ?_
    refine Ex_aload_n 19 (i := 0) dX9_readsTakes_18 rfl rfl rfl ?_
    refine Ex_callV (M' := MX9_nextToken) 22 [] (rest := []) dX9_readsTakes_19 lX9_200 mX9_nextToken rfl (xMs_0 hm) rfl (Nat.le_of_ble_eq_true rfl) (Nat.le_of_ble_eq_true rfl) rfl ?_
    have hA0 : hmAm (va_up I m (va_up (I m) 20 1)) L m T t r := hA.kept (fun k hk => by rw [va_up_self, va_up_ne _ _ (by omega)]) (va_up_ne _ _ (by omega)) rfl
    refine mc_nxt hm hA0 hc ht (fun t1 r1 I1 L1 er1 gs1 gt1 hA1 => ?_)
    simp only [Option.toList, List.nil_append, List.cons_append]
    refine Ex_aload_n 23 (i := 0) dX9_readsTakes_22 rfl rfl rfl ?_
    refine Ex_iconst 24 (v := 1) dX9_readsTakes_23 (by decide) rfl ?_
    refine Ex_bipush 26 (v := 20) dX9_readsTakes_24 (by decide) rfl ?_
    refine Ex_callV (M' := MX9_needsNumber) 29 [.int 1, .int 20] (rest := []) dX9_readsTakes_26 lX9_261 mX9_needsNumber rfl (xMs_0 hm) rfl (Nat.le_of_ble_eq_true rfl) (Nat.le_of_ble_eq_true rfl) rfl ?_
    refine mc_needsNumber (lo := 1) (hi := 20) hm hA1 hc (by decide) (by decide) (fun hb => ?_) (fun hb hb4 => ?_) (fun hb hb1 hb2 t2 r2 I2 L2 er2 gs2 gv2 gt2 hA2 => ?_)
    · simp only [Option.toList, List.nil_append, List.cons_append]
      refine Ex_if_ne 32 34 dX9_readsTakes_29 (by decide) rfl (fun c2 => absurd c2 (fun q => q (by decide))) (fun c2 => ?_)
      refine Ex_iconst 33 (v := 0) dX9_readsTakes_32 (by decide) rfl ?_
      refine Ex_iret dX9_readsTakes_33 rfl (by decide) (Or.inl rfl) ?_
      have hfl := hmFl_lt (k := 1) (t := t1) (by omega) (by omega) hA1.pl
      exact hF rfl (hmFl 1 t1) _ L1 (by rw [er1, hmXn_no hb]; rfl) hfl.1 hfl.2 (fun x p _ => by rw [va_up_ne _ _ p, gs1.1 x p, va_up_ne _ _ p]) (fun k a b c d e _ g => by rw [va_up_self, va_up_ne _ _ e, gs1.2 k a b c d, va_up_self, va_up_ne _ _ g]) (fun j _ => by rw [va_up_ne _ _ (by omega), gs1.1 (m + 2) (by omega), va_up_ne _ _ (by omega)]) (gt1) (by rw [va_up_self, va_up_self])
    · simp only [Option.toList, List.nil_append, List.cons_append]
      refine Ex_if_ne 32 34 dX9_readsTakes_29 (by decide) rfl (fun c3 => absurd c3 (fun q => q (by decide))) (fun c3 => ?_)
      refine Ex_iconst 33 (v := 0) dX9_readsTakes_32 (by decide) rfl ?_
      refine Ex_iret dX9_readsTakes_33 rfl (by decide) (Or.inl rfl) ?_
      have hfl := hmFl_lt (k := 4) (t := t1) (by omega) (by omega) hA1.pl
      exact hF rfl (hmFl 4 t1) _ L1 (by rw [er1, hmXn_out hb hb4]; rfl) hfl.1 hfl.2 (fun x p _ => by rw [va_up_ne _ _ p, gs1.1 x p, va_up_ne _ _ p]) (fun k a b c d e _ g => by rw [va_up_self, va_up_ne _ _ e, gs1.2 k a b c d, va_up_self, va_up_ne _ _ g]) (fun j _ => by rw [va_up_ne _ _ (by omega), gs1.1 (m + 2) (by omega), va_up_ne _ _ (by omega)]) (gt1) (by rw [va_up_self, va_up_self])
    · simp only [Option.toList, List.nil_append, List.cons_append]
      refine Ex_if_ne 32 34 dX9_readsTakes_29 (by decide) rfl (fun c4 => ?_) (fun c4 => absurd c4 (by decide))
      refine Ex_aload_n 35 (i := 0) dX9_readsTakes_34 rfl rfl rfl ?_
      refine Ex_getR 38 dX9_readsTakes_35 fX9_13 (xMs_0 hm) rfl (xMr_10 hm) rfl ?_
      refine Ex_iconst 39 (v := 3) dX9_readsTakes_38 (by decide) rfl ?_
      refine Ex_aload_n 40 (i := 0) dX9_readsTakes_39 rfl rfl rfl ?_
      refine Ex_gI 43 (I2 m 33) dX9_readsTakes_40 fX9_248 (xMs_0 hm) rfl rfl rfl ?_
      rw [gv2]
      refine Ex_sI 44 3 (I2 (m + 2)) (va_up I2 (m + 2) (va_up (I2 (m + 2)) 3 (nI (hmDec t1.2.1)))) dX9_readsTakes_43 (xMs_2 hm) rfl (by decide) (by decide) rfl rfl rfl ?_
      have hA2x : hmAm (va_up I2 (m + 2) (va_up (I2 (m + 2)) 3 (nI (hmDec t1.2.1)))) L2 m T t2 r2 := hA2.kept (fun k hk => by rw [va_up_ne _ _ (by omega)]) (va_up_ne _ _ (by omega)) rfl
      refine Ex_aload_n 45 (i := 0) dX9_readsTakes_44 rfl rfl rfl ?_
      refine Ex_callV (M' := MX9_closes) 48 [] (rest := []) dX9_readsTakes_45 lX9_268 mX9_closes rfl (xMs_0 hm) rfl (Nat.le_of_ble_eq_true rfl) (Nat.le_of_ble_eq_true rfl) rfl ?_
      refine mc_closes hm hA2x hc (fun hb3 => ?_) (fun hb3 t3 r3 I3 L3 er3 gs3 gt3 hA3 => ?_)
      · simp only [Option.toList, List.nil_append, List.cons_append]
        refine Ex_iret dX9_readsTakes_48 rfl (by decide) (Or.inl rfl) ?_
        have hfl := hmFl_lt (k := 1) (t := t2) (by omega) (by omega) hA2.pl
        exact hF rfl (hmFl 1 t2) _ L2 (by rw [er1, hmXn_yes hb hb1 hb2, er2]; show hmT2 D _ (t2 :: r2) = _; unfold hmT2; rw [hmXs_no hb3]; rfl) hfl.1 hfl.2 (fun x p q => by rw [va_up_ne _ _ p, va_up_ne _ _ q, gs2.1 x p, gs1.1 x p, va_up_ne _ _ p]) (fun k a b c d e f g => by rw [va_up_self, va_up_ne _ _ e, va_up_ne _ _ (by omega), gs2.2 k a b c d f, gs1.2 k a b c d, va_up_self, va_up_ne _ _ g]) (fun j p => by rw [va_up_ne _ _ (by omega), va_up_self, va_up_ne _ _ p, gs2.1 (m + 2) (by omega), gs1.1 (m + 2) (by omega), va_up_ne _ _ (by omega)]) (gt1.tr gt2) (by rw [va_up_self, va_up_self])
      · simp only [Option.toList, List.nil_append, List.cons_append]
        refine Ex_iret dX9_readsTakes_48 rfl (by decide) (Or.inl rfl) ?_
        exact hQ rfl (hmDec t1.2.1) t3 r3 I3 L3 (by rw [er1, hmXn_yes hb hb1 hb2, er2]; show hmT2 D _ (t2 :: r2) = _; unfold hmT2; rw [hmXs_yes hb3, er3]; rfl) (fun x p q => by rw [gs3.1 x p, va_up_ne _ _ q, gs2.1 x p, gs1.1 x p, va_up_ne _ _ p]) (fun k a b c d e f g => by rw [gs3.2 k a b c d, va_up_ne _ _ (by omega), gs2.2 k a b c d f, gs1.2 k a b c d, va_up_self, va_up_ne _ _ g]) (fun j p => by rw [gs3.1 (m + 2) (by omega), va_up_self, va_up_ne _ _ p, gs2.1 (m + 2) (by omega), gs1.1 (m + 2) (by omega), va_up_ne _ _ (by omega)]) (by rw [gs3.2 20 (by omega) (by omega) (by omega) (by omega), va_up_ne _ _ (by omega), gs2.2 20 (by omega) (by omega) (by omega) (by omega) (by omega), gs1.2 20 (by omega) (by omega) (by omega) (by omega), va_up_self, va_up_self]) (by rw [gs3.1 (m + 2) (by omega), va_up_self, va_up_self]) ((gt1.tr gt2).tr gt3) hA3
