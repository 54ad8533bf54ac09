set_option maxHeartbeats 4000000 in
theorem mc_opens {d : Nat} {sh : xSh} {R : xR} {L : xL} {I : xI} {Q : xQ} {m dd : Nat} (hm : xModel sh R m) (hd : dd < 7) (hQ : ∀ I', hmFw m I I' → hmK I' m = hmOpens (hmK I m) dd → Q none 0 sh R L I') : Ex d 0 0 MX9_opens 0 sh R L I 0 [some (.ref m), some (.int (nI dd))] [] Q := by
  refine Ex_aload_n 1 (i := 0) dX9_opens_0 rfl rfl rfl ?_
  refine Ex_getR 4 dX9_opens_1 fX9_51 (xMs_0 hm) rfl (xMr_24 hm) rfl ?_
  refine Ex_iload_n 5 (i := 1) dX9_opens_4 rfl rfl rfl ?_
  refine Ex_iconst 6 (v := 0) dX9_opens_5 (by decide) rfl ?_
  refine Ex_sI 7 dd (I (m + 14)) (va_up I (m + 14) (va_up (I (m + 14)) dd 0)) dX9_opens_6 (xMs_14 hm) rfl (by omega) (by decide) rfl rfl rfl ?_
  refine Ex_aload_n 8 (i := 0) dX9_opens_7 rfl rfl rfl ?_
  refine Ex_getR 11 dX9_opens_8 fX9_57 (xMs_0 hm) rfl (xMr_26 hm) rfl ?_
  refine Ex_iload_n 12 (i := 1) dX9_opens_11 rfl rfl rfl ?_
  refine Ex_iconst 13 (v := 0) dX9_opens_12 (by decide) rfl ?_
  refine Ex_sI 14 dd (I (m + 16)) (va_up (va_up I (m + 14) (va_up (I (m + 14)) dd 0)) (m + 16) (va_up (I (m + 16)) dd 0)) dX9_opens_13 (xMs_16 hm) rfl (by omega) (by decide) (va_up_ne _ _ (by omega)) rfl rfl ?_
  refine Ex_aload_n 15 (i := 0) dX9_opens_14 rfl rfl rfl ?_
  refine Ex_getR 18 dX9_opens_15 fX9_60 (xMs_0 hm) rfl (xMr_27 hm) rfl ?_
  refine Ex_iload_n 19 (i := 1) dX9_opens_18 rfl rfl rfl ?_
  refine Ex_iconst 20 (v := 0) dX9_opens_19 (by decide) rfl ?_
  refine Ex_sI 21 dd (I (m + 17)) (va_up (va_up (va_up I (m + 14) (va_up (I (m + 14)) dd 0)) (m + 16) (va_up (I (m + 16)) dd 0)) (m + 17) (va_up (I (m + 17)) dd 0)) dX9_opens_20 (xMs_17 hm) rfl (by omega) (by decide) ((va_up_ne _ _ (by omega)).trans (va_up_ne _ _ (by omega))) rfl rfl ?_
  refine Ex_aload_n 22 (i := 0) dX9_opens_21 rfl rfl rfl ?_
  refine Ex_getR 25 dX9_opens_22 fX9_63 (xMs_0 hm) rfl (xMr_28 hm) rfl ?_
  refine Ex_iload_n 26 (i := 1) dX9_opens_25 rfl rfl rfl ?_
  refine Ex_bipush 28 (v := 20) dX9_opens_26 (by decide) rfl ?_
  refine Ex_sI 29 dd (I (m + 18)) (va_up (va_up (va_up (va_up I (m + 14) (va_up (I (m + 14)) dd 0)) (m + 16) (va_up (I (m + 16)) dd 0)) (m + 17) (va_up (I (m + 17)) dd 0)) (m + 18) (va_up (I (m + 18)) dd 20)) dX9_opens_28 (xMs_18 hm) rfl (by omega) (by decide) ((va_up_ne _ _ (by omega)).trans ((va_up_ne _ _ (by omega)).trans (va_up_ne _ _ (by omega)))) rfl rfl ?_
  refine Ex_aload_n 30 (i := 0) dX9_opens_29 rfl rfl rfl ?_
  refine Ex_getR 33 dX9_opens_30 fX9_69 (xMs_0 hm) rfl (xMr_30 hm) rfl ?_
  refine Ex_iload_n 34 (i := 1) dX9_opens_33 rfl rfl rfl ?_
  refine Ex_iconst 35 (v := 0) dX9_opens_34 (by decide) rfl ?_
  refine Ex_sI 36 dd (I (m + 20)) (va_up (va_up (va_up (va_up (va_up I (m + 14) (va_up (I (m + 14)) dd 0)) (m + 16) (va_up (I (m + 16)) dd 0)) (m + 17) (va_up (I (m + 17)) dd 0)) (m + 18) (va_up (I (m + 18)) dd 20)) (m + 20) (va_up (I (m + 20)) dd 0)) dX9_opens_35 (xMs_20 hm) rfl (by omega) (by decide) ((va_up_ne _ _ (by omega)).trans ((va_up_ne _ _ (by omega)).trans ((va_up_ne _ _ (by omega)).trans (va_up_ne _ _ (by omega))))) rfl rfl ?_
  refine Ex_ret0 dX9_opens_36 rfl (Or.inl rfl) ?_
  exact hQ _ (hmFw.up (hmFw.up (hmFw.up (hmFw.up (hmFw.up hmFw.rf (by omega)) (by omega)) (by omega)) (by omega)) (by omega)) (hmK_eq ((va_up_ne _ _ (by omega)).trans ((va_up_ne _ _ (by omega)).trans ((va_up_ne _ _ (by omega)).trans ((va_up_ne _ _ (by omega)).trans (va_up_ne _ _ (by omega)))))) ((va_up_ne _ _ (by omega)).trans ((va_up_ne _ _ (by omega)).trans ((va_up_ne _ _ (by omega)).trans ((va_up_ne _ _ (by omega)).trans (va_up_self _ _ _))))) ((va_up_ne _ _ (by omega)).trans ((va_up_ne _ _ (by omega)).trans ((va_up_ne _ _ (by omega)).trans ((va_up_ne _ _ (by omega)).trans (va_up_ne _ _ (by omega)))))) ((va_up_ne _ _ (by omega)).trans ((va_up_ne _ _ (by omega)).trans ((va_up_ne _ _ (by omega)).trans (va_up_self _ _ _)))) ((va_up_ne _ _ (by omega)).trans ((va_up_ne _ _ (by omega)).trans (va_up_self _ _ _))) ((va_up_ne _ _ (by omega)).trans (va_up_self _ _ _)) ((va_up_ne _ _ (by omega)).trans ((va_up_ne _ _ (by omega)).trans ((va_up_ne _ _ (by omega)).trans ((va_up_ne _ _ (by omega)).trans (va_up_ne _ _ (by omega)))))) (va_up_self _ _ _) ((va_up_ne _ _ (by omega)).trans ((va_up_ne _ _ (by omega)).trans ((va_up_ne _ _ (by omega)).trans ((va_up_ne _ _ (by omega)).trans (va_up_ne _ _ (by omega)))))))
set_option maxHeartbeats 4000000 in
theorem mc_sums {d : Nat} {sh : xSh} {R : xR} {L : xL} {I : xI} {Q : xQ} {m dd : Nat} (hm : xModel sh R m) (hd : dd < 7) (hQ : ∀ I', hmFw m I I' → hmK I' m = hmSums (hmK I m) dd → Q none 0 sh R L I') : Ex d 0 0 MX9_sums 0 sh R L I 0 [some (.ref m), some (.int (nI dd))] [] Q := by
  refine Ex_aload_n 1 (i := 0) dX9_sums_0 rfl rfl rfl ?_
  refine Ex_getR 4 dX9_sums_1 fX9_60 (xMs_0 hm) rfl (xMr_27 hm) rfl ?_
  refine Ex_iload_n 5 (i := 1) dX9_sums_4 rfl rfl rfl ?_
  refine Ex_aload_n 6 (i := 0) dX9_sums_5 rfl rfl rfl ?_
  refine Ex_getR 9 dX9_sums_6 fX9_63 (xMs_0 hm) rfl (xMr_28 hm) rfl ?_
  refine Ex_iload_n 10 (i := 1) dX9_sums_9 rfl rfl rfl ?_
  refine Ex_aI 11 dd (I (m + 18) dd) dX9_sums_10 (xMs_18 hm) rfl (by omega) (by decide) rfl rfl ?_
  refine Ex_bipush 13 (v := 21) dX9_sums_11 (by decide) rfl ?_
  refine Ex_icmp_ne 16 32 dX9_sums_13 (by decide) rfl (fun c1 => ?_) (fun c1 => ?_)
  · refine Ex_aload_n 33 (i := 0) dX9_sums_32 rfl rfl rfl ?_
    refine Ex_getR 36 dX9_sums_33 fX9_60 (xMs_0 hm) rfl (xMr_27 hm) rfl ?_
    refine Ex_iload_n 37 (i := 1) dX9_sums_36 rfl rfl rfl ?_
    refine Ex_aI 38 dd (I (m + 17) dd) dX9_sums_37 (xMs_17 hm) rfl (by omega) (by decide) rfl rfl ?_
    refine Ex_aload_n 39 (i := 0) dX9_sums_38 rfl rfl rfl ?_
    refine Ex_getR 42 dX9_sums_39 fX9_66 (xMs_0 hm) rfl (xMr_29 hm) rfl ?_
    refine Ex_iload_n 43 (i := 1) dX9_sums_42 rfl rfl rfl ?_
    refine Ex_aI 44 dd (I (m + 19) dd) dX9_sums_43 (xMs_19 hm) rfl (by omega) (by decide) rfl rfl ?_
    refine Ex_iadd 45 dX9_sums_44 rfl ?_
    refine Ex_sI 46 dd (I (m + 17)) (va_up I (m + 17) (va_up (I (m + 17)) dd ((I (m + 17) dd) + (I (m + 19) dd)))) dX9_sums_45 (xMs_17 hm) rfl (by omega) (by decide) rfl rfl rfl ?_
    refine Ex_aload_n 47 (i := 0) dX9_sums_46 rfl rfl rfl ?_
    refine Ex_getR 50 dX9_sums_47 fX9_69 (xMs_0 hm) rfl (xMr_30 hm) rfl ?_
    refine Ex_iload_n 51 (i := 1) dX9_sums_50 rfl rfl rfl ?_
    refine Ex_iconst 52 (v := 0) dX9_sums_51 (by decide) rfl ?_
    refine Ex_sI 53 dd (I (m + 20)) (va_up (va_up I (m + 17) (va_up (I (m + 17)) dd ((I (m + 17) dd) + (I (m + 19) dd)))) (m + 20) (va_up (I (m + 20)) dd 0)) dX9_sums_52 (xMs_20 hm) rfl (by omega) (by decide) (va_up_ne _ _ (by omega)) rfl rfl ?_
    refine Ex_ret0 dX9_sums_53 rfl (Or.inl rfl) ?_
    have e : hmSumV (hmK I m) dd = I (m + 17) dd + I (m + 19) dd := if_neg c1
    rw [← e]
    exact hQ _ (hmFw.up (hmFw.up hmFw.rf (by omega)) (by omega)) (hmK_eq ((va_up_ne _ _ (by omega)).trans (va_up_ne _ _ (by omega))) ((va_up_ne _ _ (by omega)).trans (va_up_ne _ _ (by omega))) ((va_up_ne _ _ (by omega)).trans (va_up_ne _ _ (by omega))) ((va_up_ne _ _ (by omega)).trans (va_up_ne _ _ (by omega))) ((va_up_ne _ _ (by omega)).trans (va_up_self _ _ _)) ((va_up_ne _ _ (by omega)).trans (va_up_ne _ _ (by omega))) ((va_up_ne _ _ (by omega)).trans (va_up_ne _ _ (by omega))) (va_up_self _ _ _) ((va_up_ne _ _ (by omega)).trans (va_up_ne _ _ (by omega))))
  · refine Ex_aload_n 17 (i := 0) dX9_sums_16 rfl rfl rfl ?_
    refine Ex_getR 20 dX9_sums_17 fX9_60 (xMs_0 hm) rfl (xMr_27 hm) rfl ?_
    refine Ex_iload_n 21 (i := 1) dX9_sums_20 rfl rfl rfl ?_
    refine Ex_aI 22 dd (I (m + 17) dd) dX9_sums_21 (xMs_17 hm) rfl (by omega) (by decide) rfl rfl ?_
    refine Ex_aload_n 23 (i := 0) dX9_sums_22 rfl rfl rfl ?_
    refine Ex_getR 26 dX9_sums_23 fX9_66 (xMs_0 hm) rfl (xMr_29 hm) rfl ?_
    refine Ex_iload_n 27 (i := 1) dX9_sums_26 rfl rfl rfl ?_
    refine Ex_aI 28 dd (I (m + 19) dd) dX9_sums_27 (xMs_19 hm) rfl (by omega) (by decide) rfl rfl ?_
    refine Ex_isub 29 dX9_sums_28 rfl ?_
    refine Ex_goto 45 dX9_sums_29 (by decide) ?_
    refine Ex_sI 46 dd (I (m + 17)) (va_up I (m + 17) (va_up (I (m + 17)) dd ((I (m + 17) dd) - (I (m + 19) dd)))) dX9_sums_45 (xMs_17 hm) rfl (by omega) (by decide) rfl rfl rfl ?_
    refine Ex_aload_n 47 (i := 0) dX9_sums_46 rfl rfl rfl ?_
    refine Ex_getR 50 dX9_sums_47 fX9_69 (xMs_0 hm) rfl (xMr_30 hm) rfl ?_
    refine Ex_iload_n 51 (i := 1) dX9_sums_50 rfl rfl rfl ?_
    refine Ex_iconst 52 (v := 0) dX9_sums_51 (by decide) rfl ?_
    refine Ex_sI 53 dd (I (m + 20)) (va_up (va_up I (m + 17) (va_up (I (m + 17)) dd ((I (m + 17) dd) - (I (m + 19) dd)))) (m + 20) (va_up (I (m + 20)) dd 0)) dX9_sums_52 (xMs_20 hm) rfl (by omega) (by decide) (va_up_ne _ _ (by omega)) rfl rfl ?_
    refine Ex_ret0 dX9_sums_53 rfl (Or.inl rfl) ?_
    have e : hmSumV (hmK I m) dd = I (m + 17) dd - I (m + 19) dd := if_pos c1
    rw [← e]
    exact hQ _ (hmFw.up (hmFw.up hmFw.rf (by omega)) (by omega)) (hmK_eq ((va_up_ne _ _ (by omega)).trans (va_up_ne _ _ (by omega))) ((va_up_ne _ _ (by omega)).trans (va_up_ne _ _ (by omega))) ((va_up_ne _ _ (by omega)).trans (va_up_ne _ _ (by omega))) ((va_up_ne _ _ (by omega)).trans (va_up_ne _ _ (by omega))) ((va_up_ne _ _ (by omega)).trans (va_up_self _ _ _)) ((va_up_ne _ _ (by omega)).trans (va_up_ne _ _ (by omega))) ((va_up_ne _ _ (by omega)).trans (va_up_ne _ _ (by omega))) (va_up_self _ _ _) ((va_up_ne _ _ (by omega)).trans (va_up_ne _ _ (by omega))))
set_option maxHeartbeats 4000000 in
theorem mc_tests_136 {d : Nat} {sh : xSh} {R : xR} {L : xL} {I : xI} {Q : xQ} {m dd : Nat} (hm : xModel sh R m) (hd : dd < 7) (hQ : ∀ I', hmFw m I I' → hmK I' m = hmTests2 (hmK I m) dd → Q none 0 sh R L I') : Ex d 0 0 MX9_tests 0 sh R L I 136 [some (.ref m), some (.int (nI dd)), some (.int (hmJoinV (hmK I m) dd (hmCmpV (hmK I m) dd)))] [] Q := by
  refine Ex_aload_n 137 (i := 0) dX9_tests_136 rfl rfl rfl ?_
  refine Ex_getR 140 dX9_tests_137 fX9_48 (xMs_0 hm) rfl (xMr_23 hm) rfl ?_
  refine Ex_iload_n 141 (i := 1) dX9_tests_140 rfl rfl rfl ?_
  refine Ex_iload_n 142 (i := 2) dX9_tests_141 rfl rfl rfl ?_
  refine Ex_sI 143 dd (I (m + 13)) (va_up I (m + 13) (va_up (I (m + 13)) dd (hmJoinV (hmK I m) dd (hmCmpV (hmK I m) dd)))) dX9_tests_142 (xMs_13 hm) rfl (by omega) (by decide) rfl rfl rfl ?_
  refine Ex_aload_n 144 (i := 0) dX9_tests_143 rfl rfl rfl ?_
  refine Ex_getR 147 dX9_tests_144 fX9_57 (xMs_0 hm) rfl (xMr_26 hm) rfl ?_
  refine Ex_iload_n 148 (i := 1) dX9_tests_147 rfl rfl rfl ?_
  refine Ex_iconst 149 (v := 0) dX9_tests_148 (by decide) rfl ?_
  refine Ex_sI 150 dd (I (m + 16)) (va_up (va_up I (m + 13) (va_up (I (m + 13)) dd (hmJoinV (hmK I m) dd (hmCmpV (hmK I m) dd)))) (m + 16) (va_up (I (m + 16)) dd 0)) dX9_tests_149 (xMs_16 hm) rfl (by omega) (by decide) (va_up_ne _ _ (by omega)) rfl rfl ?_
  refine Ex_aload_n 151 (i := 0) dX9_tests_150 rfl rfl rfl ?_
  refine Ex_getR 154 dX9_tests_151 fX9_60 (xMs_0 hm) rfl (xMr_27 hm) rfl ?_
  refine Ex_iload_n 155 (i := 1) dX9_tests_154 rfl rfl rfl ?_
  refine Ex_iconst 156 (v := 0) dX9_tests_155 (by decide) rfl ?_
  refine Ex_sI 157 dd (I (m + 17)) (va_up (va_up (va_up I (m + 13) (va_up (I (m + 13)) dd (hmJoinV (hmK I m) dd (hmCmpV (hmK I m) dd)))) (m + 16) (va_up (I (m + 16)) dd 0)) (m + 17) (va_up (I (m + 17)) dd 0)) dX9_tests_156 (xMs_17 hm) rfl (by omega) (by decide) ((va_up_ne _ _ (by omega)).trans (va_up_ne _ _ (by omega))) rfl rfl ?_
  refine Ex_aload_n 158 (i := 0) dX9_tests_157 rfl rfl rfl ?_
  refine Ex_getR 161 dX9_tests_158 fX9_63 (xMs_0 hm) rfl (xMr_28 hm) rfl ?_
  refine Ex_iload_n 162 (i := 1) dX9_tests_161 rfl rfl rfl ?_
  refine Ex_bipush 164 (v := 20) dX9_tests_162 (by decide) rfl ?_
  refine Ex_sI 165 dd (I (m + 18)) (va_up (va_up (va_up (va_up I (m + 13) (va_up (I (m + 13)) dd (hmJoinV (hmK I m) dd (hmCmpV (hmK I m) dd)))) (m + 16) (va_up (I (m + 16)) dd 0)) (m + 17) (va_up (I (m + 17)) dd 0)) (m + 18) (va_up (I (m + 18)) dd 20)) dX9_tests_164 (xMs_18 hm) rfl (by omega) (by decide) ((va_up_ne _ _ (by omega)).trans ((va_up_ne _ _ (by omega)).trans (va_up_ne _ _ (by omega)))) rfl rfl ?_
  refine Ex_ret0 dX9_tests_165 rfl (Or.inl rfl) ?_
  exact hQ _ (hmFw.up (hmFw.up (hmFw.up (hmFw.up hmFw.rf (by omega)) (by omega)) (by omega)) (by omega)) (hmK_eq ((va_up_ne _ _ (by omega)).trans ((va_up_ne _ _ (by omega)).trans ((va_up_ne _ _ (by omega)).trans (va_up_self _ _ _)))) ((va_up_ne _ _ (by omega)).trans ((va_up_ne _ _ (by omega)).trans ((va_up_ne _ _ (by omega)).trans (va_up_ne _ _ (by omega))))) ((va_up_ne _ _ (by omega)).trans ((va_up_ne _ _ (by omega)).trans ((va_up_ne _ _ (by omega)).trans (va_up_ne _ _ (by omega))))) ((va_up_ne _ _ (by omega)).trans ((va_up_ne _ _ (by omega)).trans (va_up_self _ _ _))) ((va_up_ne _ _ (by omega)).trans (va_up_self _ _ _)) (va_up_self _ _ _) ((va_up_ne _ _ (by omega)).trans ((va_up_ne _ _ (by omega)).trans ((va_up_ne _ _ (by omega)).trans (va_up_ne _ _ (by omega))))) ((va_up_ne _ _ (by omega)).trans ((va_up_ne _ _ (by omega)).trans ((va_up_ne _ _ (by omega)).trans (va_up_ne _ _ (by omega))))) ((va_up_ne _ _ (by omega)).trans ((va_up_ne _ _ (by omega)).trans ((va_up_ne _ _ (by omega)).trans (va_up_ne _ _ (by omega))))))
set_option maxHeartbeats 4000000 in
theorem mc_tests_76 {d : Nat} {sh : xSh} {R : xR} {L : xL} {I : xI} {Q : xQ} {m dd : Nat} (hm : xModel sh R m) (hd : dd < 7) (hQ : ∀ I', hmFw m I I' → hmK I' m = hmTests2 (hmK I m) dd → Q none 0 sh R L I') : Ex d 0 0 MX9_tests 0 sh R L I 76 [some (.ref m), some (.int (nI dd)), some (.int (hmCmpV (hmK I m) dd))] [] Q := by
  by_cases h26 : hmKeptBy (hmK I m) dd = 26
  · have h27 : ¬ I (m + 14) dd = 27 := fun z => by have z2 : hmKeptBy (hmK I m) dd = 27 := z; rw [h26] at z2; exact absurd z2 (by decide)
    refine Ex_aload_n 77 (i := 0) dX9_tests_76 rfl rfl rfl ?_
    refine Ex_getR 80 dX9_tests_77 fX9_51 (xMs_0 hm) rfl (xMr_24 hm) rfl ?_
    refine Ex_iload_n 81 (i := 1) dX9_tests_80 rfl rfl rfl ?_
    refine Ex_aI 82 dd (I (m + 14) dd) dX9_tests_81 (xMs_14 hm) rfl (by omega) (by decide) rfl rfl ?_
    refine Ex_bipush 84 (v := 26) dX9_tests_82 (by decide) rfl ?_
    refine Ex_icmp_ne 87 106 dX9_tests_84 (by decide) rfl (fun c1 => absurd h26 c1) (fun c1 => ?_)
    refine Ex_aload_n 88 (i := 0) dX9_tests_87 rfl rfl rfl ?_
    refine Ex_getR 91 dX9_tests_88 fX9_48 (xMs_0 hm) rfl (xMr_23 hm) rfl ?_
    refine Ex_iload_n 92 (i := 1) dX9_tests_91 rfl rfl rfl ?_
    refine Ex_aI 93 dd (I (m + 13) dd) dX9_tests_92 (xMs_13 hm) rfl (by omega) (by decide) rfl rfl ?_
    refine Ex_if_eq 96 104 dX9_tests_93 (by decide) rfl (fun c2 => ?_) (fun c2 => ?_)
    · refine Ex_iconst 105 (v := 0) dX9_tests_104 (by decide) rfl ?_
      refine Ex_istore_n 106 (i := 2) (ls' := [some (.ref m), some (.int (nI dd)), some (.int 0)]) dX9_tests_105 rfl (Nat.le_of_ble_eq_true rfl) rfl rfl rfl ?_
      refine Ex_aload_n 107 (i := 0) dX9_tests_106 rfl rfl rfl ?_
      refine Ex_getR 110 dX9_tests_107 fX9_51 (xMs_0 hm) rfl (xMr_24 hm) rfl ?_
      refine Ex_iload_n 111 (i := 1) dX9_tests_110 rfl rfl rfl ?_
      refine Ex_aI 112 dd (I (m + 14) dd) dX9_tests_111 (xMs_14 hm) rfl (by omega) (by decide) rfl rfl ?_
      refine Ex_bipush 114 (v := 27) dX9_tests_112 (by decide) rfl ?_
      refine Ex_icmp_ne 117 136 dX9_tests_114 (by decide) rfl (fun c3 => ?_) (fun c3 => absurd c3 h27)
      have e : hmJoinV (hmK I m) dd (hmCmpV (hmK I m) dd) = 0 := by
        unfold hmJoinV
        rw [if_pos h26, if_neg (fun z => z.1 c2)]
      rw [← e]
      exact mc_tests_136 hm hd hQ
    · refine Ex_iload_n 97 (i := 2) dX9_tests_96 rfl rfl rfl ?_
      refine Ex_if_eq 100 104 dX9_tests_97 (by decide) rfl (fun c4 => ?_) (fun c4 => ?_)
      · refine Ex_iconst 105 (v := 0) dX9_tests_104 (by decide) rfl ?_
        refine Ex_istore_n 106 (i := 2) (ls' := [some (.ref m), some (.int (nI dd)), some (.int 0)]) dX9_tests_105 rfl (Nat.le_of_ble_eq_true rfl) rfl rfl rfl ?_
        refine Ex_aload_n 107 (i := 0) dX9_tests_106 rfl rfl rfl ?_
        refine Ex_getR 110 dX9_tests_107 fX9_51 (xMs_0 hm) rfl (xMr_24 hm) rfl ?_
        refine Ex_iload_n 111 (i := 1) dX9_tests_110 rfl rfl rfl ?_
        refine Ex_aI 112 dd (I (m + 14) dd) dX9_tests_111 (xMs_14 hm) rfl (by omega) (by decide) rfl rfl ?_
        refine Ex_bipush 114 (v := 27) dX9_tests_112 (by decide) rfl ?_
        refine Ex_icmp_ne 117 136 dX9_tests_114 (by decide) rfl (fun c5 => ?_) (fun c5 => absurd c5 h27)
        have e : hmJoinV (hmK I m) dd (hmCmpV (hmK I m) dd) = 0 := by
          unfold hmJoinV
          rw [if_pos h26, if_neg (fun z => z.2 c4)]
        rw [← e]
        exact mc_tests_136 hm hd hQ
      · refine Ex_iconst 101 (v := 1) dX9_tests_100 (by decide) rfl ?_
        refine Ex_goto 105 dX9_tests_101 (by decide) ?_
        refine Ex_istore_n 106 (i := 2) (ls' := [some (.ref m), some (.int (nI dd)), some (.int 1)]) dX9_tests_105 rfl (Nat.le_of_ble_eq_true rfl) rfl rfl rfl ?_
        refine Ex_aload_n 107 (i := 0) dX9_tests_106 rfl rfl rfl ?_
        refine Ex_getR 110 dX9_tests_107 fX9_51 (xMs_0 hm) rfl (xMr_24 hm) rfl ?_
        refine Ex_iload_n 111 (i := 1) dX9_tests_110 rfl rfl rfl ?_
        refine Ex_aI 112 dd (I (m + 14) dd) dX9_tests_111 (xMs_14 hm) rfl (by omega) (by decide) rfl rfl ?_
        refine Ex_bipush 114 (v := 27) dX9_tests_112 (by decide) rfl ?_
        refine Ex_icmp_ne 117 136 dX9_tests_114 (by decide) rfl (fun c6 => ?_) (fun c6 => absurd c6 h27)
        have e : hmJoinV (hmK I m) dd (hmCmpV (hmK I m) dd) = 1 := by
          unfold hmJoinV
          rw [if_pos h26, if_pos ⟨c2, c4⟩]
        rw [← e]
        exact mc_tests_136 hm hd hQ
  · by_cases h27 : hmKeptBy (hmK I m) dd = 27
    · refine Ex_st rfl ?_
      refine Ex_aload_n 77 (i := 0) dX9_tests_76 rfl rfl rfl ?_
      refine Ex_getR 80 dX9_tests_77 fX9_51 (xMs_0 hm) rfl (xMr_24 hm) rfl ?_
      refine Ex_iload_n 81 (i := 1) dX9_tests_80 rfl rfl rfl ?_
      refine Ex_aI 82 dd (I (m + 14) dd) dX9_tests_81 (xMs_14 hm) rfl (by omega) (by decide) rfl rfl ?_
      refine Ex_bipush 84 (v := 26) dX9_tests_82 (by decide) rfl ?_
      refine Ex_icmp_ne 87 106 dX9_tests_84 (by decide) rfl (fun c1 => ?_) (fun c1 => absurd c1 h26)
      refine Ex_aload_n 107 (i := 0) dX9_tests_106 rfl rfl rfl ?_
      refine Ex_getR 110 dX9_tests_107 fX9_51 (xMs_0 hm) rfl (xMr_24 hm) rfl ?_
      refine Ex_iload_n 111 (i := 1) dX9_tests_110 rfl rfl rfl ?_
      refine Ex_aI 112 dd (I (m + 14) dd) dX9_tests_111 (xMs_14 hm) rfl (by omega) (by decide) rfl rfl ?_
      refine Ex_bipush 114 (v := 27) dX9_tests_112 (by decide) rfl ?_
      refine Ex_icmp_ne 117 136 dX9_tests_114 (by decide) rfl (fun c2 => absurd h27 c2) (fun c2 => ?_)
      refine Ex_aload_n 118 (i := 0) dX9_tests_117 rfl rfl rfl ?_
      refine Ex_getR 121 dX9_tests_118 fX9_48 (xMs_0 hm) rfl (xMr_23 hm) rfl ?_
      refine Ex_iload_n 122 (i := 1) dX9_tests_121 rfl rfl rfl ?_
      refine Ex_aI 123 dd (I (m + 13) dd) dX9_tests_122 (xMs_13 hm) rfl (by omega) (by decide) rfl rfl ?_
      refine Ex_if_ne 126 130 dX9_tests_123 (by decide) rfl (fun c3 => ?_) (fun c3 => ?_)
      · refine Ex_iconst 131 (v := 1) dX9_tests_130 (by decide) rfl ?_
        refine Ex_goto 135 dX9_tests_131 (by decide) ?_
        refine Ex_istore_n 136 (i := 2) (ls' := [some (.ref m), some (.int (nI dd)), some (.int 1)]) dX9_tests_135 rfl (Nat.le_of_ble_eq_true rfl) rfl rfl rfl ?_
        have e : hmJoinV (hmK I m) dd (hmCmpV (hmK I m) dd) = 1 := by
          unfold hmJoinV
          rw [if_neg h26, if_pos h27]
          exact if_pos (Or.inl c3)
        rw [← e]
        exact mc_tests_136 hm hd hQ
      · refine Ex_iload_n 127 (i := 2) dX9_tests_126 rfl rfl rfl ?_
        refine Ex_if_eq 130 134 dX9_tests_127 (by decide) rfl (fun c4 => ?_) (fun c4 => ?_)
        · refine Ex_iconst 135 (v := 0) dX9_tests_134 (by decide) rfl ?_
          refine Ex_istore_n 136 (i := 2) (ls' := [some (.ref m), some (.int (nI dd)), some (.int 0)]) dX9_tests_135 rfl (Nat.le_of_ble_eq_true rfl) rfl rfl rfl ?_
          have e : hmJoinV (hmK I m) dd (hmCmpV (hmK I m) dd) = 0 := by
            unfold hmJoinV
            rw [if_neg h26, if_pos h27, if_neg (fun z => z.elim (fun y => y c3) (fun y => y c4))]
          rw [← e]
          exact mc_tests_136 hm hd hQ
        · refine Ex_iconst 131 (v := 1) dX9_tests_130 (by decide) rfl ?_
          refine Ex_goto 135 dX9_tests_131 (by decide) ?_
          refine Ex_istore_n 136 (i := 2) (ls' := [some (.ref m), some (.int (nI dd)), some (.int 1)]) dX9_tests_135 rfl (Nat.le_of_ble_eq_true rfl) rfl rfl rfl ?_
          have e : hmJoinV (hmK I m) dd (hmCmpV (hmK I m) dd) = 1 := by
            unfold hmJoinV
            rw [if_neg h26, if_pos h27, if_pos (Or.inr c4)]
          rw [← e]
          exact mc_tests_136 hm hd hQ
    · refine Ex_st rfl ?_
      refine Ex_aload_n 77 (i := 0) dX9_tests_76 rfl rfl rfl ?_
      refine Ex_getR 80 dX9_tests_77 fX9_51 (xMs_0 hm) rfl (xMr_24 hm) rfl ?_
      refine Ex_iload_n 81 (i := 1) dX9_tests_80 rfl rfl rfl ?_
      refine Ex_aI 82 dd (I (m + 14) dd) dX9_tests_81 (xMs_14 hm) rfl (by omega) (by decide) rfl rfl ?_
      refine Ex_bipush 84 (v := 26) dX9_tests_82 (by decide) rfl ?_
      refine Ex_icmp_ne 87 106 dX9_tests_84 (by decide) rfl (fun c1 => ?_) (fun c1 => absurd c1 h26)
      refine Ex_aload_n 107 (i := 0) dX9_tests_106 rfl rfl rfl ?_
      refine Ex_getR 110 dX9_tests_107 fX9_51 (xMs_0 hm) rfl (xMr_24 hm) rfl ?_
      refine Ex_iload_n 111 (i := 1) dX9_tests_110 rfl rfl rfl ?_
      refine Ex_aI 112 dd (I (m + 14) dd) dX9_tests_111 (xMs_14 hm) rfl (by omega) (by decide) rfl rfl ?_
      refine Ex_bipush 114 (v := 27) dX9_tests_112 (by decide) rfl ?_
      refine Ex_icmp_ne 117 136 dX9_tests_114 (by decide) rfl (fun c2 => ?_) (fun c2 => absurd c2 h27)
      have e : hmJoinV (hmK I m) dd (hmCmpV (hmK I m) dd) = (hmCmpV (hmK I m) dd) := by
        unfold hmJoinV
        rw [if_neg h26, if_neg h27]
      rw [← e]
      exact mc_tests_136 hm hd hQ
set_option maxHeartbeats 4000000 in
theorem mc_tests_12 {d : Nat} {sh : xSh} {R : xR} {L : xL} {I : xI} {Q : xQ} {m dd : Nat} (hm : xModel sh R m) (hd : dd < 7) (hQ : ∀ I', hmFw m I I' → hmK I' m = hmTests2 (hmK I m) dd → Q none 0 sh R L I') : Ex d 0 0 MX9_tests 0 sh R L I 12 [some (.ref m), some (.int (nI dd)), some (.int (I (m + 17) dd))] [] Q := by
  by_cases h24 : hmAgst (hmK I m) dd = 24
  · have h25 : ¬ I (m + 16) dd = 25 := fun z => by have z2 : hmAgst (hmK I m) dd = 25 := z; rw [h24] at z2; exact absurd z2 (by decide)
    refine Ex_aload_n 13 (i := 0) dX9_tests_12 rfl rfl rfl ?_
    refine Ex_getR 16 dX9_tests_13 fX9_57 (xMs_0 hm) rfl (xMr_26 hm) rfl ?_
    refine Ex_iload_n 17 (i := 1) dX9_tests_16 rfl rfl rfl ?_
    refine Ex_aI 18 dd (I (m + 16) dd) dX9_tests_17 (xMs_16 hm) rfl (by omega) (by decide) rfl rfl ?_
    refine Ex_bipush 20 (v := 24) dX9_tests_18 (by decide) rfl ?_
    refine Ex_icmp_ne 23 44 dX9_tests_20 (by decide) rfl (fun c1 => absurd h24 c1) (fun c1 => ?_)
    refine Ex_aload_n 24 (i := 0) dX9_tests_23 rfl rfl rfl ?_
    refine Ex_getR 27 dX9_tests_24 fX9_54 (xMs_0 hm) rfl (xMr_25 hm) rfl ?_
    refine Ex_iload_n 28 (i := 1) dX9_tests_27 rfl rfl rfl ?_
    refine Ex_aI 29 dd (I (m + 15) dd) dX9_tests_28 (xMs_15 hm) rfl (by omega) (by decide) rfl rfl ?_
    refine Ex_aload_n 30 (i := 0) dX9_tests_29 rfl rfl rfl ?_
    refine Ex_getR 33 dX9_tests_30 fX9_60 (xMs_0 hm) rfl (xMr_27 hm) rfl ?_
    refine Ex_iload_n 34 (i := 1) dX9_tests_33 rfl rfl rfl ?_
    refine Ex_aI 35 dd (I (m + 17) dd) dX9_tests_34 (xMs_17 hm) rfl (by omega) (by decide) rfl rfl ?_
    refine Ex_icmp_ge 38 42 dX9_tests_35 (by decide) rfl (fun c2 => ?_) (fun c2 => ?_)
    · refine Ex_iconst 43 (v := 0) dX9_tests_42 (by decide) rfl ?_
      refine Ex_istore_n 44 (i := 2) (ls' := [some (.ref m), some (.int (nI dd)), some (.int 0)]) dX9_tests_43 rfl (Nat.le_of_ble_eq_true rfl) rfl rfl rfl ?_
      refine Ex_aload_n 45 (i := 0) dX9_tests_44 rfl rfl rfl ?_
      refine Ex_getR 48 dX9_tests_45 fX9_57 (xMs_0 hm) rfl (xMr_26 hm) rfl ?_
      refine Ex_iload_n 49 (i := 1) dX9_tests_48 rfl rfl rfl ?_
      refine Ex_aI 50 dd (I (m + 16) dd) dX9_tests_49 (xMs_16 hm) rfl (by omega) (by decide) rfl rfl ?_
      refine Ex_bipush 52 (v := 25) dX9_tests_50 (by decide) rfl ?_
      refine Ex_icmp_ne 55 76 dX9_tests_52 (by decide) rfl (fun c3 => ?_) (fun c3 => absurd c3 h25)
      have e : hmCmpV (hmK I m) dd = 0 := by
        unfold hmCmpV
        rw [if_pos h24]
        exact if_neg (Int32.not_lt.mpr c2)
      rw [← e]
      exact mc_tests_76 hm hd hQ
    · refine Ex_iconst 39 (v := 1) dX9_tests_38 (by decide) rfl ?_
      refine Ex_goto 43 dX9_tests_39 (by decide) ?_
      refine Ex_istore_n 44 (i := 2) (ls' := [some (.ref m), some (.int (nI dd)), some (.int 1)]) dX9_tests_43 rfl (Nat.le_of_ble_eq_true rfl) rfl rfl rfl ?_
      refine Ex_aload_n 45 (i := 0) dX9_tests_44 rfl rfl rfl ?_
      refine Ex_getR 48 dX9_tests_45 fX9_57 (xMs_0 hm) rfl (xMr_26 hm) rfl ?_
      refine Ex_iload_n 49 (i := 1) dX9_tests_48 rfl rfl rfl ?_
      refine Ex_aI 50 dd (I (m + 16) dd) dX9_tests_49 (xMs_16 hm) rfl (by omega) (by decide) rfl rfl ?_
      refine Ex_bipush 52 (v := 25) dX9_tests_50 (by decide) rfl ?_
      refine Ex_icmp_ne 55 76 dX9_tests_52 (by decide) rfl (fun c4 => ?_) (fun c4 => absurd c4 h25)
      have e : hmCmpV (hmK I m) dd = 1 := by
        unfold hmCmpV
        rw [if_pos h24]
        exact if_pos (Int32.not_le.mp c2)
      rw [← e]
      exact mc_tests_76 hm hd hQ
  · by_cases h25 : hmAgst (hmK I m) dd = 25
    · refine Ex_st rfl ?_
      refine Ex_aload_n 13 (i := 0) dX9_tests_12 rfl rfl rfl ?_
      refine Ex_getR 16 dX9_tests_13 fX9_57 (xMs_0 hm) rfl (xMr_26 hm) rfl ?_
      refine Ex_iload_n 17 (i := 1) dX9_tests_16 rfl rfl rfl ?_
      refine Ex_aI 18 dd (I (m + 16) dd) dX9_tests_17 (xMs_16 hm) rfl (by omega) (by decide) rfl rfl ?_
      refine Ex_bipush 20 (v := 24) dX9_tests_18 (by decide) rfl ?_
      refine Ex_icmp_ne 23 44 dX9_tests_20 (by decide) rfl (fun c1 => ?_) (fun c1 => absurd c1 h24)
      refine Ex_aload_n 45 (i := 0) dX9_tests_44 rfl rfl rfl ?_
      refine Ex_getR 48 dX9_tests_45 fX9_57 (xMs_0 hm) rfl (xMr_26 hm) rfl ?_
      refine Ex_iload_n 49 (i := 1) dX9_tests_48 rfl rfl rfl ?_
      refine Ex_aI 50 dd (I (m + 16) dd) dX9_tests_49 (xMs_16 hm) rfl (by omega) (by decide) rfl rfl ?_
      refine Ex_bipush 52 (v := 25) dX9_tests_50 (by decide) rfl ?_
      refine Ex_icmp_ne 55 76 dX9_tests_52 (by decide) rfl (fun c2 => absurd h25 c2) (fun c2 => ?_)
      refine Ex_aload_n 56 (i := 0) dX9_tests_55 rfl rfl rfl ?_
      refine Ex_getR 59 dX9_tests_56 fX9_54 (xMs_0 hm) rfl (xMr_25 hm) rfl ?_
      refine Ex_iload_n 60 (i := 1) dX9_tests_59 rfl rfl rfl ?_
      refine Ex_aI 61 dd (I (m + 15) dd) dX9_tests_60 (xMs_15 hm) rfl (by omega) (by decide) rfl rfl ?_
      refine Ex_aload_n 62 (i := 0) dX9_tests_61 rfl rfl rfl ?_
      refine Ex_getR 65 dX9_tests_62 fX9_60 (xMs_0 hm) rfl (xMr_27 hm) rfl ?_
      refine Ex_iload_n 66 (i := 1) dX9_tests_65 rfl rfl rfl ?_
      refine Ex_aI 67 dd (I (m + 17) dd) dX9_tests_66 (xMs_17 hm) rfl (by omega) (by decide) rfl rfl ?_
      refine Ex_icmp_ne 70 74 dX9_tests_67 (by decide) rfl (fun c3 => ?_) (fun c3 => ?_)
      · refine Ex_iconst 75 (v := 0) dX9_tests_74 (by decide) rfl ?_
        refine Ex_istore_n 76 (i := 2) (ls' := [some (.ref m), some (.int (nI dd)), some (.int 0)]) dX9_tests_75 rfl (Nat.le_of_ble_eq_true rfl) rfl rfl rfl ?_
        have e : hmCmpV (hmK I m) dd = 0 := by
          unfold hmCmpV
          rw [if_neg h24, if_pos h25]
          exact if_neg c3
        rw [← e]
        exact mc_tests_76 hm hd hQ
      · refine Ex_iconst 71 (v := 1) dX9_tests_70 (by decide) rfl ?_
        refine Ex_goto 75 dX9_tests_71 (by decide) ?_
        refine Ex_istore_n 76 (i := 2) (ls' := [some (.ref m), some (.int (nI dd)), some (.int 1)]) dX9_tests_75 rfl (Nat.le_of_ble_eq_true rfl) rfl rfl rfl ?_
        have e : hmCmpV (hmK I m) dd = 1 := by
          unfold hmCmpV
          rw [if_neg h24, if_pos h25]
          exact if_pos c3
        rw [← e]
        exact mc_tests_76 hm hd hQ
    · refine Ex_st rfl ?_
      refine Ex_aload_n 13 (i := 0) dX9_tests_12 rfl rfl rfl ?_
      refine Ex_getR 16 dX9_tests_13 fX9_57 (xMs_0 hm) rfl (xMr_26 hm) rfl ?_
      refine Ex_iload_n 17 (i := 1) dX9_tests_16 rfl rfl rfl ?_
      refine Ex_aI 18 dd (I (m + 16) dd) dX9_tests_17 (xMs_16 hm) rfl (by omega) (by decide) rfl rfl ?_
      refine Ex_bipush 20 (v := 24) dX9_tests_18 (by decide) rfl ?_
      refine Ex_icmp_ne 23 44 dX9_tests_20 (by decide) rfl (fun c1 => ?_) (fun c1 => absurd c1 h24)
      refine Ex_aload_n 45 (i := 0) dX9_tests_44 rfl rfl rfl ?_
      refine Ex_getR 48 dX9_tests_45 fX9_57 (xMs_0 hm) rfl (xMr_26 hm) rfl ?_
      refine Ex_iload_n 49 (i := 1) dX9_tests_48 rfl rfl rfl ?_
      refine Ex_aI 50 dd (I (m + 16) dd) dX9_tests_49 (xMs_16 hm) rfl (by omega) (by decide) rfl rfl ?_
      refine Ex_bipush 52 (v := 25) dX9_tests_50 (by decide) rfl ?_
      refine Ex_icmp_ne 55 76 dX9_tests_52 (by decide) rfl (fun c2 => ?_) (fun c2 => absurd c2 h25)
      have e : hmCmpV (hmK I m) dd = (I (m + 17) dd) := by
        unfold hmCmpV
        rw [if_neg h24, if_neg h25]
        rfl
      rw [← e]
      exact mc_tests_76 hm hd hQ
set_option maxHeartbeats 4000000 in
theorem mc_tests {d : Nat} {sh : xSh} {R : xR} {L : xL} {I : xI} {Q : xQ} {m dd : Nat} (hm : xModel sh R m) (hd : dd < 7) (hQ : ∀ I', hmFw m I I' → hmK I' m = hmTests (hmK I m) dd → Q none 0 sh R L I') : Ex (d + 1) 0 0 MX9_tests 0 sh R L I 0 [some (.ref m), some (.int (nI dd)), none] [] Q := by
  refine Ex_aload_n 1 (i := 0) dX9_tests_0 rfl rfl rfl ?_
  refine Ex_iload_n 2 (i := 1) dX9_tests_1 rfl rfl rfl ?_
  refine Ex_callV (M' := MX9_sums) 5 [.int (nI dd)] (rest := []) dX9_tests_2 lX9_207 mX9_sums rfl (xMs_0 hm) rfl (Nat.le_of_ble_eq_true rfl) (Nat.le_of_ble_eq_true rfl) rfl ?_
  refine mc_sums hm hd (fun I1 hF1 hK1 => ?_)
  simp only [Option.toList, List.nil_append]
  refine Ex_aload_n 6 (i := 0) dX9_tests_5 rfl rfl rfl ?_
  refine Ex_getR 9 dX9_tests_6 fX9_60 (xMs_0 hm) rfl (xMr_27 hm) rfl ?_
  refine Ex_iload_n 10 (i := 1) dX9_tests_9 rfl rfl rfl ?_
  refine Ex_aI 11 dd (I1 (m + 17) dd) dX9_tests_10 (xMs_17 hm) rfl (by omega) (by decide) rfl rfl ?_
  refine Ex_istore_n 12 (i := 2) (ls' := [some (.ref m), some (.int (nI dd)), some (.int (I1 (m + 17) dd))]) dX9_tests_11 rfl (Nat.le_of_ble_eq_true rfl) rfl rfl rfl ?_
  refine mc_tests_12 hm hd (fun I' hF' hK' => hQ I' (hF1.tr hF') ?_)
  rw [hK', hK1]
  rfl
