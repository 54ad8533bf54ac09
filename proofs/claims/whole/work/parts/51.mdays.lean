/-- only the draws of the reference have changed -/
def hmLg (m : Nat) (L L' : xL) : Prop := (∀ x, x ≠ m → L' x = L x) ∧ ∀ k, k ≠ 59 → L' m k = L m k
theorem hmLg.rf {m : Nat} {L : xL} : hmLg m L L := ⟨fun _ _ => rfl, fun _ _ => rfl⟩
theorem hmLg.tr {m : Nat} {L L1 L2 : xL} (h1 : hmLg m L L1) (h2 : hmLg m L1 L2) : hmLg m L L2 := ⟨fun x a => (h2.1 x a).trans (h1.1 x a), fun k a => (h2.2 k a).trans (h1.2 k a)⟩
set_option maxHeartbeats 4000000 in
theorem mc_draws {d : Nat} {sh : xSh} {R : xR} {L : xL} {I : xI} {Q : xQ} {m n k : Nat} (hm : xModel sh R m) (hk : 1 ≤ k) (hk2 : k ≤ 6) (hn : n < 2147483648) (hL : L m 59 = nL n) (hQ : ∀ L', hmLg m L L' → L' m 59 = nL (hmDraw n) → Q (some (.int (nI (hmWhom k (hmDraw n))))) 0 sh R L' I) : Ex d 0 0 MX9_draws 0 sh R L I 0 [some (.ref m), some (.int (nI k))] [] Q := by
  have hd1 := hmDraw_lt n
  have hk3 := hmWhom_lt (k := k) (g := hmDraw n) (by omega)
  have hnz : nL k ≠ 0 := fun q => by
    have h1 := congrArg Int64.toInt q
    rw [nL_toInt (by omega)] at h1
    have e0 : (0 : Int64).toInt = 0 := by decide
    omega
  refine Ex_aload_n 1 (i := 0) dX9_draws_0 rfl rfl rfl ?_
  refine Ex_aload_n 2 (i := 0) dX9_draws_1 rfl rfl rfl ?_
  refine Ex_gL 5 (L m 59) dX9_draws_2 fX9_447 (xMs_0 hm) rfl rfl ?_
  rw [hL]
  refine Ex_ldc2 8 (v := 1103515245) dX9_draws_5 kX9_450 rfl ?_
  refine Ex_lmul 9 dX9_draws_8 rfl ?_
  refine Ex_ldc2 12 (v := 12345) dX9_draws_9 kX9_452 rfl ?_
  refine Ex_ladd 13 dX9_draws_12 rfl ?_
  refine Ex_ldc2 16 (v := 2147483648) dX9_draws_13 kX9_454 rfl ?_
  refine Ex_lrem 17 dX9_draws_16 (by decide) rfl ?_
  rw [hm_draw hn]
  refine Ex_pL 20 (L m) (va_up L m (va_up (L m) 59 (nL (hmDraw n)))) dX9_draws_17 fX9_447 rfl (xMs_0 hm) rfl rfl rfl ?_
  refine Ex_aload_n 21 (i := 0) dX9_draws_20 rfl rfl rfl ?_
  refine Ex_gL 24 (nL (hmDraw n)) dX9_draws_21 fX9_447 (xMs_0 hm) (congrFun (va_up_self _ _ _) _) rfl ?_
  refine Ex_ldc2 27 (v := 65536) dX9_draws_24 kX9_456 rfl ?_
  refine Ex_ldiv 28 dX9_draws_27 (by decide) rfl ?_
  refine Ex_iload_n 29 (i := 1) dX9_draws_28 rfl rfl rfl ?_
  refine Ex_i2l 30 dX9_draws_29 rfl ?_
  rw [hm_i2l (by omega)]
  refine Ex_lrem 31 dX9_draws_30 hnz rfl ?_
  rw [hm_whom hd1 (by omega)]
  refine Ex_l2i 32 dX9_draws_31 rfl ?_
  rw [hm_l2i (by omega)]
  refine Ex_iret dX9_draws_32 rfl rfl (Or.inl rfl) ?_
  exact hQ _ ⟨fun x a => va_up_ne _ _ a, fun j a => by rw [va_up_self, va_up_ne _ _ a]⟩ (by rw [va_up_self, va_up_self])
set_option maxHeartbeats 4000000 in
theorem mc_lives_57 {d : Nat} {sh : xSh} {R : xR} {L : xL} {I : xI} {Q : xQ} {m : Nat} {O : hmO} {H : hmH} (hm : xModel sh R m) (hS : hmMr (I (m + 28)) H) (hO : hmMo I m O) (ho : hmOok O) (hok : hmOk O H) (h46 : I m 46 = nI (hmTk O)) (hmn : hmMin H < 900000) (hQ : ∀ I', hmFm m I I' → hmMr (I' (m + 28)) (hmMinute O (hmTk O) H) → Q (some (.int (hmCnt (hmSet (hmMinute O (hmTk O) H) &&& (hmSet H ^^^ -1))))) 0 sh R L I') : Ex (d + 7) 0 0 MX9_livesMinute 0 sh R L I 57 [some (.ref m), none] [] Q := by
  refine Ex_aload_n 58 (i := 0) dX9_livesMinute_57 rfl rfl rfl ?_
  refine Ex_callV (M' := MX9_passes) 61 [] (rest := []) dX9_livesMinute_58 lX9_369 mX9_passes rfl (xMs_0 hm) rfl (Nat.le_of_ble_eq_true rfl) (Nat.le_of_ble_eq_true rfl) rfl ?_
  refine mc_passes hm hS hO ho hok h46 ho.2.1 ho.2.2.1 (by omega) (fun I1 hF1 hS1 => ?_)
  simp only [Option.toList, List.nil_append, List.cons_append]
  refine Ex_callS (M' := MX9_bits) 64 [.int (hmSet (hmMinute O (hmTk O) H) &&& (hmSet H ^^^ -1))] (rest := []) dX9_livesMinute_61 lX9_322 mX9_bits rfl rfl (Nat.le_of_ble_eq_true rfl) (Nat.le_of_ble_eq_true rfl) rfl ?_
  refine mc_bits ?_
  simp only [Option.toList, List.cons_append, List.nil_append]
  refine Ex_iret dX9_livesMinute_64 rfl rfl (Or.inl rfl) ?_
  exact hQ I1 hF1 hS1
set_option maxHeartbeats 4000000 in
theorem mc_livesMinute {d : Nat} {sh : xSh} {R : xR} {L : xL} {I : xI} {Q : xQ} {m : Nat} {O : hmO} {H : hmH} (hm : xModel sh R m) (hS : hmMr (I (m + 28)) H) (hO : hmMo I m O) (ho : hmOok O) (hok : hmOk O H) (h46 : I m 46 = nI (hmTk O)) (hmn : hmMin H < 900000) {n : Nat} (hn : n < 2147483648) (hL : L m 59 = nL n) (hQ : ∀ I' L', hmFm m I I' → hmLg m L L' → L' m 59 = nL (hmAct O H n).2 → hmMr (I' (m + 28)) (hmMinute O (hmTk O) (hmAct O H n).1) → Q (some (.int (hmCnt (hmSet (hmMinute O (hmTk O) (hmAct O H n).1) &&& (hmSet (hmAct O H n).1 ^^^ -1))))) 0 sh R L' I') : Ex (d + 7) 0 0 MX9_livesMinute 0 sh R L I 0 [some (.ref m), none] [] Q := by
  obtain ⟨on, otk, ow, cd, cfrom, cto, clen, ccd, csem⟩ := id hO
  have o6 := ho.1
  have s6 := hS.1
  have hd1 := hmDraw_lt n
  have hd2 := hmDraw_lt (hmDraw n)
  have hlN : ∀ x, x ∈ hmLine H → x < 6 := fun x hx => by
    have := hok.2.1 x hx
    omega
  refine Ex_aload_n 1 (i := 0) dX9_livesMinute_0 rfl rfl rfl ?_
  refine Ex_getR 4 dX9_livesMinute_1 fX9_13 (xMs_0 hm) rfl (xMr_10 hm) rfl ?_
  refine Ex_iconst 5 (v := 0) dX9_livesMinute_4 (by decide) rfl ?_
  refine Ex_aI 6 0 (I (m + 2) 0) dX9_livesMinute_5 (xMs_2 hm) rfl (by decide) (by decide) rfl rfl ?_
  rw [on]
  refine Ex_if_le 9 57 dX9_livesMinute_6 (by decide) rfl (fun c1 => ?_) (fun c1 => ?_)
  · refine Ex_fgt (ls' := [some (.ref m), none]) (by simp [xsub]) ?_
    have hN0 : hmN O = 0 := by
      by_cases z : hmN O = 0
      · exact z
      · exact absurd c1 (Int32.not_le.mpr (hm_nIpos (by omega) (by omega)))
    have e : hmAct O H n = (H, n) := if_pos hN0
    rw [e] at hQ
    exact mc_lives_57 hm hS hO ho hok h46 hmn (fun I' f1 f2 => hQ I' L f1 hmLg.rf hL f2)
  · have hN0 : hmN O ≠ 0 := fun q => c1 (by rw [q]; decide)
    obtain ⟨w, ew⟩ : ∃ w, hmWhom (hmN O) (hmDraw n) = w := ⟨_, rfl⟩
    have hw : w < hmN O := by rw [← ew]; exact hmWhom_lt (by omega)
    refine Ex_aload_n 10 (i := 0) dX9_livesMinute_9 rfl rfl rfl ?_
    refine Ex_aload_n 11 (i := 0) dX9_livesMinute_10 rfl rfl rfl ?_
    refine Ex_getR 14 dX9_livesMinute_11 fX9_13 (xMs_0 hm) rfl (xMr_10 hm) rfl ?_
    refine Ex_iconst 15 (v := 0) dX9_livesMinute_14 (by decide) rfl ?_
    refine Ex_aI 16 0 (I (m + 2) 0) dX9_livesMinute_15 (xMs_2 hm) rfl (by decide) (by decide) rfl rfl ?_
    rw [on]
    refine Ex_callV (M' := MX9_draws) 19 [.int (nI (hmN O))] (rest := []) dX9_livesMinute_16 lX9_458 mX9_draws rfl (xMs_0 hm) rfl (Nat.le_of_ble_eq_true rfl) (Nat.le_of_ble_eq_true rfl) rfl ?_
    refine mc_draws hm (k := hmN O) (by omega) o6 hn hL (fun L1 gL1 hL1 => ?_)
    rw [ew]
    simp only [Option.toList, List.nil_append, List.cons_append]
    refine Ex_istore_n 20 (i := 1) (ls' := [some (.ref m), some (.int (nI w))]) dX9_livesMinute_19 rfl (Nat.le_of_ble_eq_true rfl) rfl rfl rfl ?_
    refine Ex_aload_n 21 (i := 0) dX9_livesMinute_20 rfl rfl rfl ?_
    refine Ex_iload_n 22 (i := 1) dX9_livesMinute_21 rfl rfl rfl ?_
    refine Ex_callV (M' := MX9_canRing) 25 [.int (nI w)] (rest := []) dX9_livesMinute_22 lX9_354 mX9_canRing rfl (xMs_0 hm) rfl (Nat.le_of_ble_eq_true rfl) (Nat.le_of_ble_eq_true rfl) rfl ?_
    refine mc_canRing hm hS (by omega) (fun x hx => by have := hlN x hx; omega) ?_
    simp only [Option.toList, List.cons_append, List.nil_append]
    refine Ex_if_eq 28 36 dX9_livesMinute_25 (by decide) rfl (fun c2 => ?_) (fun c2 => ?_)
    · refine Ex_aload_n 37 (i := 0) dX9_livesMinute_36 rfl rfl rfl ?_
      refine Ex_iload_n 38 (i := 1) dX9_livesMinute_37 rfl rfl rfl ?_
      refine Ex_callV (M' := MX9_placeOf) 41 [.int (nI w)] (rest := []) dX9_livesMinute_38 lX9_319 mX9_placeOf rfl (xMs_0 hm) rfl (Nat.le_of_ble_eq_true rfl) (Nat.le_of_ble_eq_true rfl) rfl ?_
      refine mc_placeOf hm hS (by omega) (fun x hx => by have := hlN x hx; omega) ?_
      simp only [Option.toList, List.cons_append, List.nil_append]
      refine Ex_if_lt 44 57 dX9_livesMinute_41 (by decide) rfl (fun c3 => ?_) (fun c3 => ?_)
      · refine Ex_fgt (ls' := [some (.ref m), none]) (by simp [xsub]) ?_
        have hni := (hmPlc_lt (by omega)).mp c3
        have e : hmAct O H n = (H, hmDraw n) := by
          unfold hmAct
          rw [if_neg hN0, ew, if_neg (by rw [hmB_eq c2]; decide), if_neg hni]
        rw [e] at hQ
        exact mc_lives_57 hm hS hO ho hok h46 hmn (fun I' f1 f2 => hQ I' L1 f1 gL1 hL1 f2)
      · refine Ex_aload_n 45 (i := 0) dX9_livesMinute_44 rfl rfl rfl ?_
        refine Ex_iconst 46 (v := 4) dX9_livesMinute_45 (by decide) rfl ?_
        refine Ex_callV (M' := MX9_draws) 49 [.int 4] (rest := []) dX9_livesMinute_46 lX9_458 mX9_draws rfl (xMs_0 hm) rfl (Nat.le_of_ble_eq_true rfl) (Nat.le_of_ble_eq_true rfl) rfl ?_
        refine mc_draws hm (k := 4) (by omega) (by omega) hd1 hL1 (fun L2 gL2 hL2 => ?_)
        have hq4 := hmWhom_lt (k := 4) (g := hmDraw (hmDraw n)) (by omega)
        simp only [Option.toList, List.nil_append, List.cons_append]
        refine Ex_if_ne 52 57 dX9_livesMinute_49 (by decide) rfl (fun c4 => ?_) (fun c4 => ?_)
        · refine Ex_fgt (ls' := [some (.ref m), none]) (by simp [xsub]) ?_
          have hwm : w ∈ hmLine H := by
            by_cases z : w ∈ hmLine H
            · exact z
            · exact absurd ((hmPlc_lt (by omega)).mpr z) c3
          have h0 : ¬ hmWhom 4 (hmDraw (hmDraw n)) = 0 := fun q => c4 (by rw [q]; rfl)
          have e : hmAct O H n = (H, hmDraw (hmDraw n)) := by
            unfold hmAct
            rw [if_neg hN0, ew, if_neg (by rw [hmB_eq c2]; decide), if_pos hwm, if_neg h0]
          rw [e] at hQ
          exact mc_lives_57 hm hS hO ho hok h46 hmn (fun I' f1 f2 => hQ I' L2 f1 (gL1.tr gL2) hL2 f2)
        · refine Ex_aload_n 53 (i := 0) dX9_livesMinute_52 rfl rfl rfl ?_
          refine Ex_iload_n 54 (i := 1) dX9_livesMinute_53 rfl rfl rfl ?_
          refine Ex_callV (M' := MX9_ends) 57 [.int (nI w)] (rest := []) dX9_livesMinute_54 lX9_335 mX9_ends rfl (xMs_0 hm) rfl (Nat.le_of_ble_eq_true rfl) (Nat.le_of_ble_eq_true rfl) rfl ?_
          have hwm : w ∈ hmLine H := by
            by_cases z : w ∈ hmLine H
            · exact z
            · exact absurd ((hmPlc_lt (by omega)).mpr z) c3
          refine mc_ends hm hS hwm hlN (fun r' hr' => ?_)
          simp only [Option.toList, List.nil_append, List.cons_append]
          refine Ex_fgt (ls' := [some (.ref m), none]) (by simp [xsub]) ?_
          have h0 : hmWhom 4 (hmDraw (hmDraw n)) = 0 := (nI_eq (b := 0) (by omega) (by omega)).mp c4
          have e : hmAct O H n = (hmLeave H w, hmDraw (hmDraw n)) := by
            unfold hmAct
            rw [if_neg hN0, ew, if_neg (by rw [hmB_eq c2]; decide), if_pos hwm, if_pos h0]
          rw [e] at hQ
          exact mc_lives_57 hm (by rw [va_up_self]; exact hr') (hO.kept (fun x a b => va_up_ne _ _ (by omega))) ho (hmOk_leave hok) (by rw [va_up_ne _ _ (by omega)]; exact h46) (by unfold hmLeave; rw [if_pos hwm]; exact hmn) (fun I' f1 f2 => hQ I' L2 (hmFm.u28.tr f1) (gL1.tr gL2) hL2 f2)
    · refine Ex_aload_n 29 (i := 0) dX9_livesMinute_28 rfl rfl rfl ?_
      refine Ex_iload_n 30 (i := 1) dX9_livesMinute_29 rfl rfl rfl ?_
      refine Ex_callV (M' := MX9_rings) 33 [.int (nI w)] (rest := []) dX9_livesMinute_30 lX9_360 mX9_rings rfl (xMs_0 hm) rfl (Nat.le_of_ble_eq_true rfl) (Nat.le_of_ble_eq_true rfl) rfl ?_
      have hcan := hmB_ne c2
      have hni : w ∉ hmLine H := by
        have h2 : hmBit (hmSet H) w = false ∧ w ∉ hmLine H := by simpa [hmCanRing] using hcan
        exact h2.2
      have hroom := hmOk_room hok ho hw hni
      refine mc_rings hm hS (by omega) hroom (fun r' hr' => ?_)
      simp only [Option.toList, List.nil_append, List.cons_append]
      refine Ex_goto 57 dX9_livesMinute_33 (by decide) ?_
      refine Ex_fgt (ls' := [some (.ref m), none]) (by simp [xsub]) ?_
      have e : hmAct O H n = (hmCome H w, hmDraw n) := by
        unfold hmAct
        rw [if_neg hN0, ew, if_pos hcan]
      rw [e] at hQ
      exact mc_lives_57 hm (by rw [va_up_self]; exact hr') (hO.kept (fun x a b => va_up_ne _ _ (by omega))) ho (hmOk_come hok ho hw hcan) (by rw [va_up_ne _ _ (by omega)]; exact h46) (by exact hmn) (fun I' f1 f2 => hQ I' L1 (hmFm.u28.tr f1) gL1 hL1 f2)
set_option maxHeartbeats 4000000 in
theorem mb_days_loop {d : Nat} {sh : xSh} {R : xR} {L : xL} {I : xI} {Q : xQ} {m : Nat} {O : hmO} {H : hmH} (hm : xModel sh R m) (hO : hmMo I m O) (ho : hmOok O) (hok : hmOk O H) (h46 : I m 46 = nI (hmTk O)) (hmn : hmMin H < 800000) {s u : Nat} (hs : s < 10000) (hu : u < 100) {qw : Int32} (hE : ∀ J LJ, hmFm m I J → hmLg m L LJ → hmMr (J (m + 28)) (hmRun O H s u).1 → Ex (d + 8) 0 0 MX9_days 0 sh R LJ J 83 [some (.ref m), some (.int (nI s)), some (.int (nI u)), some (.int qw), some (.int ((hmRun O H s u).2.2)), none, none] [] Q) : ∀ n k J LJ, n + k = u → hmFm m I J → hmLg m L LJ → hmMr (J (m + 28)) (hmRun O H s k).1 → LJ m 59 = nL (hmRun O H s k).2.1 → Ex (d + 8) 0 0 MX9_days 0 sh R LJ J 62 [some (.ref m), some (.int (nI s)), some (.int (nI u)), some (.int qw), some (.int ((hmRun O H s k).2.2)), some (.int (nI k)), none] [] Q := by
  intro n
  induction n with
  | zero =>
    intro k J LJ hk gJ gL hSJ hLJ
    have hOJ : hmMo J m O := hO.kept (fun x a b => gJ x (by omega) (by omega))
    obtain ⟨hokJ, hmJ, hgJ⟩ := hmRun_ok (s := s) hok ho (by omega) k
    have hku : k = u := by omega
    subst hku
    refine Ex_iload 64 dX9_days_62 rfl rfl ?_
    refine Ex_iload_n 65 (i := 2) dX9_days_64 rfl rfl rfl ?_
    refine Ex_icmp_ge 68 83 dX9_days_65 (by decide) rfl (fun c1 => ?_) (fun c1 => absurd c1 (fun q => q (nI_le (by omega) (by omega))))
    refine Ex_fgt (ls' := [some (.ref m), some (.int (nI s)), some (.int (nI k)), some (.int qw), some (.int ((hmRun O H s k).2.2)), none, none]) (by simp [xsub]) ?_
    exact hE J LJ gJ gL hSJ
  | succ n ih =>
    intro k J LJ hk gJ gL hSJ hLJ
    have hOJ : hmMo J m O := hO.kept (fun x a b => gJ x (by omega) (by omega))
    obtain ⟨hokJ, hmJ, hgJ⟩ := hmRun_ok (s := s) hok ho (by omega) k
    refine Ex_iload 64 dX9_days_62 rfl rfl ?_
    refine Ex_iload_n 65 (i := 2) dX9_days_64 rfl rfl rfl ?_
    refine Ex_icmp_ge 68 83 dX9_days_65 (by decide) rfl (fun c1 => absurd c1 (nI_ge (by omega) (by omega))) (fun c1 => ?_)
    refine Ex_iload 70 dX9_days_68 rfl rfl ?_
    refine Ex_aload_n 71 (i := 0) dX9_days_70 rfl rfl rfl ?_
    refine Ex_callV (M' := MX9_livesMinute) 74 [] (rest := [.int ((hmRun O H s k).2.2)]) dX9_days_71 lX9_461 mX9_livesMinute rfl (xMs_0 hm) rfl (Nat.le_of_ble_eq_true rfl) (Nat.le_of_ble_eq_true rfl) rfl ?_
    refine mc_livesMinute hm hSJ hOJ ho hokJ (by rw [gJ m (by omega) (by omega)]; exact h46) (by omega) hgJ hLJ (fun I1 L1 f1 gL1 hL1 hS1 => ?_)
    simp only [Option.toList, List.nil_append, List.cons_append]
    refine Ex_iadd 75 dX9_days_74 rfl ?_
    refine Ex_istore 77 (ls' := [some (.ref m), some (.int (nI s)), some (.int (nI u)), some (.int qw), some (.int (((hmRun O H s k).2.2) + (hmCnt (hmSet (hmMinute O (hmTk O) (hmAct O (hmRun O H s k).1 (hmRun O H s k).2.1).1) &&& (hmSet (hmAct O (hmRun O H s k).1 (hmRun O H s k).2.1).1 ^^^ -1))))), some (.int (nI k)), none]) dX9_days_75 (Nat.le_of_ble_eq_true rfl) rfl rfl rfl ?_
    refine Ex_iinc 80 (v := (nI (k + 1))) (ls' := [some (.ref m), some (.int (nI s)), some (.int (nI u)), some (.int qw), some (.int (((hmRun O H s k).2.2) + (hmCnt (hmSet (hmMinute O (hmTk O) (hmAct O (hmRun O H s k).1 (hmRun O H s k).2.1).1) &&& (hmSet (hmAct O (hmRun O H s k).1 (hmRun O H s k).2.1).1 ^^^ -1))))), some (.int (nI (k + 1))), none]) dX9_days_77 rfl (xinc _) (Nat.le_of_ble_eq_true rfl) rfl rfl rfl ?_
    refine Ex_goto 62 dX9_days_80 (by decide) ?_
    exact ih (k + 1) I1 L1 (by omega) (gJ.tr f1) (gL.tr gL1) hS1 hL1
theorem hm_w99 {v : Int32} : hmWith v 1 99 = true ↔ (hmCal 100 v = true ∧ ¬ v = 0) := by
  have e1 : (1 : Int32).toInt = 1 := by decide
  have e20 : (99 : Int32).toInt = 99 := by decide
  have e0 : (0 : Int32).toInt = 0 := by decide
  simp only [hmWith, hmCal, decide_eq_true_eq, Int32.not_lt, Int32.le_iff_toInt_le, e1, e20]
  constructor
  · intro h
    refine ⟨by omega, fun q => ?_⟩
    rw [q, e0] at h
    omega
  · intro h
    have h2 : ¬ v.toInt = 0 := fun q => h.2 (Int32.toInt_inj.mp (q.trans e0.symm))
    omega
theorem hm_w9999 {v : Int32} : hmWith v 0 9999 = hmCal 10000 v := by
  unfold hmWith hmCal
  apply decide_eq_decide.mpr
  rw [Int32.not_lt, Int32.not_lt, Int32.le_iff_toInt_le, Int32.le_iff_toInt_le]
  have e0 : (0 : Int32).toInt = 0 := by decide
  have e9 : (9999 : Int32).toInt = 9999 := by decide
  omega
set_option maxHeartbeats 4000000 in
theorem mb_days {d : Nat} {sh : xSh} {R : xR} {L : xL} {I : xI} {Q : xQ} {m : Nat} {O : hmO} {H : hmH} (hm : xModel sh R m) (hS : hmMr (I (m + 28)) H) (hO : hmMo I m O) (ho : hmOok O) (hok : hmOk O H) (h46 : I m 46 = nI (hmTk O)) (hmn : hmMin H < 800000) {qv qu qw : Int32} (hQ : ∀ I' L', hmMg m I I' → hmLg m L L' → hmMr (I' (m + 28)) H → Q (some (.int (spDays O H qv qu qw))) 0 sh R L' I') : Ex (d + 8) 0 0 MX9_days 0 sh R L I 5 [some (.ref m), some (.int qv), some (.int qu), some (.int qw), none, none, none] [] Q := by
  refine Ex_iload_n 6 (i := 1) dX9_days_5 rfl rfl rfl ?_
  refine Ex_iconst 7 (v := 0) dX9_days_6 (by decide) rfl ?_
  refine Ex_sipush 10 (v := 9999) dX9_days_7 (by decide) rfl ?_
  refine Ex_callS (M' := MX9_within) 13 [.int qv, .int 0, .int 9999] (rest := []) dX9_days_10 lX9_244 mX9_within rfl rfl (Nat.le_of_ble_eq_true rfl) (Nat.le_of_ble_eq_true rfl) rfl ?_
  refine mc_within ?_
  simp only [Option.toList, List.cons_append, List.nil_append]
  refine Ex_if_eq 16 35 dX9_days_13 (by decide) rfl (fun c1 => ?_) (fun c1 => ?_)
  · refine Ex_iconst 36 (v := (-1)) dX9_days_35 (by decide) rfl ?_
    refine Ex_iret dX9_days_36 rfl rfl (Or.inl rfl) ?_
    have e : spDays O H qv qu qw = -1 := by
      unfold spDays
      rw [if_neg (fun q => absurd (hm_w9999.trans q.1) (by rw [hmB_eq c1]; decide))]
    rw [← e]
    exact hQ _ _ hmMg.rf hmLg.rf hS
  · refine Ex_iload_n 17 (i := 2) dX9_days_16 rfl rfl rfl ?_
    refine Ex_iconst 18 (v := 1) dX9_days_17 (by decide) rfl ?_
    refine Ex_bipush 20 (v := 99) dX9_days_18 (by decide) rfl ?_
    refine Ex_callS (M' := MX9_within) 23 [.int qu, .int 1, .int 99] (rest := []) dX9_days_20 lX9_244 mX9_within rfl rfl (Nat.le_of_ble_eq_true rfl) (Nat.le_of_ble_eq_true rfl) rfl ?_
    refine mc_within ?_
    simp only [Option.toList, List.cons_append, List.nil_append]
    refine Ex_if_eq 26 35 dX9_days_23 (by decide) rfl (fun c2 => ?_) (fun c2 => ?_)
    · refine Ex_iconst 36 (v := (-1)) dX9_days_35 (by decide) rfl ?_
      refine Ex_iret dX9_days_36 rfl rfl (Or.inl rfl) ?_
      have e : spDays O H qv qu qw = -1 := by
        unfold spDays
        rw [if_neg (fun q => absurd (hm_w99.mpr q.2.1) (by rw [hmB_eq c2]; decide))]
      rw [← e]
      exact hQ _ _ hmMg.rf hmLg.rf hS
    · refine Ex_iload_n 27 (i := 3) dX9_days_26 rfl rfl rfl ?_
      refine Ex_iconst 28 (v := 0) dX9_days_27 (by decide) rfl ?_
      refine Ex_iconst 29 (v := 2) dX9_days_28 (by decide) rfl ?_
      refine Ex_callS (M' := MX9_within) 32 [.int qw, .int 0, .int 2] (rest := []) dX9_days_29 lX9_244 mX9_within rfl rfl (Nat.le_of_ble_eq_true rfl) (Nat.le_of_ble_eq_true rfl) rfl ?_
      refine mc_within ?_
      simp only [Option.toList, List.cons_append, List.nil_append]
      refine Ex_if_ne 35 37 dX9_days_32 (by decide) rfl (fun c3 => ?_) (fun c3 => ?_)
      · have k1 : hmCal 10000 qv = true := by
          rw [← hm_w9999]
          exact hmB_ne c1
        have k2 := hm_w99.mp (hmB_ne c2)
        have k3 : hmCal 3 qw = true := by
          rw [← hmWith_cal (k := 2) (by omega)]
          exact hmB_ne c3
        obtain ⟨s, hs, rfl⟩ := hmCal_of k1
        obtain ⟨u, hu, rfl⟩ := hmCal_of k2.1
        have es : hmIx (nI s) = s := hmIx_nI (by omega)
        have eu : hmIx (nI u) = u := hmIx_nI (by omega)
        have ed : spDays O H (nI s) (nI u) qw = (if qw = 0 then (hmRun O H s u).2.2 else if qw = 1 then hmBits (hmLine (hmRun O H s u).1) else hmAll (hmHas (hmRun O H s u).1) (hmN O)) := by
          unfold spDays
          rw [if_pos ⟨k1, k2, k3⟩, es, eu]
        rw [ed] at hQ
        refine Ex_aload_n 38 (i := 0) dX9_days_37 rfl rfl rfl ?_
        refine Ex_iload_n 39 (i := 1) dX9_days_38 rfl rfl rfl ?_
        refine Ex_i2l 40 dX9_days_39 rfl ?_
        rw [hm_i2l (by omega)]
        refine Ex_pL 43 (L m) (va_up L m (va_up (L m) 59 (nL s))) dX9_days_40 fX9_447 rfl (xMs_0 hm) rfl rfl rfl ?_
        refine Ex_aload_n 44 (i := 0) dX9_days_43 rfl rfl rfl ?_
        refine Ex_getR 47 dX9_days_44 fX9_93 (xMs_0 hm) rfl (xMr_39 hm) rfl ?_
        refine Ex_iconst 48 (v := 0) dX9_days_47 (by decide) rfl ?_
        refine Ex_aload_n 49 (i := 0) dX9_days_48 rfl rfl rfl ?_
        refine Ex_getR 52 dX9_days_49 fX9_96 (xMs_0 hm) rfl (xMr_40 hm) rfl ?_
        refine Ex_iconst 53 (v := 0) dX9_days_52 (by decide) rfl ?_
        refine Ex_callS (M' := MX9_copies) 56 [.ref (m + 28), .int 0, .ref (m + 29), .int 0] (rest := []) dX9_days_53 lX9_350 mX9_copies rfl rfl (Nat.le_of_ble_eq_true rfl) (Nat.le_of_ble_eq_true rfl) rfl ?_
        refine mc_cp (np := 58) (nq := 58) (a := 0) (b := 0) (J := (va_up I (m + 29) (va_cpy (I (m + 28)) (I (m + 29)) 0 0 58))) (xMs_28 hm) (xMs_29 hm) (by omega) (by omega) (by omega) (by omega) (by omega) rfl rfl rfl ?_
        simp only [Option.toList, List.nil_append, List.cons_append]
        refine Ex_iconst 57 (v := 0) dX9_days_56 (by decide) rfl ?_
        refine Ex_istore 59 (ls' := [some (.ref m), some (.int (nI s)), some (.int (nI u)), some (.int qw), some (.int 0), none, none]) dX9_days_57 (Nat.le_of_ble_eq_true rfl) rfl rfl rfl ?_
        refine Ex_iconst 60 (v := 0) dX9_days_59 (by decide) rfl ?_
        refine Ex_istore 62 (ls' := [some (.ref m), some (.int (nI s)), some (.int (nI u)), some (.int qw), some (.int 0), some (.int 0), none]) dX9_days_60 (Nat.le_of_ble_eq_true rfl) rfl rfl rfl ?_
        refine mb_days_loop (I := va_up I (m + 29) (va_cpy (I (m + 28)) (I (m + 29)) 0 0 58)) hm (hO.kept (fun x a b => va_up_ne _ _ (by omega))) ho hok (by rw [va_up_ne _ _ (by omega)]; exact h46) hmn hs hu (fun J LJ gJ gL hSJ => ?_) u 0 _ _ (by omega) hmFm.rf hmLg.rf (by rw [va_up_ne _ _ (by omega)]; exact hS) (by rw [va_up_self, va_up_self]; rfl)
        have hOJ : hmMo J m O := hO.kept (fun x a b => by rw [gJ x (by omega) (by omega), va_up_ne _ _ (by omega)])
        obtain ⟨hokU, hmU, hgU⟩ := hmRun_ok (s := s) hok ho (by omega) u
        have gL2 : hmLg m L LJ := hmLg.tr ⟨fun x a => va_up_ne _ _ a, fun j a => by rw [va_up_self, va_up_ne _ _ a]⟩ gL
        refine Ex_aload_n 84 (i := 0) dX9_days_83 rfl rfl rfl ?_
        refine Ex_callV (M' := MX9_onLine) 87 [] (rest := []) dX9_days_84 lX9_408 mX9_onLine rfl (xMs_0 hm) rfl (Nat.le_of_ble_eq_true rfl) (Nat.le_of_ble_eq_true rfl) rfl ?_
        refine mc_onLine hm hSJ ?_
        simp only [Option.toList, List.cons_append, List.nil_append]
        refine Ex_istore 89 (ls' := [some (.ref m), some (.int (nI s)), some (.int (nI u)), some (.int qw), some (.int ((hmRun O H s u).2.2)), some (.int (hmBits (hmLine (hmRun O H s u).1))), none]) dX9_days_87 (Nat.le_of_ble_eq_true rfl) rfl rfl rfl ?_
        refine Ex_aload_n 90 (i := 0) dX9_days_89 rfl rfl rfl ?_
        refine Ex_callV (M' := MX9_allAnswers) 93 [] (rest := []) dX9_days_90 lX9_464 mX9_allAnswers rfl (xMs_0 hm) rfl (Nat.le_of_ble_eq_true rfl) (Nat.le_of_ble_eq_true rfl) rfl ?_
        refine mc_allAnswers hm hSJ hOJ ho hokU ?_
        simp only [Option.toList, List.cons_append, List.nil_append]
        refine Ex_istore 95 (ls' := [some (.ref m), some (.int (nI s)), some (.int (nI u)), some (.int qw), some (.int ((hmRun O H s u).2.2)), some (.int (hmBits (hmLine (hmRun O H s u).1))), some (.int (hmAll (hmHas (hmRun O H s u).1) (hmN O)))]) dX9_days_93 (Nat.le_of_ble_eq_true rfl) rfl rfl rfl ?_
        refine Ex_aload_n 96 (i := 0) dX9_days_95 rfl rfl rfl ?_
        refine Ex_getR 99 dX9_days_96 fX9_96 (xMs_0 hm) rfl (xMr_40 hm) rfl ?_
        refine Ex_iconst 100 (v := 0) dX9_days_99 (by decide) rfl ?_
        refine Ex_aload_n 101 (i := 0) dX9_days_100 rfl rfl rfl ?_
        refine Ex_getR 104 dX9_days_101 fX9_93 (xMs_0 hm) rfl (xMr_39 hm) rfl ?_
        refine Ex_iconst 105 (v := 0) dX9_days_104 (by decide) rfl ?_
        refine Ex_callS (M' := MX9_copies) 108 [.ref (m + 29), .int 0, .ref (m + 28), .int 0] (rest := []) dX9_days_105 lX9_350 mX9_copies rfl rfl (Nat.le_of_ble_eq_true rfl) (Nat.le_of_ble_eq_true rfl) rfl ?_
        refine mc_cp (np := 58) (nq := 58) (a := 0) (b := 0) (J := (va_up J (m + 28) (va_cpy (J (m + 29)) (J (m + 28)) 0 0 58))) (xMs_29 hm) (xMs_28 hm) (by omega) (by omega) (by omega) (by omega) (by omega) rfl rfl rfl ?_
        simp only [Option.toList, List.nil_append, List.cons_append]
        refine Ex_iload_n 109 (i := 3) dX9_days_108 rfl rfl rfl ?_
        refine Ex_if_ne 112 117 dX9_days_109 (by decide) rfl (fun c61 => ?_) (fun c61 => ?_)
        · refine Ex_iload_n 118 (i := 3) dX9_days_117 rfl rfl rfl ?_
          refine Ex_iconst 119 (v := 1) dX9_days_118 (by decide) rfl ?_
          refine Ex_icmp_ne 122 127 dX9_days_119 (by decide) rfl (fun c62 => ?_) (fun c62 => ?_)
          · refine Ex_iload 129 dX9_days_127 rfl rfl ?_
            refine Ex_iret dX9_days_129 rfl rfl (Or.inl rfl) ?_
            have e29 : J (m + 29) = va_cpy (I (m + 28)) (I (m + 29)) 0 0 58 := by
              rw [gJ (m + 29) (by omega) (by omega), va_up_self]
            have gI : hmMg m I (va_up J (m + 28) (va_cpy (J (m + 29)) (J (m + 28)) 0 0 58)) := hmMg.up (hmMg.tr (hmMg.up hmMg.rf (by unfold hmMt; omega)) (hmMg.fm gJ)) (by unfold hmMt; omega)
            have hSf : hmMr (va_up J (m + 28) (va_cpy (J (m + 29)) (J (m + 28)) 0 0 58) (m + 28)) H := by
              rw [va_up_self, e29]
              exact hS.cpy rfl _
            have e : (if qw = 0 then (hmRun O H s u).2.2 else if qw = 1 then hmBits (hmLine (hmRun O H s u).1) else hmAll (hmHas (hmRun O H s u).1) (hmN O)) = hmAll (hmHas (hmRun O H s u).1) (hmN O) := by
              rw [if_neg c61, if_neg c62]
            rw [e] at hQ
            exact hQ _ LJ gI gL2 hSf
          · refine Ex_iload 124 dX9_days_122 rfl rfl ?_
            refine Ex_goto 129 dX9_days_124 (by decide) ?_
            refine Ex_iret dX9_days_129 rfl rfl (Or.inl rfl) ?_
            have e29 : J (m + 29) = va_cpy (I (m + 28)) (I (m + 29)) 0 0 58 := by
              rw [gJ (m + 29) (by omega) (by omega), va_up_self]
            have gI : hmMg m I (va_up J (m + 28) (va_cpy (J (m + 29)) (J (m + 28)) 0 0 58)) := hmMg.up (hmMg.tr (hmMg.up hmMg.rf (by unfold hmMt; omega)) (hmMg.fm gJ)) (by unfold hmMt; omega)
            have hSf : hmMr (va_up J (m + 28) (va_cpy (J (m + 29)) (J (m + 28)) 0 0 58) (m + 28)) H := by
              rw [va_up_self, e29]
              exact hS.cpy rfl _
            have e : (if qw = 0 then (hmRun O H s u).2.2 else if qw = 1 then hmBits (hmLine (hmRun O H s u).1) else hmAll (hmHas (hmRun O H s u).1) (hmN O)) = hmBits (hmLine (hmRun O H s u).1) := by
              rw [if_neg c61, if_pos c62]
            rw [e] at hQ
            exact hQ _ LJ gI gL2 hSf
        · refine Ex_iload 114 dX9_days_112 rfl rfl ?_
          refine Ex_goto 129 dX9_days_114 (by decide) ?_
          refine Ex_iret dX9_days_129 rfl rfl (Or.inl rfl) ?_
          have e29 : J (m + 29) = va_cpy (I (m + 28)) (I (m + 29)) 0 0 58 := by
            rw [gJ (m + 29) (by omega) (by omega), va_up_self]
          have gI : hmMg m I (va_up J (m + 28) (va_cpy (J (m + 29)) (J (m + 28)) 0 0 58)) := hmMg.up (hmMg.tr (hmMg.up hmMg.rf (by unfold hmMt; omega)) (hmMg.fm gJ)) (by unfold hmMt; omega)
          have hSf : hmMr (va_up J (m + 28) (va_cpy (J (m + 29)) (J (m + 28)) 0 0 58) (m + 28)) H := by
            rw [va_up_self, e29]
            exact hS.cpy rfl _
          have e : (if qw = 0 then (hmRun O H s u).2.2 else if qw = 1 then hmBits (hmLine (hmRun O H s u).1) else hmAll (hmHas (hmRun O H s u).1) (hmN O)) = (hmRun O H s u).2.2 := by
            rw [if_pos c61]
          rw [e] at hQ
          exact hQ _ LJ gI gL2 hSf
      · refine Ex_iconst 36 (v := (-1)) dX9_days_35 (by decide) rfl ?_
        refine Ex_iret dX9_days_36 rfl rfl (Or.inl rfl) ?_
        have e : spDays O H qv qu qw = -1 := by
          unfold spDays
          rw [if_neg (fun q => absurd ((hmWith_cal (k := 2) (by omega)).trans q.2.2) (by show ¬ hmWith qw 0 2 = true; rw [hmB_eq c3]; decide))]
        rw [← e]
        exact hQ _ _ hmMg.rf hmLg.rf hS
set_option maxHeartbeats 4000000 in
theorem mq_days {d : Nat} {sh : xSh} {R : xR} {L : xL} {I : xI} {Q : xQ} {m : Nat} {O : hmO} {H : hmH} (hm : xModel sh R m) (hS : hmMr (I (m + 28)) H) (hO : hmMo I m O) (ho : hmOok O) (hok : hmOk O H) (h46 : I m 46 = nI (hmTk O)) (hmn : hmMin H < 800000) {qv qu qw : Int32} (hQ : ∀ I' L', hmMg m (hmTh I m) I' → hmLg m L L' → hmMr (I' (m + 28)) H → Q (some (.int (spDays O H qv qu qw))) 0 sh R L' I') : Ex (d + 8) 0 0 MX9_days 0 sh R L I 0 [some (.ref m), some (.int qv), some (.int qu), some (.int qw), none, none, none] [] Q := by
  refine Ex_aload_n 1 (i := 0) dX9_days_0 rfl rfl rfl ?_
  refine Ex_iconst 2 (v := 0) dX9_days_1 (by decide) rfl ?_
  refine Ex_pI 5 (I m) (va_up I m (va_up (I m) 0 0)) dX9_days_2 fX9_130 rfl (xMs_0 hm) rfl (fun _ => rfl) rfl rfl rfl rfl ?_
  exact mb_days hm (hmTh_mr hS) (hmTh_mo hO) ho hok ((hmTh_f (by omega)).trans h46) hmn hQ
