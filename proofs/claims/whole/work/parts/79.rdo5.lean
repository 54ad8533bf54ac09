set_option maxHeartbeats 4000000 in
theorem c_deskClear {d : Nat} {sh : xSh} {R : xR} {L : xL} {I : xI} {Q : xQ} {dd : Nat} (hdd : xDesk sh R dd) (hQ : Q none 0 sh R L (va_up (va_up I dd (va_up (va_up (I dd) 6 0) 7 5)) (dd + 6) (va_up (I (dd + 6)) 2 0))) : Ex (d + 1) 0 0 MX0_clear 0 sh R L I 0 [some (.ref dd)] [] Q := by
  refine Ex_aload_n 1 (i := 0) dX0_clear_0 rfl rfl rfl ?_
  refine Ex_iconst 2 (v := 0) dX0_clear_1 (by decide) rfl ?_
  refine Ex_pI 5 (I dd) (va_up I dd (va_up (I dd) 6 0)) dX0_clear_2 fX0_39 rfl hdd.1 rfl (fun _ => rfl) rfl rfl rfl rfl ?_
  refine Ex_aload_n 6 (i := 0) dX0_clear_5 rfl rfl rfl ?_
  refine Ex_iconst 7 (v := 5) dX0_clear_6 (by decide) rfl ?_
  refine Ex_pI 10 (va_up (I dd) 6 0) (va_up I dd (va_up (va_up (I dd) 6 0) 7 5)) dX0_clear_7 fX0_35 rfl hdd.1 rfl (fun _ => rfl) (va_up_self _ _ _) rfl (va_up_up _ _ _ _) rfl ?_
  refine Ex_aload_n 11 (i := 0) dX0_clear_10 rfl rfl rfl ?_
  refine Ex_getR 14 dX0_clear_11 fX0_31 hdd.1 rfl hdd.2.2.2.2.2.2.2.2.2.2.2.2.2.2.1 rfl ?_
  refine Ex_callV (M' := MX2_clear) 17 [] (rest := []) dX0_clear_14 lX0_42 mX2_clear rfl hdd.2.2.2.2.2.2.1 rfl (Nat.le_of_ble_eq_true rfl) (Nat.le_of_ble_eq_true rfl) rfl ?_
  refine c_lawClear (xD_law hdd) ?_
  simp only [Option.toList, List.nil_append, List.cons_append]
  refine Ex_ret0 dX0_clear_17 rfl (Or.inl rfl) ?_
  rw [va_up_ne _ _ (show dd + 6 ≠ dd by omega)]
  exact hQ
theorem hmTsR_ok {T : List Nat} : ∀ (ts : List hmTok) (p : Nat), hmTsR T ts p → hmTsOk ts := by
  intro ts
  induction ts with
  | nil => intro p h; exact absurd h (by simp [hmTsR])
  | cons t r ih =>
    intro p h x hx
    rcases List.mem_cons.mp hx with q | q
    · rw [q]
      exact hmTsR_hd h
    · by_cases c : t.1 = 0
      · rw [hmTsR_last h c] at q
        exact absurd q (by simp)
      · exact ih _ (hmTsR_next h c) x q
theorem hmCx_ok {I : xI} {L : xL} {a : Nat} {T : List Nat} {t : hmTok} {r : List hmTok} (h : hmCx I L a T t r) : hmTsOk (t :: r) := by
  intro x hx
  rcases List.mem_cons.mp hx with q | q
  · rw [q]
    exact h.2.2.2.2.2.2.1
  · by_cases c : t.1 = 0
    · rw [h.2.2.2.2.1 c] at q
      exact absurd q (by simp)
    · obtain ⟨p, -, h6⟩ := h.2.2.2.2.2.1 c
      exact hmTsR_ok _ _ h6 x q
def hmDr0 : hmDr := ([], none, none)
/-- what reading an office or a day may change, the tape being emptied -/
def hmRz (a dd k : Nat) (I I' : xI) : Prop := ∀ x, x ≠ a → x ≠ a + 1 → ¬ (dd ≤ x ∧ x < dd + k) → I' x = I x
theorem hmRO_c {n : Nat} {D : hmDr} {t : hmTok} {r : List hmTok} : hmRO (n + 1) D (t :: r) = if t.1 = 0 then .inr D else hmBd (hmOL D (t :: r)) (fun p => hmRO n p.1 p.2) := rfl
set_option maxHeartbeats 4000000 in
theorem c_readOffice_loop {d : Nat} {sh : xSh} {R : xR} {L : xL} {I : xI} {Q : xQ} {a dd : Nat} {T : List Nat} (ha : xReader sh R a) (hdd : xDesk sh R dd) (hdis : a + 3 ≤ dd ∨ dd + 9 ≤ a) (hc : ∀ x, x ∈ T → x < 127) {ts : List hmTok} (hF : ∀ F I' L', hmRO 1000 hmDr0 ts = .inl F → 1 ≤ F → F < 20000 → hmRz a dd 9 I I' → hmOm a dd L L' → I' (a + 1) 1 = 0 → Q (some (.int (nI F))) 0 sh R L' I') (hQ : ∀ D lw I' L', hmRO 1000 hmDr0 ts = .inr D → hmDrOk D → hmRz a dd 9 I I' → hmOm a dd L L' → I' (a + 1) 1 = 0 → hmDq I' L' a dd D lw → Q (some (.int 0)) 0 sh R L' I') : ∀ (k i : Nat) (t : hmTok) (r : List hmTok) (D : hmDr) (lw : List Int32) (J : xI) (LL : xL), k + i = 1000 → (t :: r).length ≤ k + 1 → hmRO 1000 hmDr0 ts = hmRO k D (t :: r) → hmDrOk D → hmRz a dd 9 I J → hmOm a dd L LL → J a 1 = 0 → hmDq J LL a dd D lw → hmCx J LL a T t r → Ex (d + 41) 0 0 MX5_readOffice 0 sh R LL J 30 [some (.ref a), some (.ref dd), some (.int 1), some (.int (nI i))] [] Q := by
  intro k
  induction k with
  | zero =>
    intro i t r D lw J LL hk hlen he hDk gJ gL j1 hD hC
    obtain ⟨s2, s3, sv, s0, s5, sk, sp⟩ := id hC.2
    have k4 := sk.2.2.2
    refine Ex_iload_n 31 (i := 3) dX5_readOffice_30 rfl rfl rfl ?_
    refine Ex_sipush 34 (v := 1000) dX5_readOffice_31 (by decide) rfl ?_
    refine Ex_icmp_ge 37 63 dX5_readOffice_34 (by decide) rfl (fun c1 => ?_) (fun c1 => absurd c1 (fun q => q (nI_le (a := 1000) (by omega) (by omega))))
    refine Ex_aload_n 64 (i := 0) dX5_readOffice_63 rfl rfl rfl ?_
    refine Ex_getR 67 dX5_readOffice_64 fX5_12 ha.1 rfl ha.2.2.2.1 rfl ?_
    refine Ex_callV (M' := MX7_clear) 70 [] (rest := []) dX5_readOffice_67 lX5_44 mX7_clear rfl ha.2.1 rfl (Nat.le_of_ble_eq_true rfl) (Nat.le_of_ble_eq_true rfl) rfl ?_
    refine c_tapeClear (xR_t ha) ?_
    simp only [Option.toList, List.nil_append, List.cons_append]
    refine Ex_aload_n 71 (i := 0) dX5_readOffice_70 rfl rfl rfl ?_
    refine Ex_gI 74 (J a 1) dX5_readOffice_71 fX5_30 ha.1 rfl (congrFun (va_up_ne _ _ (by omega)) _) rfl ?_
    rw [j1]
    refine Ex_iret dX5_readOffice_74 rfl rfl (Or.inl rfl) ?_
    have hDx : hmDq (va_up J (a + 1) (va_up (J (a + 1)) 1 0)) LL a dd D lw := by
      obtain ⟨d1, d2, d3, d4, d5, d7, d8⟩ := id hD
      refine ⟨by rw [va_up_ne _ _ (by omega)]; exact d1, by rw [va_up_ne _ _ (by omega)]; exact d2, fun w hw => by rw [va_up_ne _ _ (by omega), va_up_ne _ _ (by omega), va_up_ne _ _ (by omega), va_up_ne _ _ (by omega)]; exact d3 w hw, d4.kept (va_up_ne _ _ (by omega)) (va_up_ne _ _ (by omega)), d5, by rw [va_up_ne _ _ (by omega)]; exact d7, by rw [va_up_ne _ _ (by omega)]; exact d8⟩
    exact hQ D lw _ LL (he) hDk (fun x p q s => by rw [va_up_ne _ _ q]; exact gJ x p q s) gL (by rw [va_up_self, va_up_self]) hDx
  | succ k ih =>
    intro i t r D lw J LL hk hlen he hDk gJ gL j1 hD hC
    obtain ⟨s2, s3, sv, s0, s5, sk, sp⟩ := id hC.2
    have k4 := sk.2.2.2
    refine Ex_iload_n 31 (i := 3) dX5_readOffice_30 rfl rfl rfl ?_
    refine Ex_sipush 34 (v := 1000) dX5_readOffice_31 (by decide) rfl ?_
    refine Ex_icmp_ge 37 63 dX5_readOffice_34 (by decide) rfl (fun c1 => absurd c1 (nI_ge (b := 1000) (by omega) (by omega))) (fun c1 => ?_)
    refine Ex_iload_n 38 (i := 2) dX5_readOffice_37 rfl rfl rfl ?_
    refine Ex_if_eq 41 63 dX5_readOffice_38 (by decide) rfl (fun c2 => absurd c2 (by decide)) (fun c2 => ?_)
    refine Ex_aload_n 42 (i := 0) dX5_readOffice_41 rfl rfl rfl ?_
    refine Ex_getR 45 dX5_readOffice_42 fX5_12 ha.1 rfl ha.2.2.2.1 rfl ?_
    refine Ex_gI 48 (J (a + 1) 2) dX5_readOffice_45 fX5_37 ha.2.1 rfl rfl rfl ?_
    rw [s2]
    refine Ex_if_eq 51 63 dX5_readOffice_48 (by decide) rfl (fun c3 => ?_) (fun c3 => ?_)
    · have t0 : t.1 = 0 := (nI_eq (b := 0) (by omega) (by omega)).mp c3
      refine Ex_aload_n 64 (i := 0) dX5_readOffice_63 rfl rfl rfl ?_
      refine Ex_getR 67 dX5_readOffice_64 fX5_12 ha.1 rfl ha.2.2.2.1 rfl ?_
      refine Ex_callV (M' := MX7_clear) 70 [] (rest := []) dX5_readOffice_67 lX5_44 mX7_clear rfl ha.2.1 rfl (Nat.le_of_ble_eq_true rfl) (Nat.le_of_ble_eq_true rfl) rfl ?_
      refine c_tapeClear (xR_t ha) ?_
      simp only [Option.toList, List.nil_append, List.cons_append]
      refine Ex_aload_n 71 (i := 0) dX5_readOffice_70 rfl rfl rfl ?_
      refine Ex_gI 74 (J a 1) dX5_readOffice_71 fX5_30 ha.1 rfl (congrFun (va_up_ne _ _ (by omega)) _) rfl ?_
      rw [j1]
      refine Ex_iret dX5_readOffice_74 rfl rfl (Or.inl rfl) ?_
      have hDx : hmDq (va_up J (a + 1) (va_up (J (a + 1)) 1 0)) LL a dd D lw := by
        obtain ⟨d1, d2, d3, d4, d5, d7, d8⟩ := id hD
        refine ⟨by rw [va_up_ne _ _ (by omega)]; exact d1, by rw [va_up_ne _ _ (by omega)]; exact d2, fun w hw => by rw [va_up_ne _ _ (by omega), va_up_ne _ _ (by omega), va_up_ne _ _ (by omega), va_up_ne _ _ (by omega)]; exact d3 w hw, d4.kept (va_up_ne _ _ (by omega)) (va_up_ne _ _ (by omega)), d5, by rw [va_up_ne _ _ (by omega)]; exact d7, by rw [va_up_ne _ _ (by omega)]; exact d8⟩
      exact hQ D lw _ LL (by rw [he, hmRO_c, if_pos t0]) hDk (fun x p q s => by rw [va_up_ne _ _ q]; exact gJ x p q s) gL (by rw [va_up_self, va_up_self]) hDx
    · have t0 : ¬ t.1 = 0 := fun q => c3 (by rw [q]; rfl)
      refine Ex_aload_n 52 (i := 0) dX5_readOffice_51 rfl rfl rfl ?_
      refine Ex_aload_n 53 (i := 1) dX5_readOffice_52 rfl rfl rfl ?_
      refine Ex_callV (M' := MX5_officeLine) 56 [.ref dd] (rest := []) dX5_readOffice_53 lX5_40 mX5_officeLine rfl ha.1 rfl (Nat.le_of_ble_eq_true rfl) (Nat.le_of_ble_eq_true rfl) rfl ?_
      refine c_officeLine ha hdd hdis hc hC hD hDk t0 (by omega) (fun F I1 L1 e f1 f2 g1 l1 k1 => ?_) (fun D1 lw1 t1 r1 I1 L1 e ln g1 l1 c1 hD1 hC1 => ?_)
      · simp only [Option.toList, List.nil_append, List.cons_append]
        refine Ex_istore_n 57 (i := 2) (ls' := [some (.ref a), some (.ref dd), some (.int 0), some (.int (nI i))]) dX5_readOffice_56 rfl (Nat.le_of_ble_eq_true rfl) rfl rfl rfl ?_
        refine Ex_iinc 60 (v := (nI (i + 1))) (ls' := [some (.ref a), some (.ref dd), some (.int 0), some (.int (nI (i + 1)))]) dX5_readOffice_57 rfl (xinc _) (Nat.le_of_ble_eq_true rfl) rfl rfl rfl ?_
        refine Ex_goto 30 dX5_readOffice_60 (by decide) ?_
        refine Ex_iload_n 31 (i := 3) dX5_readOffice_30 rfl rfl rfl ?_
        refine Ex_sipush 34 (v := 1000) dX5_readOffice_31 (by decide) rfl ?_
        refine Ex_icmp_ge 37 63 dX5_readOffice_34 (by decide) rfl (fun c4 => ?_) (fun c4 => ?_)
        · refine Ex_aload_n 64 (i := 0) dX5_readOffice_63 rfl rfl rfl ?_
          refine Ex_getR 67 dX5_readOffice_64 fX5_12 ha.1 rfl ha.2.2.2.1 rfl ?_
          refine Ex_callV (M' := MX7_clear) 70 [] (rest := []) dX5_readOffice_67 lX5_44 mX7_clear rfl ha.2.1 rfl (Nat.le_of_ble_eq_true rfl) (Nat.le_of_ble_eq_true rfl) rfl ?_
          refine c_tapeClear (xR_t ha) ?_
          simp only [Option.toList, List.nil_append, List.cons_append]
          refine Ex_aload_n 71 (i := 0) dX5_readOffice_70 rfl rfl rfl ?_
          refine Ex_gI 74 (I1 a 1) dX5_readOffice_71 fX5_30 ha.1 rfl (congrFun (va_up_ne _ _ (by omega)) _) rfl ?_
          refine Ex_iret dX5_readOffice_74 rfl rfl (Or.inl rfl) ?_
          rw [k1]
          exact hF F _ L1 (by rw [he, hmRO_c, if_neg t0, e]; rfl) f1 f2 (fun x p q s => by rw [va_up_ne _ _ q]; exact (g1.1 x p q s).trans (gJ x p q s)) (gL.tr l1) (by rw [va_up_self, va_up_self])
        · refine Ex_iload_n 38 (i := 2) dX5_readOffice_37 rfl rfl rfl ?_
          refine Ex_if_eq 41 63 dX5_readOffice_38 (by decide) rfl (fun c5 => ?_) (fun c5 => absurd c5 (fun q => q (by decide)))
          refine Ex_aload_n 64 (i := 0) dX5_readOffice_63 rfl rfl rfl ?_
          refine Ex_getR 67 dX5_readOffice_64 fX5_12 ha.1 rfl ha.2.2.2.1 rfl ?_
          refine Ex_callV (M' := MX7_clear) 70 [] (rest := []) dX5_readOffice_67 lX5_44 mX7_clear rfl ha.2.1 rfl (Nat.le_of_ble_eq_true rfl) (Nat.le_of_ble_eq_true rfl) rfl ?_
          refine c_tapeClear (xR_t ha) ?_
          simp only [Option.toList, List.nil_append, List.cons_append]
          refine Ex_aload_n 71 (i := 0) dX5_readOffice_70 rfl rfl rfl ?_
          refine Ex_gI 74 (I1 a 1) dX5_readOffice_71 fX5_30 ha.1 rfl (congrFun (va_up_ne _ _ (by omega)) _) rfl ?_
          refine Ex_iret dX5_readOffice_74 rfl rfl (Or.inl rfl) ?_
          rw [k1]
          exact hF F _ L1 (by rw [he, hmRO_c, if_neg t0, e]; rfl) f1 f2 (fun x p q s => by rw [va_up_ne _ _ q]; exact (g1.1 x p q s).trans (gJ x p q s)) (gL.tr l1) (by rw [va_up_self, va_up_self])
      · simp only [Option.toList, List.nil_append, List.cons_append]
        refine Ex_istore_n 57 (i := 2) (ls' := [some (.ref a), some (.ref dd), some (.int 1), some (.int (nI i))]) dX5_readOffice_56 rfl (Nat.le_of_ble_eq_true rfl) rfl rfl rfl ?_
        refine Ex_iinc 60 (v := (nI (i + 1))) (ls' := [some (.ref a), some (.ref dd), some (.int 1), some (.int (nI (i + 1)))]) dX5_readOffice_57 rfl (xinc _) (Nat.le_of_ble_eq_true rfl) rfl rfl rfl ?_
        refine Ex_goto 30 dX5_readOffice_60 (by decide) ?_
        have hk2 := hmOL_inr e (hmCx_ok hC) hDk
        exact ih (i + 1) t1 r1 D1 lw1 I1 L1 (by omega) (by omega) (by rw [he, hmRO_c, if_neg t0, e]; rfl) hk2.1 (fun x p q s => (g1.1 x p q s).trans (gJ x p q s)) (gL.tr l1) (c1.trans j1) hD1 hC1
set_option maxHeartbeats 4000000 in
theorem c_readOffice {d : Nat} {sh : xSh} {R : xR} {L : xL} {I : xI} {Q : xQ} {a dd : Nat} {T : List Nat} (ha : xReader sh R a) (hdd : xDesk sh R dd) (hdis : a + 3 ≤ dd ∨ dd + 9 ≤ a) (hc : ∀ x, x ∈ T → x < 127) {t : hmTok} {r : List hmTok} (hT : hmTp I (a + 1) T) (hts : hmTsR T (t :: r) 0) (hlen : (t :: r).length ≤ 1001) (hF : ∀ F I' L', hmRO 1000 hmDr0 (t :: r) = .inl F → 1 ≤ F → F < 20000 → hmRz a dd 9 I I' → hmOm a dd L L' → I' (a + 1) 1 = 0 → Q (some (.int (nI F))) 0 sh R L' I') (hQ : ∀ D lw I' L', hmRO 1000 hmDr0 (t :: r) = .inr D → hmDrOk D → hmRz a dd 9 I I' → hmOm a dd L L' → I' (a + 1) 1 = 0 → hmDq I' L' a dd D lw → Q (some (.int 0)) 0 sh R L' I') : Ex (d + 41) 0 0 MX5_readOffice 0 sh R L I 0 [some (.ref a), some (.ref dd), none, none] [] Q := by
  refine Ex_aload_n 1 (i := 1) dX5_readOffice_0 rfl rfl rfl ?_
  refine Ex_callV (M' := MX0_clear) 4 [] (rest := []) dX5_readOffice_1 lX5_18 mX0_clear rfl hdd.1 rfl (Nat.le_of_ble_eq_true rfl) (Nat.le_of_ble_eq_true rfl) rfl ?_
  refine c_deskClear hdd ?_
  simp only [Option.toList, List.nil_append, List.cons_append]
  refine Ex_aload_n 5 (i := 0) dX5_readOffice_4 rfl rfl rfl ?_
  refine Ex_iconst 6 (v := 0) dX5_readOffice_5 (by decide) rfl ?_
  refine Ex_pI 9 (I a) (va_up (va_up (va_up I dd (va_up (va_up (I dd) 6 0) 7 5)) (dd + 6) (va_up (I (dd + 6)) 2 0)) a (va_up (I a) 3 0)) dX5_readOffice_6 fX5_23 rfl ha.1 (by decide) (fun _ => rfl) ((va_up_ne _ _ (by omega)).trans (va_up_ne _ _ (by omega))) rfl rfl rfl ?_
  refine Ex_aload_n 10 (i := 0) dX5_readOffice_9 rfl rfl rfl ?_
  refine Ex_iconst 11 (v := 0) dX5_readOffice_10 (by decide) rfl ?_
  refine Ex_pI 14 (va_up (I a) 3 0) (va_up (va_up (va_up I dd (va_up (va_up (I dd) 6 0) 7 5)) (dd + 6) (va_up (I (dd + 6)) 2 0)) a (va_up (va_up (I a) 3 0) 4 0)) dX5_readOffice_11 fX5_27 rfl ha.1 (by decide) (fun _ => rfl) (va_up_self _ _ _) rfl (va_up_up _ _ _ _) rfl ?_
  refine Ex_aload_n 15 (i := 0) dX5_readOffice_14 rfl rfl rfl ?_
  refine Ex_iconst 16 (v := 0) dX5_readOffice_15 (by decide) rfl ?_
  refine Ex_pI 19 (va_up (va_up (I a) 3 0) 4 0) (va_up (va_up (va_up I dd (va_up (va_up (I dd) 6 0) 7 5)) (dd + 6) (va_up (I (dd + 6)) 2 0)) a (va_up (va_up (va_up (I a) 3 0) 4 0) 1 0)) dX5_readOffice_16 fX5_30 rfl ha.1 rfl (fun _ => rfl) (va_up_self _ _ _) rfl (va_up_up _ _ _ _) rfl ?_
  refine Ex_aload_n 20 (i := 0) dX5_readOffice_19 rfl rfl rfl ?_
  refine Ex_getR 23 dX5_readOffice_20 fX5_12 ha.1 rfl ha.2.2.2.1 rfl ?_
  refine Ex_callV (M' := MX7_rewind) 26 [] (rest := []) dX5_readOffice_23 lX5_34 mX7_rewind rfl ha.2.1 rfl (Nat.le_of_ble_eq_true rfl) (Nat.le_of_ble_eq_true rfl) rfl ?_
  have hT0 : hmTp (va_up (va_up (va_up I dd (va_up (va_up (I dd) 6 0) 7 5)) (dd + 6) (va_up (I (dd + 6)) 2 0)) a (va_up (va_up (va_up (I a) 3 0) 4 0) 1 0)) (a + 1) T := ⟨hT.1, by rw [va_up_ne _ _ (by omega), va_up_ne _ _ (by omega), va_up_ne _ _ (by omega)]; exact hT.2.1, fun i hi => by rw [va_up_ne _ _ (by omega), va_up_ne _ _ (by omega), va_up_ne _ _ (by omega)]; exact hT.2.2 i hi⟩
  refine c_rewind (xR_t ha) hT0 hc hts (fun I1 L1 gs gt hA => ?_)
  simp only [Option.toList, List.nil_append, List.cons_append]
  refine Ex_iconst 27 (v := 1) dX5_readOffice_26 (by decide) rfl ?_
  refine Ex_istore_n 28 (i := 2) (ls' := [some (.ref a), some (.ref dd), some (.int 1), none]) dX5_readOffice_27 rfl (Nat.le_of_ble_eq_true rfl) rfl rfl rfl ?_
  refine Ex_iconst 29 (v := 0) dX5_readOffice_28 (by decide) rfl ?_
  refine Ex_istore_n 30 (i := 3) (ls' := [some (.ref a), some (.ref dd), some (.int 1), some (.int 0)]) dX5_readOffice_29 rfl (Nat.le_of_ble_eq_true rfl) rfl rfl rfl ?_
  refine c_readOffice_loop (I := I) (L := L) ha hdd hdis hc (ts := t :: r) hF hQ 1000 0 t r hmDr0 [] I1 L1 rfl (by omega) rfl ⟨by decide, fun c hc => absurd hc (by simp [hmDr0]), fun n hn => absurd hn (by simp [hmDr0])⟩ (fun x p q s => by rw [gs.1 x q, va_up_ne _ _ p, va_up_ne _ _ (by omega), va_up_ne _ _ (by omega)]) (hmOm.sl gt) ?_ ⟨?_, ?_, fun w hw => absurd hw (by simp [hmDr0]), ⟨by simp, ?_, fun i hi => absurd hi (by simp)⟩, Or.inl ⟨rfl, rfl⟩, ?_, ?_⟩ ⟨hT0.sp gs, hA⟩
  · rw [gs.1 a (by omega), va_up_self, va_up_self]
  · rw [gs.1 dd (by omega), va_up_ne _ _ (by omega), va_up_ne _ _ (by omega), va_up_self, va_up_ne _ _ (by omega), va_up_self]
    rfl
  · rw [gs.1 dd (by omega), va_up_ne _ _ (by omega), va_up_ne _ _ (by omega), va_up_self, va_up_self]
    rfl
  · rw [gs.1 (dd + 6) (by omega), va_up_ne _ _ (by omega), va_up_self, va_up_self]
    rfl
  · rw [gs.1 a (by omega), va_up_self, va_up_ne _ _ (by omega), va_up_ne _ _ (by omega), va_up_self]
    rfl
  · rw [gs.1 a (by omega), va_up_self, va_up_ne _ _ (by omega), va_up_self]
    rfl
