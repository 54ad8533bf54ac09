/-- the draft as far as it is read -/
def hmDq (I : xI) (L : xL) (a dd : Nat) (D : hmDr) (lw : List Int32) : Prop := I dd 6 = nI D.1.length ∧ I dd 7 = nI (D.2.1.getD 5) ∧ (∀ w, w < D.1.length → L (dd + 1) w = hmE256 (D.1.getD w ([], 0, 0, 0, 0)).1 ∧ I (dd + 2) w = nI (D.1.getD w ([], 0, 0, 0, 0)).2.1 ∧ I (dd + 3) w = nI (D.1.getD w ([], 0, 0, 0, 0)).2.2.1 ∧ I (dd + 4) w = (D.1.getD w ([], 0, 0, 0, 0)).2.2.2.1 ∧ I (dd + 5) w = nI (D.1.getD w ([], 0, 0, 0, 0)).2.2.2.2) ∧ hmLs I (dd + 6) lw ∧ ((D.2.2 = none ∧ lw = []) ∨ ∃ cd, D.2.2 = some cd ∧ hmSem cd lw) ∧ I a 3 = hmB D.2.1.isSome ∧ I a 4 = hmB D.2.2.isSome
def hmOq (a dd : Nat) (I I' : xI) : Prop := (∀ x, x ≠ a → x ≠ a + 1 → ¬ (dd ≤ x ∧ x < dd + 9) → I' x = I x) ∧ I' (a + 1) 1 = I (a + 1) 1
def hmOm (a dd : Nat) (L L' : xL) : Prop := ∀ x, x ≠ a + 1 → x ≠ dd + 1 → L' x = L x
theorem hmOq.rf {a dd : Nat} {I : xI} : hmOq a dd I I := ⟨fun _ _ _ _ => rfl, rfl⟩
theorem hmOq.tr {a dd : Nat} {I J K : xI} (h1 : hmOq a dd I J) (h2 : hmOq a dd J K) : hmOq a dd I K := ⟨fun x p q r => (h2.1 x p q r).trans (h1.1 x p q r), h2.2.trans h1.2⟩
theorem hmOm.rf {a dd : Nat} {L : xL} : hmOm a dd L L := fun _ _ _ => rfl
theorem hmOm.tr {a dd : Nat} {L J K : xL} (h1 : hmOm a dd L J) (h2 : hmOm a dd J K) : hmOm a dd L K := fun x p q => (h2 x p q).trans (h1 x p q)
theorem hmOq.ow {a dd n : Nat} {I J : xI} (h : hmOw a dd n I J) : hmOq a dd I J := ⟨fun x p q r => h.1 x p q (by omega), h.2.1⟩
theorem hmOm.ol {a dd n : Nat} {L J : xL} (h : hmOl a dd n L J) : hmOm a dd L J := h.1
theorem hmOm.sl {a dd : Nat} {L J : xL} (h : hmSl (a + 1) L J) : hmOm a dd L J := fun x p _ => h x p
theorem hmOq.lr {a dd : Nat} {I J : xI} (h : hmLr a (dd + 6) I J) : hmOq a dd I J := ⟨fun x p q r => h.1 x p q (by omega) (by omega), h.2.1⟩
theorem hmOq.fl {a dd : Nat} {I : xI} {k : Nat} {v : Int32} : hmOq a dd I (va_up I a (va_up (I a) k v)) := ⟨fun x p _ _ => va_up_ne _ _ p, by rw [va_up_ne _ _ (by omega)]⟩
theorem hmOq.sp {a dd : Nat} {I J : xI} (h : hmSp (a + 1) I J) : hmOq a dd I J := ⟨fun x _ q _ => h.1 x q, h.2 1 (by omega) (by omega) (by omega)⟩
theorem xD_law {sh : xSh} {R : xR} {dd : Nat} (h : xDesk sh R dd) : xLaw sh R (dd + 6) := ⟨h.2.2.2.2.2.2.1, h.2.2.2.2.2.2.2.1, h.2.2.2.2.2.2.2.2.1, h.2.2.2.2.2.2.2.2.2.2.2.2.2.2.2.1, h.2.2.2.2.2.2.2.2.2.2.2.2.2.2.2.2⟩
theorem hmNms_len (D : hmDr) : (hmNms D).length = D.1.length := List.length_map _
theorem hmNms_get (D : hmDr) (i : Nat) : (hmNms D).getD i [] = (D.1.getD i ([], 0, 0, 0, 0)).1 := by
  unfold hmNms
  rw [List.getD_eq_getElem?_getD, List.getD_eq_getElem?_getD, List.getElem?_map]
  cases D.1[i]? with
  | none => rfl
  | some c => rfl
theorem hm_getD_mem2 {l : List hmCq} {w : Nat} (h : w < l.length) : l.getD w ([], 0, 0, 0, 0) ∈ l := by
  rw [List.getD_eq_getElem?_getD, List.getElem?_eq_getElem h]
  exact List.getElem_mem h
theorem hm_getD_app {l : List hmCq} {c : hmCq} {w : Nat} (h : w < l.length) : (l ++ [c]).getD w ([], 0, 0, 0, 0) = l.getD w ([], 0, 0, 0, 0) := by simp [List.getElem?_append_left h]
theorem hm_getD_last {l : List hmCq} {c : hmCq} : (l ++ [c]).getD l.length ([], 0, 0, 0, 0) = c := by simp
theorem hmOL_c {D : hmDr} {t : hmTok} {r : List hmTok} : hmOL D (t :: r) = if hmIsW t wCaller = true then (if D.1.length = 6 then .inl (hmFl 5 t) else hmBd (hmCL (hmNms D) r) (fun p => .inr ((D.1 ++ [p.1], D.2.1, D.2.2), p.2))) else if hmIsW t wTakes = true then (if D.2.1.isSome = true then .inl (hmFl 3 t) else hmBd (hmXn 1 20 r) (fun p => hmT2 D p.1 p.2)) else if hmIsW t wBelieves = true then (if D.2.2.isSome = true then .inl (hmFl 3 t) else hmBd (hmLm r true [(0, false)] []) (fun p => .inr ((D.1, D.2.1, some p.1), p.2))) else .inl (hmFl 1 t) := rfl
set_option maxHeartbeats 4000000 in
theorem c_officeLine {d : Nat} {sh : xSh} {R : xR} {L : xL} {I : xI} {Q : xQ} {a dd : Nat} {T : List Nat} {t : hmTok} {r : List hmTok} (ha : xReader sh R a) (hdd : xDesk sh R dd) (hdis : a + 3 ≤ dd ∨ dd + 9 ≤ a) (hc : ∀ x, x ∈ T → x < 127) (hC : hmCx I L a T t r) {D : hmDr} {lw : List Int32} (hD : hmDq I L a dd D lw) (hDk : hmDrOk D) (ht : ¬ t.1 = 0) (hlen : (t :: r).length ≤ 1001) (hF : ∀ F I' L', hmOL D (t :: r) = .inl F → 1 ≤ F → F < 20000 → hmOq a dd I I' → hmOm a dd L L' → I' a 1 = nI F → Q (some (.int 0)) 0 sh R L' I') (hQ : ∀ D' lw' t' r' I' L', hmOL D (t :: r) = .inr (D', t' :: r') → (t' :: r').length < (t :: r).length → hmOq a dd I I' → hmOm a dd L L' → I' a 1 = I a 1 → hmDq I' L' a dd D' lw' → hmCx I' L' a T t' r' → Q (some (.int 1)) 0 sh R L' I') : Ex (d + 40) 0 0 MX5_officeLine 0 sh R L I 0 [some (.ref a), some (.ref dd)] [] Q := by
  obtain ⟨d1, d2, d3, d4, d5, d7, d8⟩ := id hD
  have hd6 := hDk.1
  have d6n : I dd 6 = nI (hmNms D).length := by rw [hmNms_len]; exact d1
  have hnl := hmNms_len D
  refine Ex_aload_n 1 (i := 0) dX5_officeLine_0 rfl rfl rfl ?_
  refine Ex_getR 4 dX5_officeLine_1 fX5_12 ha.1 rfl ha.2.2.2.1 rfl ?_
  refine Ex_ldc2 7 (v := 109270082020722) dX5_officeLine_4 kX5_79 rfl ?_
  refine Ex_callV (M' := MX7_isWord) 10 [.long 109270082020722] (rest := []) dX5_officeLine_7 lX5_57 mX7_isWord rfl ha.2.1 rfl (Nat.le_of_ble_eq_true rfl) (Nat.le_of_ble_eq_true rfl) rfl ?_
  refine c_isWord (xR_t ha) hC.2 (l := wCaller) (by decide +kernel) (by unfold hmWd; decide) ?_
  simp only [Option.toList, List.cons_append, List.nil_append]
  refine Ex_if_eq 13 40 dX5_officeLine_10 (by decide) rfl (fun c1 => ?_) (fun c1 => ?_)
  · have hw1 := hmB_eq c1
    refine Ex_aload_n 41 (i := 0) dX5_officeLine_40 rfl rfl rfl ?_
    refine Ex_getR 44 dX5_officeLine_41 fX5_12 ha.1 rfl ha.2.2.2.1 rfl ?_
    refine Ex_ldc2 47 (v := 499850634611) dX5_officeLine_44 kX5_88 rfl ?_
    refine Ex_callV (M' := MX7_isWord) 50 [.long 499850634611] (rest := []) dX5_officeLine_47 lX5_57 mX7_isWord rfl ha.2.1 rfl (Nat.le_of_ble_eq_true rfl) (Nat.le_of_ble_eq_true rfl) rfl ?_
    refine c_isWord (xR_t ha) hC.2 (l := wTakes) (by decide +kernel) (by unfold hmWd; decide) ?_
    simp only [Option.toList, List.cons_append, List.nil_append]
    refine Ex_if_eq 53 74 dX5_officeLine_50 (by decide) rfl (fun c2 => ?_) (fun c2 => ?_)
    · have hw2 := hmB_eq c2
      refine Ex_aload_n 75 (i := 0) dX5_officeLine_74 rfl rfl rfl ?_
      refine Ex_getR 78 dX5_officeLine_75 fX5_12 ha.1 rfl ha.2.2.2.1 rfl ?_
      refine Ex_ldc2 81 (v := 7090192388294337907) dX5_officeLine_78 kX5_93 rfl ?_
      refine Ex_callV (M' := MX7_isWord) 84 [.long 7090192388294337907] (rest := []) dX5_officeLine_81 lX5_57 mX7_isWord rfl ha.2.1 rfl (Nat.le_of_ble_eq_true rfl) (Nat.le_of_ble_eq_true rfl) rfl ?_
      refine c_isWord (xR_t ha) hC.2 (l := wBelieves) (by decide +kernel) (by unfold hmWd; decide) ?_
      simp only [Option.toList, List.cons_append, List.nil_append]
      refine Ex_if_ne 87 93 dX5_officeLine_84 (by decide) rfl (fun c3 => ?_) (fun c3 => ?_)
      · have hw3 := hmB_ne c3
        refine Ex_aload_n 94 (i := 0) dX5_officeLine_93 rfl rfl rfl ?_
        refine Ex_gI 97 (I a 4) dX5_officeLine_94 fX5_27 ha.1 rfl rfl rfl ?_
        rw [d8]
        refine Ex_if_eq 100 106 dX5_officeLine_97 (by decide) rfl (fun c4 => ?_) (fun c4 => ?_)
        · have hd4 := hmB_eq c4
          have hlw : lw = [] := by
            rcases d5 with ⟨-, q⟩ | ⟨cd, q, -⟩
            · exact q
            · rw [q] at hd4; exact absurd hd4 (by simp)
          refine Ex_aload_n 107 (i := 0) dX5_officeLine_106 rfl rfl rfl ?_
          refine Ex_iconst 108 (v := 1) dX5_officeLine_107 (by decide) rfl ?_
          refine Ex_pI 111 (I a) (va_up I a (va_up (I a) 4 1)) dX5_officeLine_108 fX5_27 rfl ha.1 (by decide) (fun _ => rfl) rfl rfl rfl rfl ?_
          have hC0 : hmCx (va_up I a (va_up (I a) 4 1)) L a T t r := hC.kept (va_up_ne _ _ (by omega)) (va_up_ne _ _ (by omega)) rfl
          refine Ex_aload_n 112 (i := 0) dX5_officeLine_111 rfl rfl rfl ?_
          refine Ex_getR 115 dX5_officeLine_112 fX5_12 ha.1 rfl ha.2.2.2.1 rfl ?_
          refine Ex_callV (M' := MX7_step) 118 [] (rest := []) dX5_officeLine_115 lX5_65 mX7_step rfl ha.2.1 rfl (Nat.le_of_ble_eq_true rfl) (Nat.le_of_ble_eq_true rfl) rfl ?_
          refine c_rstep ha hc hC0 ht (fun t1 r1 I1 L1 er1 gs1 gt1 hC1 => ?_)
          simp only [Option.toList, List.nil_append, List.cons_append]
          have hlaw : hmLs I1 (dd + 6) [] := by
            rw [← hlw]
            exact (d4.kept (J := I1) (by rw [gs1.1 _ (by omega), va_up_ne _ _ (by omega)]) (by rw [gs1.1 _ (by omega), va_up_ne _ _ (by omega)]))
          have g1 : hmOq a dd I I1 := hmOq.fl.tr (hmOq.sp gs1)
          have zz : (t1 :: r1).length + 1 = (t :: r).length := by rw [er1]; rfl
          refine Ex_aload_n 119 (i := 0) dX5_officeLine_118 rfl rfl rfl ?_
          refine Ex_aload_n 120 (i := 1) dX5_officeLine_119 rfl rfl rfl ?_
          refine Ex_getR 123 dX5_officeLine_120 fX5_95 hdd.1 rfl hdd.2.2.2.2.2.2.2.2.2.2.2.2.2.2.1 rfl ?_
          refine Ex_iconst 124 (v := 0) dX5_officeLine_123 (by decide) rfl ?_
          refine Ex_callV (M' := MX5_wholeTest) 127 [.ref (dd + 6), .int 0] (rest := []) dX5_officeLine_124 lX5_99 mX5_wholeTest rfl ha.1 rfl (Nat.le_of_ble_eq_true rfl) (Nat.le_of_ble_eq_true rfl) rfl ?_
          refine Ex_d (d' := d + 5 * (5 - 0) + 14) (by omega) (c_whole_all ha (xD_law hdd) (by omega) hc (t1 :: r1).length 0 t1 r1 [(0, false)] [] [] I1 L1 _ d (Nat.le_refl _) (by omega) hC1 hlaw (by rw [List.length_nil]; omega) rfl ⟨rfl, rfl⟩ (fun F2 I2 L2 e2 f2 f3 g2 l2 k2 q2 => ?_) (fun t2 r2 lv2 ci cp I2 L2 e2 po g2 l2 hC2 hL2 n1 n2 n3 => ?_))
          · simp only [Option.toList, List.nil_append, List.cons_append]
            refine Ex_if_eq 130 143 dX5_officeLine_127 (by decide) rfl (fun c5 => ?_) (fun c5 => absurd c5 (fun q => q (by decide)))
            refine Ex_iconst 144 (v := 0) dX5_officeLine_143 (by decide) rfl ?_
            refine Ex_iret dX5_officeLine_144 rfl (by decide) (Or.inl rfl) ?_
            exact hF F2 I2 L2 (by rw [hmOL_c, if_neg (by rw [hw1]; decide), if_neg (by rw [hw2]; decide), if_pos hw3, if_neg (by rw [hd4]; decide), er1, e2]; rfl) f2 f3 (g1.tr (hmOq.lr g2)) ((hmOm.sl gt1).tr (hmOm.sl l2)) k2
          · simp only [Option.toList, List.nil_append, List.cons_append]
            obtain ⟨⟨b3, hlx, hb38⟩, po4, p7, p5, p6, p10, p11⟩ := po
            have hlx2 : lv2 = [(0, b3)] := hlx
            rw [hlx2] at e2
            have k4 := hm_kS (t := t2) hC2.2.2.2.2.2.2.1 (c := 59) (k := 4) (by decide) (by decide)
            have hcm3 : ¬ ((hmKd t2 = 8 ∨ hmKd t2 = 9) ∧ hmCm1 [(0, b3)] = false) := fun q => by
              have q2 : b3 = false := q.2
              rw [hb38 q.1] at q2
              exact absurd q2 (by decide)
            rw [List.nil_append] at e2 hL2
            refine Ex_if_eq 130 143 dX5_officeLine_127 (by decide) rfl (fun c6 => absurd c6 (by decide)) (fun c6 => ?_)
            refine Ex_aload_n 131 (i := 0) dX5_officeLine_130 rfl rfl rfl ?_
            refine Ex_bipush 133 (v := 59) dX5_officeLine_131 (by decide) rfl ?_
            refine Ex_callV (M' := MX5_passSign) 136 [.int 59] (rest := []) dX5_officeLine_133 lX5_103 mX5_passSign rfl ha.1 rfl (Nat.le_of_ble_eq_true rfl) (Nat.le_of_ble_eq_true rfl) rfl ?_
            refine c_passSign (c := 59) ha hc hC2 (by decide) (fun hb => ?_) (fun hb t3 r3 I3 L3 er3 gs3 gt3 hC3 => ?_)
            · simp only [Option.toList, List.nil_append, List.cons_append]
              refine Ex_if_eq 139 143 dX5_officeLine_136 (by decide) rfl (fun c7 => ?_) (fun c7 => absurd c7 (fun q => q (by decide)))
              refine Ex_iconst 144 (v := 0) dX5_officeLine_143 (by decide) rfl ?_
              refine Ex_iret dX5_officeLine_144 rfl (by decide) (Or.inl rfl) ?_
              have hfl := hmFl_lt (k := 1) (t := t2) (by omega) (by omega) hC2.2.2.2.2.2.2.2
              have h4 : ¬ hmKd t2 = 4 := of_decide_eq_false (by rw [← k4]; exact hb)
              have hre : hmLm (t2 :: r2) false [(0, b3)] ci = .inl (hmFl 1 t2) := by
                rw [hmLm_f, if_neg (by omega), if_neg hcm3, if_neg (by omega), if_neg (fun q => absurd q.2 (by simp)), if_neg (fun q => h4 q.2)]
                rfl
              exact hF (hmFl 1 t2) _ L2 (by rw [hmOL_c, if_neg (by rw [hw1]; decide), if_neg (by rw [hw2]; decide), if_pos hw3, if_neg (by rw [hd4]; decide), er1, e2, hre]; rfl) hfl.1 hfl.2 ((g1.tr (hmOq.lr g2.1)).tr hmOq.fl) ((hmOm.sl gt1).tr (hmOm.sl l2)) (by rw [va_up_self, va_up_self])
            · simp only [Option.toList, List.nil_append, List.cons_append]
              refine Ex_if_eq 139 143 dX5_officeLine_136 (by decide) rfl (fun c8 => absurd c8 (by decide)) (fun c8 => ?_)
              refine Ex_iconst 140 (v := 1) dX5_officeLine_139 (by decide) rfl ?_
              refine Ex_goto 144 dX5_officeLine_140 (by decide) ?_
              refine Ex_iret dX5_officeLine_144 rfl (by decide) (Or.inl rfl) ?_
              have h4 : hmKd t2 = 4 := of_decide_eq_true (by rw [← k4]; exact hb)
              have hre : hmLm (t2 :: r2) false [(0, b3)] ci = .inr (ci, r2) := by
                rw [hmLm_f, if_neg (by omega), if_neg hcm3, if_neg (by omega), if_neg (fun q => absurd q.2 (by simp)), if_pos ⟨rfl, h4⟩]
              have hall := e2.trans hre
              have hne := hmLm_inr _ _ _ _ _ _ hall
              have hci : ci ≠ [] := fun q => by
                have h9 := hne.1
                rw [q] at h9
                simp at h9
              refine hQ (D.1, D.2.1, some ci) cp t3 r3 I3 L3 (by rw [hmOL_c, if_neg (by rw [hw1]; decide), if_neg (by rw [hw2]; decide), if_pos hw3, if_neg (by rw [hd4]; decide), er1, hall, er3]; rfl) (by rw [er3] at n1 n3; simp only [List.length_cons] at *; omega) ((g1.tr (hmOq.lr g2.1)).tr (hmOq.sp gs3)) (((hmOm.sl gt1).tr (hmOm.sl l2)).tr (hmOm.sl gt3)) (by rw [gs3.1 a (by omega), g2.2, gs1.1 a (by omega), va_up_self, va_up_ne _ _ (by omega)]) ⟨?_, ?_, fun w hw => ?_, hL2.kept (gs3.1 _ (by omega)) (gs3.1 _ (by omega)), Or.inr ⟨ci, rfl, hmSW_sem hci po4⟩, ?_, ?_⟩ hC3
              · rw [gs3.1 dd (by omega), g2.1.1 dd (by omega) (by omega) (by omega) (by omega), gs1.1 dd (by omega), va_up_ne _ _ (by omega)]
                exact d1
              · rw [gs3.1 dd (by omega), g2.1.1 dd (by omega) (by omega) (by omega) (by omega), gs1.1 dd (by omega), va_up_ne _ _ (by omega)]
                exact d2
              · have kk : ∀ x, (dd ≤ x ∧ x < dd + 6) → I3 x = I x := fun x hx => by rw [gs3.1 x (by omega), g2.1.1 x (by omega) (by omega) (by omega) (by omega), gs1.1 x (by omega), va_up_ne _ _ (by omega)]
                rw [gt3 (dd + 1) (by omega), l2 (dd + 1) (by omega), gt1 (dd + 1) (by omega), kk (dd + 2) (by omega), kk (dd + 3) (by omega), kk (dd + 4) (by omega), kk (dd + 5) (by omega)]
                exact d3 w hw
              · rw [gs3.1 a (by omega), g2.1.2.2 3 (by omega) (by omega), gs1.1 a (by omega), va_up_self, va_up_ne _ _ (by omega)]
                exact d7
              · rw [gs3.1 a (by omega), g2.1.2.2 4 (by omega) (by omega), gs1.1 a (by omega), va_up_self, va_up_self]
                rfl
        · refine Ex_aload_n 101 (i := 0) dX5_officeLine_100 rfl rfl rfl ?_
          refine Ex_iconst 102 (v := 3) dX5_officeLine_101 (by decide) rfl ?_
          refine Ex_callV (M' := MX5_fail) 105 [.int 3] (rest := []) dX5_officeLine_102 lX5_61 mX5_fail rfl ha.1 rfl (Nat.le_of_ble_eq_true rfl) (Nat.le_of_ble_eq_true rfl) rfl ?_
          refine c_fail (k := 3) ha hC ?_
          simp only [Option.toList, List.nil_append, List.cons_append]
          refine Ex_iret dX5_officeLine_105 rfl (by decide) (Or.inl rfl) ?_
          have hfl := hmFl_lt (k := 3) (t := t) (by omega) (by omega) hC.2.2.2.2.2.2.2
          exact hF (hmFl 3 t) _ L (by rw [hmOL_c, if_neg (by rw [hw1]; decide), if_neg (by rw [hw2]; decide), if_pos hw3, if_pos (hmB_ne c4)]) hfl.1 hfl.2 hmOq.fl hmOm.rf (by rw [va_up_self, va_up_self])
      · refine Ex_aload_n 88 (i := 0) dX5_officeLine_87 rfl rfl rfl ?_
        refine Ex_iconst 89 (v := 1) dX5_officeLine_88 (by decide) rfl ?_
        refine Ex_callV (M' := MX5_fail) 92 [.int 1] (rest := []) dX5_officeLine_89 lX5_61 mX5_fail rfl ha.1 rfl (Nat.le_of_ble_eq_true rfl) (Nat.le_of_ble_eq_true rfl) rfl ?_
        refine c_fail (k := 1) ha hC ?_
        simp only [Option.toList, List.nil_append, List.cons_append]
        refine Ex_iret dX5_officeLine_92 rfl (by decide) (Or.inl rfl) ?_
        have hfl := hmFl_lt (k := 1) (t := t) (by omega) (by omega) hC.2.2.2.2.2.2.2
        exact hF (hmFl 1 t) _ L (by rw [hmOL_c, if_neg (by rw [hw1]; decide), if_neg (by rw [hw2]; decide), if_neg (by rw [hmB_eq c3]; decide)]) hfl.1 hfl.2 hmOq.fl hmOm.rf (by rw [va_up_self, va_up_self])
    · have hw2 := hmB_ne c2
      refine Ex_aload_n 54 (i := 0) dX5_officeLine_53 rfl rfl rfl ?_
      refine Ex_gI 57 (I a 3) dX5_officeLine_54 fX5_23 ha.1 rfl rfl rfl ?_
      rw [d7]
      refine Ex_if_eq 60 68 dX5_officeLine_57 (by decide) rfl (fun c9 => ?_) (fun c9 => ?_)
      · have hd3 := hmB_eq c9
        refine Ex_aload_n 69 (i := 0) dX5_officeLine_68 rfl rfl rfl ?_
        refine Ex_aload_n 70 (i := 1) dX5_officeLine_69 rfl rfl rfl ?_
        refine Ex_callV (M' := MX5_takesLine) 73 [.ref dd] (rest := []) dX5_officeLine_70 lX5_90 mX5_takesLine rfl ha.1 rfl (Nat.le_of_ble_eq_true rfl) (Nat.le_of_ble_eq_true rfl) rfl ?_
        refine c_takesLine ha hdd hdis hc hC (D := D) ht (fun F I1 L1 e f1 f2 g1 gt l1 k1 => ?_) (fun n t1 r1 I1 L1 e ln g1 gt l1 c3 c4 cf c7 c6 hC1 => ?_)
        · simp only [Option.toList, List.nil_append, List.cons_append]
          refine Ex_iret dX5_officeLine_73 rfl (by decide) (Or.inl rfl) ?_
          exact hF F I1 L1 (by rw [hmOL_c, if_neg (by rw [hw1]; decide), if_pos hw2, if_neg (by rw [hd3]; decide), e]) f1 f2 ⟨fun x p q s => g1 x p q (by omega), gt⟩ (hmOm.sl l1) k1
        · simp only [Option.toList, List.nil_append, List.cons_append]
          refine Ex_iret dX5_officeLine_73 rfl (by decide) (Or.inl rfl) ?_
          refine hQ (D.1, some n, D.2.2) lw t1 r1 I1 L1 (by rw [hmOL_c, if_neg (by rw [hw1]; decide), if_pos hw2, if_neg (by rw [hd3]; decide), e]) (by rw [List.length_cons (as := r)]; omega) ⟨fun x p q s => g1 x p q (by omega), gt⟩ (hmOm.sl l1) cf ⟨?_, c7, fun w hw => ?_, ?_, d5, c3, ?_⟩ hC1
          · rw [c6]
            exact d1
          · rw [l1 (dd + 1) (by omega), g1 (dd + 2) (by omega) (by omega) (by omega), g1 (dd + 3) (by omega) (by omega) (by omega), g1 (dd + 4) (by omega) (by omega) (by omega), g1 (dd + 5) (by omega) (by omega) (by omega)]
            exact d3 w hw
          · exact d4.kept (g1 _ (by omega) (by omega) (by omega)) (g1 _ (by omega) (by omega) (by omega))
          · rw [c4]
            exact d8
      · refine Ex_aload_n 61 (i := 0) dX5_officeLine_60 rfl rfl rfl ?_
        refine Ex_iconst 62 (v := 3) dX5_officeLine_61 (by decide) rfl ?_
        refine Ex_callV (M' := MX5_fail) 65 [.int 3] (rest := []) dX5_officeLine_62 lX5_61 mX5_fail rfl ha.1 rfl (Nat.le_of_ble_eq_true rfl) (Nat.le_of_ble_eq_true rfl) rfl ?_
        refine c_fail (k := 3) ha hC ?_
        simp only [Option.toList, List.nil_append, List.cons_append]
        refine Ex_goto 73 dX5_officeLine_65 (by decide) ?_
        refine Ex_iret dX5_officeLine_73 rfl (by decide) (Or.inl rfl) ?_
        have hfl := hmFl_lt (k := 3) (t := t) (by omega) (by omega) hC.2.2.2.2.2.2.2
        exact hF (hmFl 3 t) _ L (by rw [hmOL_c, if_neg (by rw [hw1]; decide), if_pos hw2, if_pos (hmB_ne c9)]) hfl.1 hfl.2 hmOq.fl hmOm.rf (by rw [va_up_self, va_up_self])
  · have hw1 := hmB_ne c1
    refine Ex_aload_n 14 (i := 1) dX5_officeLine_13 rfl rfl rfl ?_
    refine Ex_gI 17 (I dd 6) dX5_officeLine_14 fX5_81 hdd.1 rfl rfl rfl ?_
    rw [d6n]
    refine Ex_bipush 19 (v := 6) dX5_officeLine_17 (by decide) rfl ?_
    refine Ex_icmp_ge 22 34 dX5_officeLine_19 (by decide) rfl (fun c10 => ?_) (fun c10 => ?_)
    · refine Ex_aload_n 35 (i := 0) dX5_officeLine_34 rfl rfl rfl ?_
      refine Ex_iconst 36 (v := 5) dX5_officeLine_35 (by decide) rfl ?_
      refine Ex_callV (M' := MX5_fail) 39 [.int 5] (rest := []) dX5_officeLine_36 lX5_61 mX5_fail rfl ha.1 rfl (Nat.le_of_ble_eq_true rfl) (Nat.le_of_ble_eq_true rfl) rfl ?_
      refine c_fail (k := 5) ha hC ?_
      simp only [Option.toList, List.nil_append, List.cons_append]
      refine Ex_iret dX5_officeLine_39 rfl (by decide) (Or.inl rfl) ?_
      have hfl := hmFl_lt (k := 5) (t := t) (by omega) (by omega) hC.2.2.2.2.2.2.2
      exact hF (hmFl 5 t) _ L (by rw [hmOL_c, if_pos hw1, if_pos (by have q := (nI_leI (a := 6) (by omega) (by omega)).mp c10; omega)]) hfl.1 hfl.2 hmOq.fl hmOm.rf (by rw [va_up_self, va_up_self])
    · have hlt : ¬ D.1.length = 6 := fun q => c10 (by rw [hnl, q]; exact nI_le (a := 6) (by omega) (by omega))
      refine Ex_aload_n 23 (i := 0) dX5_officeLine_22 rfl rfl rfl ?_
      refine Ex_aload_n 24 (i := 1) dX5_officeLine_23 rfl rfl rfl ?_
      refine Ex_aload_n 25 (i := 1) dX5_officeLine_24 rfl rfl rfl ?_
      refine Ex_gI 28 (I dd 6) dX5_officeLine_25 fX5_81 hdd.1 rfl rfl rfl ?_
      rw [d6n]
      refine Ex_callV (M' := MX5_callerLine) 31 [.ref dd, .int (nI (hmNms D).length)] (rest := []) dX5_officeLine_28 lX5_84 mX5_callerLine rfl ha.1 rfl (Nat.le_of_ble_eq_true rfl) (Nat.le_of_ble_eq_true rfl) rfl ?_
      refine c_callerLine ha hdd hdis hc hC (nms := hmNms D) (by rw [hmNms_len]; omega) d6n (fun i hi => by rw [hmNms_get]; rw [hmNms_len] at hi; exact ⟨(d3 i hi).1, (hDk.2.1 _ (hm_getD_mem2 hi)).1⟩) ht (fun F I1 L1 e f1 f2 g1 l1 k1 => ?_) (fun c t1 r1 I1 L1 e ln g1 l1 c6 cf cr hC1 => ?_)
      · simp only [Option.toList, List.nil_append, List.cons_append]
        refine Ex_goto 39 dX5_officeLine_31 (by decide) ?_
        refine Ex_iret dX5_officeLine_39 rfl (by decide) (Or.inl rfl) ?_
        exact hF F I1 L1 (by rw [hmOL_c, if_pos hw1, if_neg (by omega), e]; rfl) f1 f2 (hmOq.ow g1) (hmOm.ol l1) k1
      · simp only [Option.toList, List.nil_append, List.cons_append]
        refine Ex_goto 39 dX5_officeLine_31 (by decide) ?_
        refine Ex_iret dX5_officeLine_39 rfl (by decide) (Or.inl rfl) ?_
        rw [hmNms_len] at c6 cr g1 l1
        refine hQ (D.1 ++ [c], D.2.1, D.2.2) lw t1 r1 I1 L1 (by rw [hmOL_c, if_pos hw1, if_neg (by omega), e]; rfl) (by rw [List.length_cons (as := r)]; omega) (hmOq.ow g1) (hmOm.ol l1) cf ⟨?_, ?_, fun w hw => ?_, ?_, d5, ?_, ?_⟩ hC1
        · rw [c6]
          show _ = nI (D.1 ++ [c]).length
          rw [List.length_append, List.length_singleton]
        · rw [g1.2.2.2.1 7 (by omega)]
          exact d2
        · have hw2 : w < D.1.length + 1 := by
            have h9 : w < (D.1 ++ [c]).length := hw
            rw [List.length_append, List.length_singleton] at h9
            exact h9
          show L1 (dd + 1) w = hmE256 ((D.1 ++ [c]).getD w ([], 0, 0, 0, 0)).1 ∧ I1 (dd + 2) w = nI ((D.1 ++ [c]).getD w ([], 0, 0, 0, 0)).2.1 ∧ I1 (dd + 3) w = nI ((D.1 ++ [c]).getD w ([], 0, 0, 0, 0)).2.2.1 ∧ I1 (dd + 4) w = ((D.1 ++ [c]).getD w ([], 0, 0, 0, 0)).2.2.2.1 ∧ I1 (dd + 5) w = nI ((D.1 ++ [c]).getD w ([], 0, 0, 0, 0)).2.2.2.2
          by_cases e9 : w = D.1.length
          · rw [e9, hm_getD_last]
            exact cr
          · rw [hm_getD_app (by omega), l1.2 w e9, (g1.2.2.2.2 w e9).1, (g1.2.2.2.2 w e9).2.1, (g1.2.2.2.2 w e9).2.2.1, (g1.2.2.2.2 w e9).2.2.2]
            exact d3 w (by omega)
        · exact d4.kept (g1.1 _ (by omega) (by omega) (by omega)) (g1.1 _ (by omega) (by omega) (by omega))
        · rw [g1.2.2.1 3 (by omega) (by omega)]
          exact d7
        · rw [g1.2.2.1 4 (by omega) (by omega)]
          exact d8
