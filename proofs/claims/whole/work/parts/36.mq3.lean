theorem mc_cp {d : Nat} {sh : xSh} {R : xR} {L : xL} {I J : xI} {Q : xQ} {p q a b np nq : Nat} {r1 r2 : Nat → Int32} (hp : sh p = some (.inr (.int, np))) (hq : sh q = some (.inr (.int, nq))) (hpq : p ≠ q) (ha : a + 58 ≤ np) (hb : b + 58 ≤ nq) (hnp : np < 100000) (hnq : nq < 100000) (e1 : I p = r1) (e2 : I q = r2) (eJ : va_up I q (va_cpy r1 r2 a b 58) = J) (hQ : Q none 0 sh R L J) : Ex d 0 0 MX9_copies 0 sh R L I 0 [some (.ref p), some (.int (nI a)), some (.ref q), some (.int (nI b)), none] [] Q := by
  subst e1; subst e2; subst eJ
  exact mc_copies hp hq hpq ha hb hnp hnq hQ
/-- what going on till nobody is on the line may change -/
def hmGf (m : Nat) (I I' : xI) : Prop := (∀ x, x ≠ m → x ≠ m + 28 → x ≠ m + 34 → ¬ (m + 13 ≤ x ∧ x < m + 23) → I' x = I x) ∧ ∀ k, k ≠ 50 → k ≠ 51 → I' m k = I m k
theorem hmGf.rf {m : Nat} {I : xI} : hmGf m I I := ⟨fun _ _ _ _ _ => rfl, fun _ _ _ => rfl⟩
theorem hmGf.tr {m : Nat} {I J K : xI} (h1 : hmGf m I J) (h2 : hmGf m J K) : hmGf m I K := ⟨fun x a b c e => (h2.1 x a b c e).trans (h1.1 x a b c e), fun k a b => (h2.2 k a b).trans (h1.2 k a b)⟩
theorem hmGf.fm {m : Nat} {I J : xI} (h1 : hmFm m I J) : hmGf m I J := ⟨fun x _ b _ e => h1 x b e, fun k _ _ => by rw [h1 m (by omega) (by omega)]⟩
theorem hmGf.mg {m : Nat} {I J : xI} (h1 : hmGf m I J) : hmMg m I J := ⟨fun x hx => h1.1 x (fun q => hx (by unfold hmMt; omega)) (fun q => hx (by unfold hmMt; omega)) (fun q => hx (by unfold hmMt; omega)) (fun q => hx (by unfold hmMt; omega)), h1.2 0 (by omega) (by omega), h1.2 1 (by omega) (by omega), h1.2 45 (by omega) (by omega), h1.2 46 (by omega) (by omega)⟩
theorem hmGf.um {m : Nat} {I J : xI} (h1 : hmGf m I J) {k : Nat} {v : Int32} (hk : k = 50 ∨ k = 51) : hmGf m I (va_up J m (va_up (J m) k v)) := ⟨fun x a b c e => by rw [va_up_ne _ _ a]; exact h1.1 x a b c e, fun j a b => by rw [va_up_self, va_up_ne _ _ (by omega)]; exact h1.2 j a b⟩
theorem hmGf.u34 {m : Nat} {I J : xI} (h1 : hmGf m I J) {J' : xI} (hJ : ∀ x, x ≠ m + 34 → J' x = J x) : hmGf m I J' := ⟨fun x a b c e => by rw [hJ x c]; exact h1.1 x a b c e, fun j a b => by rw [hJ m (by omega)]; exact h1.2 j a b⟩
theorem hmGf.mo {m : Nat} {I J : xI} {O : hmO} (h1 : hmGf m I J) (h : hmMo I m O) : hmMo J m O := h1.mg.mo h
set_option maxHeartbeats 4000000 in
theorem mb_hears {d : Nat} {sh : xSh} {R : xR} {L : xL} {I : xI} {Q : xQ} {m : Nat} {H : hmH} {O : hmO} (hm : xModel sh R m) (hS : hmMr (I (m + 28)) H) (hO : hmMo I m O) (ho : hmOok O) (hok : hmOk O H) {qv qu : Int32} (hQ : ∀ I', hmMg m I I' → hmMr (I' (m + 28)) H → Q (some (.int (spHears O H qv qu))) 0 sh R L I') : Ex (d + 5) 0 0 MX9_hears 0 sh R L I 5 [some (.ref m), some (.int qv), some (.int qu), none, none] [] Q := by
  obtain ⟨s6, smin, slen, sset, stak, sline, sheld, shas, stalk⟩ := id hS
  obtain ⟨o6, ot1, ot2, oo, oll, owf⟩ := id ho
  obtain ⟨on, otk, ow, cd, cfrom, cto, clen, ccd, csem⟩ := id hO
  have hlN := hok.2.1
  refine Ex_aload_n 6 (i := 0) dX9_hears_5 rfl rfl rfl ?_
  refine Ex_iload_n 7 (i := 1) dX9_hears_6 rfl rfl rfl ?_
  refine Ex_callV (M' := MX9_isCaller) 10 [.int qv] (rest := []) dX9_hears_7 lX9_347 mX9_isCaller rfl (xMs_0 hm) rfl (Nat.le_of_ble_eq_true rfl) (Nat.le_of_ble_eq_true rfl) rfl ?_
  refine mc_isCaller hm on o6 ?_
  simp only [Option.toList, List.cons_append, List.nil_append]
  refine Ex_if_eq 13 26 dX9_hears_10 (by decide) rfl (fun c1 => ?_) (fun c1 => ?_)
  · refine Ex_iconst 27 (v := (-1)) dX9_hears_26 (by decide) rfl ?_
    refine Ex_iret dX9_hears_27 rfl rfl (Or.inl rfl) ?_
    have e : spHears O H qv qu = -1 := by
      simp [spHears, hmTwo_n1 (hmB_eq c1)]
    rw [← e]
    exact hQ _ hmMg.rf hS
  · refine Ex_aload_n 14 (i := 0) dX9_hears_13 rfl rfl rfl ?_
    refine Ex_iload_n 15 (i := 2) dX9_hears_14 rfl rfl rfl ?_
    refine Ex_callV (M' := MX9_isCaller) 18 [.int qu] (rest := []) dX9_hears_15 lX9_347 mX9_isCaller rfl (xMs_0 hm) rfl (Nat.le_of_ble_eq_true rfl) (Nat.le_of_ble_eq_true rfl) rfl ?_
    refine mc_isCaller hm on o6 ?_
    simp only [Option.toList, List.cons_append, List.nil_append]
    refine Ex_if_eq 21 26 dX9_hears_18 (by decide) rfl (fun c2 => ?_) (fun c2 => ?_)
    · refine Ex_iconst 27 (v := (-1)) dX9_hears_26 (by decide) rfl ?_
      refine Ex_iret dX9_hears_27 rfl rfl (Or.inl rfl) ?_
      have e : spHears O H qv qu = -1 := by
        simp [spHears, hmTwo_n2 (hmB_eq c2)]
      rw [← e]
      exact hQ _ hmMg.rf hS
    · refine Ex_iload_n 22 (i := 1) dX9_hears_21 rfl rfl rfl ?_
      refine Ex_iload_n 23 (i := 2) dX9_hears_22 rfl rfl rfl ?_
      refine Ex_icmp_ne 26 28 dX9_hears_23 (by decide) rfl (fun c3 => ?_) (fun c3 => ?_)
      · have htw := hmTwo_mk (hmB_ne c1) (hmB_ne c2) c3
        obtain ⟨x, y, hxN, hyN, hxy, rfl, rfl⟩ := hmTwo_of htw
        have hix : hmIx (nI x) = x := hmIx_nI (by omega)
        have hiy : hmIx (nI y) = y := hmIx_nI (by omega)
        refine Ex_aload_n 29 (i := 0) dX9_hears_28 rfl rfl rfl ?_
        refine Ex_getR 32 dX9_hears_29 fX9_93 (xMs_0 hm) rfl (xMr_39 hm) rfl ?_
        refine Ex_iconst 33 (v := 0) dX9_hears_32 (by decide) rfl ?_
        refine Ex_aload_n 34 (i := 0) dX9_hears_33 rfl rfl rfl ?_
        refine Ex_getR 37 dX9_hears_34 fX9_99 (xMs_0 hm) rfl (xMr_41 hm) rfl ?_
        refine Ex_iconst 38 (v := 0) dX9_hears_37 (by decide) rfl ?_
        refine Ex_callS (M' := MX9_copies) 41 [.ref (m + 28), .int 0, .ref (m + 30), .int 0] (rest := []) dX9_hears_38 lX9_350 mX9_copies rfl rfl (Nat.le_of_ble_eq_true rfl) (Nat.le_of_ble_eq_true rfl) rfl ?_
        refine mc_cp (np := 58) (nq := 58) (a := 0) (b := 0) (J := (va_up I (m + 30) (va_cpy (I (m + 28)) (I (m + 30)) 0 0 58))) (xMs_28 hm) (xMs_30 hm) (by omega) (by omega) (by omega) (by omega) (by omega) rfl rfl rfl ?_
        simp only [Option.toList, List.nil_append, List.cons_append]
        refine Ex_aload_n 42 (i := 0) dX9_hears_41 rfl rfl rfl ?_
        refine Ex_getR 45 dX9_hears_42 fX9_93 (xMs_0 hm) rfl (xMr_39 hm) rfl ?_
        refine Ex_bipush 47 (v := 16) dX9_hears_45 (by decide) rfl ?_
        refine Ex_iload_n 48 (i := 1) dX9_hears_47 rfl rfl rfl ?_
        refine Ex_iadd 49 dX9_hears_48 rfl ?_
        refine Ex_aI 50 (16 + x) (I (m + 28) (16 + x)) dX9_hears_49 (xMs_28 hm) (hm_ad rfl rfl) (by omega) (by decide) (congrFun (va_up_ne _ _ (by omega)) _) rfl ?_
        rw [shas x (by omega)]
        refine Ex_istore_n 51 (i := 3) (ls' := [some (.ref m), some (.int (nI x)), some (.int (nI y)), some (.int (hmHas H x)), none]) dX9_hears_50 rfl (Nat.le_of_ble_eq_true rfl) rfl rfl rfl ?_
        refine Ex_aload_n 52 (i := 0) dX9_hears_51 rfl rfl rfl ?_
        refine Ex_getR 55 dX9_hears_52 fX9_93 (xMs_0 hm) rfl (xMr_39 hm) rfl ?_
        refine Ex_bipush 57 (v := 22) dX9_hears_55 (by decide) rfl ?_
        refine Ex_bipush 59 (v := 6) dX9_hears_57 (by decide) rfl ?_
        refine Ex_iload_n 60 (i := 1) dX9_hears_59 rfl rfl rfl ?_
        refine Ex_imul 61 dX9_hears_60 rfl ?_
        refine Ex_iadd 62 dX9_hears_61 rfl ?_
        refine Ex_iload_n 63 (i := 2) dX9_hears_62 rfl rfl rfl ?_
        refine Ex_iadd 64 dX9_hears_63 rfl ?_
        refine Ex_dup2 65 dX9_hears_64 rfl rfl rfl ?_
        refine Ex_aI 66 ((22 + (6 * x)) + y) (I (m + 28) ((22 + (6 * x)) + y)) dX9_hears_65 (xMs_28 hm) (hm_ad (hm_ad rfl (hm_mu rfl rfl)) rfl) (by omega) (by decide) (congrFun (va_up_ne _ _ (by omega)) _) rfl ?_
        rw [stalk x (by omega) y (by omega)]
        refine Ex_iconst 67 (v := 1) dX9_hears_66 (by decide) rfl ?_
        refine Ex_iadd 68 dX9_hears_67 rfl ?_
        rw [nI_1]
        refine Ex_sI 69 ((22 + (6 * x)) + y) (I (m + 28)) (va_up (va_up I (m + 30) (va_cpy (I (m + 28)) (I (m + 30)) 0 0 58)) (m + 28) (va_up (I (m + 28)) ((22 + (6 * x)) + y) (nI (hmTalk H x y + 1)))) dX9_hears_68 (xMs_28 hm) (hm_ad (hm_ad rfl (hm_mu rfl rfl)) rfl) (by omega) (by decide) (va_up_ne _ _ (by omega)) rfl rfl ?_
        refine Ex_aload_n 70 (i := 0) dX9_hears_69 rfl rfl rfl ?_
        refine Ex_iload_n 71 (i := 2) dX9_hears_70 rfl rfl rfl ?_
        refine Ex_iload_n 72 (i := 1) dX9_hears_71 rfl rfl rfl ?_
        refine Ex_iconst 73 (v := (-1)) dX9_hears_72 (by decide) rfl ?_
        refine Ex_callV (M' := MX9_tells) 76 [.int (nI y), .int (nI x), .int (-1)] (rest := []) dX9_hears_73 lX9_331 mX9_tells rfl (xMs_0 hm) rfl (Nat.le_of_ble_eq_true rfl) (Nat.le_of_ble_eq_true rfl) rfl ?_
        have hS1 : hmMr (va_up (I (m + 28)) ((22 + (6 * x)) + y) (nI (hmTalk H x y + 1))) (hmLine H, hmHas H, hmHeld H, (fun a b => if a = x ∧ b = y then hmTalk H x y + 1 else hmTalk H a b), hmSet H, hmTak H, hmMin H) := by
          refine ⟨s6, ?_, ?_, ?_, ?_, fun i hi => ?_, fun z hz => ?_, fun z hz => ?_, fun z hz u hu => ?_⟩
          · rw [va_up_ne _ _ (by omega)]; exact smin
          · rw [va_up_ne _ _ (by omega)]; exact slen
          · rw [va_up_ne _ _ (by omega)]; exact sset
          · rw [va_up_ne _ _ (by omega)]; exact stak
          · have hi2 : i < (hmLine H).length := hi
            rw [va_up_ne _ _ (by omega)]; exact sline i hi
          · rw [va_up_ne _ _ (by omega)]; exact sheld z hz
          · rw [va_up_ne _ _ (by omega)]; exact shas z hz
          · show _ = nI (if z = x ∧ u = y then hmTalk H x y + 1 else hmTalk H z u)
            by_cases e : z = x ∧ u = y
            · rw [if_pos e, e.1, e.2, va_up_self]
            · rw [if_neg e, va_up_ne _ _ (by omega)]; exact stalk z hz u hu
        refine mc_tells (H := (hmLine H, hmHas H, hmHeld H, (fun a b => if a = x ∧ b = y then hmTalk H x y + 1 else hmTalk H a b), hmSet H, hmTak H, hmMin H)) (fr := y) (to := x) (bh := none) hm (by rw [(va_up_self _ _ _)]; exact hS1) (hO.kept (fun z a b => by rw [va_up_ne _ _ (by omega), va_up_ne _ _ (by omega)])) ho hyN hxN (fun b hb => by cases hb) (fun I' hF' hS' => ?_)
        obtain ⟨t6, tmin, tlen, tset, ttak, tline, theld, thas, ttalk⟩ := id hS'
        simp only [Option.toList, List.nil_append, List.cons_append]
        refine Ex_aload_n 77 (i := 0) dX9_hears_76 rfl rfl rfl ?_
        refine Ex_getR 80 dX9_hears_77 fX9_93 (xMs_0 hm) rfl (xMr_39 hm) rfl ?_
        refine Ex_bipush 82 (v := 16) dX9_hears_80 (by decide) rfl ?_
        refine Ex_iload_n 83 (i := 1) dX9_hears_82 rfl rfl rfl ?_
        refine Ex_iadd 84 dX9_hears_83 rfl ?_
        refine Ex_aI 85 (16 + x) ((I' (m + 28)) (16 + x)) dX9_hears_84 (xMs_28 hm) (hm_ad rfl rfl) (by omega) (by decide) rfl rfl ?_
        refine Ex_istore 87 (ls' := [some (.ref m), some (.int (nI x)), some (.int (nI y)), some (.int (hmHas H x)), some (.int ((I' (m + 28)) (16 + x)))]) dX9_hears_85 (Nat.le_of_ble_eq_true rfl) rfl rfl rfl ?_
        refine Ex_aload_n 88 (i := 0) dX9_hears_87 rfl rfl rfl ?_
        refine Ex_getR 91 dX9_hears_88 fX9_99 (xMs_0 hm) rfl (xMr_41 hm) rfl ?_
        refine Ex_iconst 92 (v := 0) dX9_hears_91 (by decide) rfl ?_
        refine Ex_aload_n 93 (i := 0) dX9_hears_92 rfl rfl rfl ?_
        refine Ex_getR 96 dX9_hears_93 fX9_93 (xMs_0 hm) rfl (xMr_39 hm) rfl ?_
        refine Ex_iconst 97 (v := 0) dX9_hears_96 (by decide) rfl ?_
        refine Ex_callS (M' := MX9_copies) 100 [.ref (m + 30), .int 0, .ref (m + 28), .int 0] (rest := []) dX9_hears_97 lX9_350 mX9_copies rfl rfl (Nat.le_of_ble_eq_true rfl) (Nat.le_of_ble_eq_true rfl) rfl ?_
        refine mc_cp (np := 58) (nq := 58) (a := 0) (b := 0) (J := (va_up I' (m + 28) (va_cpy (va_cpy (I (m + 28)) (I (m + 30)) 0 0 58) (I' (m + 28)) 0 0 58))) (xMs_30 hm) (xMs_28 hm) (by omega) (by omega) (by omega) (by omega) (by omega) ((hF' _ (by omega) (by omega)).trans ((va_up_ne _ _ (by omega)).trans (va_up_self _ _ _))) rfl rfl ?_
        simp only [Option.toList, List.nil_append, List.cons_append]
        refine Ex_iload 102 dX9_hears_100 rfl rfl ?_
        refine Ex_iload_n 103 (i := 3) dX9_hears_102 rfl rfl rfl ?_
        refine Ex_iconst 104 (v := (-1)) dX9_hears_103 (by decide) rfl ?_
        refine Ex_ixor 105 dX9_hears_104 rfl ?_
        refine Ex_iand 106 dX9_hears_105 rfl ?_
        refine Ex_iret dX9_hears_106 rfl rfl (Or.inl rfl) ?_
        have e0 : hmTell O (hmHas H) (hmHeld H) (if x = x ∧ y = y then hmTalk H x y + 1 else hmTalk H x y) y x none x = hmTell O (hmHas H) (hmHeld H) (hmTalk H x y + 1) y x none x := by rw [if_pos ⟨rfl, rfl⟩]
        have e : spHears O H (nI x) (nI y) = I' (m + 28) (16 + x) &&& (hmHas H x ^^^ -1) := by
          rw [thas x (by omega)]
          show _ = hmTell O (hmHas H) (hmHeld H) (if x = x ∧ y = y then hmTalk H x y + 1 else hmTalk H x y) y x none x &&& (hmHas H x ^^^ -1)
          rw [e0, hm_tell_new]
          simp only [spHears, htw, hix, hiy, if_true]
        rw [← e]
        refine hQ _ ?_ ?_
        · refine hmMg.up (hmMg.tr ?_ (hmMg.fm hF')) (by unfold hmMt; omega)
          exact hmMg.up (hmMg.up hmMg.rf (by unfold hmMt; omega)) (by unfold hmMt; omega)
        · rw [va_up_self]
          exact hS.cpy rfl _
      · refine Ex_iconst 27 (v := (-1)) dX9_hears_26 (by decide) rfl ?_
        refine Ex_iret dX9_hears_27 rfl rfl (Or.inl rfl) ?_
        have e : spHears O H qv qu = -1 := by
          simp [spHears, hmTwo_n3 c3]
        rw [← e]
        exact hQ _ hmMg.rf hS
set_option maxHeartbeats 4000000 in
theorem mq_hears {d : Nat} {sh : xSh} {R : xR} {L : xL} {I : xI} {Q : xQ} {m : Nat} {H : hmH} {O : hmO} (hm : xModel sh R m) (hS : hmMr (I (m + 28)) H) (hO : hmMo I m O) (ho : hmOok O) (hok : hmOk O H) {qv qu : Int32} (hQ : ∀ I', hmMg m (hmTh I m) I' → hmMr (I' (m + 28)) H → Q (some (.int (spHears O H qv qu))) 0 sh R L I') : Ex (d + 5) 0 0 MX9_hears 0 sh R L I 0 [some (.ref m), some (.int qv), some (.int qu), none, none] [] Q := by
  refine Ex_aload_n 1 (i := 0) dX9_hears_0 rfl rfl rfl ?_
  refine Ex_iconst 2 (v := 0) dX9_hears_1 (by decide) rfl ?_
  refine Ex_pI 5 (I m) (va_up I m (va_up (I m) 0 0)) dX9_hears_2 fX9_130 rfl (xMs_0 hm) rfl (fun _ => rfl) rfl rfl rfl rfl ?_
  exact mb_hears hm (hmTh_mr hS) (hmTh_mo hO) ho hok  hQ
set_option maxHeartbeats 4000000 in
theorem mc_goesOn_in {d : Nat} {sh : xSh} {R : xR} {L : xL} {I : xI} {Q : xQ} {m : Nat} {O : hmO} (hm : xModel sh R m) (ho : hmOok O) {wh : Int32} : ∀ n c J, n + c = 6 → (∀ J', (∀ x, x ≠ m + 34 → J' x = J x) → (∀ j, j < 6 → J' (m + 34) j = if c ≤ j ∧ hmBit wh j = true then J m 50 else J (m + 34) j) → Ex d 0 0 MX9_goesOn 0 sh R L J' 38 [some (.ref m), none, none] [] Q) → Ex d 0 0 MX9_goesOn 0 sh R L J 64 [some (.ref m), some (.int wh), some (.int (nI c))] [] Q := by
  intro n
  induction n with
  | zero =>
    intro c J hc hQ
    refine Ex_iload_n 65 (i := 2) dX9_goesOn_64 rfl rfl rfl ?_
    refine Ex_bipush 67 (v := 6) dX9_goesOn_65 (by decide) rfl ?_
    refine Ex_icmp_ge 70 95 dX9_goesOn_67 (by decide) rfl (fun c1 => ?_) (fun c1 => absurd c1 (fun q => q (nI_le (a := 6) (by omega) (by omega))))
    refine Ex_goto 38 dX9_goesOn_95 (by decide) ?_
    refine Ex_fgt (ls' := [some (.ref m), none, none]) (by simp [xsub]) ?_
    exact hQ J (fun x _ => rfl) (fun j hj => by rw [if_neg (by omega)])
  | succ n ih =>
    intro c J hc hQ
    refine Ex_iload_n 65 (i := 2) dX9_goesOn_64 rfl rfl rfl ?_
    refine Ex_bipush 67 (v := 6) dX9_goesOn_65 (by decide) rfl ?_
    refine Ex_icmp_ge 70 95 dX9_goesOn_67 (by decide) rfl (fun c1 => absurd c1 (nI_ge (b := 6) (by omega) (by omega))) (fun c1 => ?_)
    refine Ex_iload_n 71 (i := 1) dX9_goesOn_70 rfl rfl rfl ?_
    refine Ex_iload_n 72 (i := 2) dX9_goesOn_71 rfl rfl rfl ?_
    refine Ex_ishr 73 dX9_goesOn_72 rfl ?_
    refine Ex_iconst 74 (v := 1) dX9_goesOn_73 (by decide) rfl ?_
    refine Ex_iand 75 dX9_goesOn_74 rfl ?_
    refine Ex_iconst 76 (v := 1) dX9_goesOn_75 (by decide) rfl ?_
    refine Ex_icmp_ne 79 89 dX9_goesOn_76 (by decide) rfl (fun c2 => ?_) (fun c2 => ?_)
    · refine Ex_iinc 92 (v := (nI (c + 1))) (ls' := [some (.ref m), some (.int wh), some (.int (nI (c + 1)))]) dX9_goesOn_89 rfl (xinc _) (Nat.le_of_ble_eq_true rfl) rfl rfl rfl ?_
      refine Ex_goto 64 dX9_goesOn_92 (by decide) ?_
      have hb : hmBit wh c = false := hmBit_n c2
      refine ih (c + 1) J (by omega) (fun J' h1 h2 => hQ J' h1 (fun j hj => ?_))
      rw [h2 j hj]
      by_cases e : j = c
      · subst e
        rw [if_neg (by omega), hb, if_neg (fun q => absurd q.2 (by decide))]
      · by_cases e2 : c + 1 ≤ j ∧ hmBit wh j = true
        · rw [if_pos e2, if_pos ⟨by omega, e2.2⟩]
        · rw [if_neg e2, if_neg (fun q => e2 ⟨by omega, q.2⟩)]
    · refine Ex_aload_n 80 (i := 0) dX9_goesOn_79 rfl rfl rfl ?_
      refine Ex_getR 83 dX9_goesOn_80 fX9_111 (xMs_0 hm) rfl (xMr_49 hm) rfl ?_
      refine Ex_iload_n 84 (i := 2) dX9_goesOn_83 rfl rfl rfl ?_
      refine Ex_aload_n 85 (i := 0) dX9_goesOn_84 rfl rfl rfl ?_
      refine Ex_gI 88 (J m 50) dX9_goesOn_85 fX9_384 (xMs_0 hm) rfl rfl rfl ?_
      refine Ex_sI 89 c (J (m + 34)) (va_up J (m + 34) (va_up (J (m + 34)) c (J m 50))) dX9_goesOn_88 (xMs_34 hm) rfl (by omega) (by decide) rfl rfl rfl ?_
      refine Ex_iinc 92 (v := (nI (c + 1))) (ls' := [some (.ref m), some (.int wh), some (.int (nI (c + 1)))]) dX9_goesOn_89 rfl (xinc _) (Nat.le_of_ble_eq_true rfl) rfl rfl rfl ?_
      refine Ex_goto 64 dX9_goesOn_92 (by decide) ?_
      have hb : hmBit wh c = true := hmBit_1.mpr c2
      refine ih (c + 1) _ (by omega) (fun J' h1 h2 => hQ J' (fun x hx => by rw [h1 x hx, va_up_ne _ _ hx]) (fun j hj => ?_))
      rw [h2 j hj, va_up_self, va_up_ne _ _ (show m ≠ m + 34 by omega)]
      by_cases e : j = c
      · subst e
        rw [if_neg (by omega), if_pos ⟨by omega, hb⟩, va_up_self]
      · rw [va_up_ne _ _ e]
        by_cases e2 : c + 1 ≤ j ∧ hmBit wh j = true
        · rw [if_pos e2, if_pos ⟨by omega, e2.2⟩]
        · rw [if_neg e2, if_neg (fun q => e2 ⟨by omega, q.2⟩)]
theorem hm_nIpos {a : Nat} (h : 0 < a) (h2 : a < 2147483648) : (0 : Int32) < nI a := by
  rw [Int32.lt_iff_toInt_lt, nI_toInt (by omega)]
  have e0 : (0 : Int32).toInt = 0 := by decide
  omega
set_option maxHeartbeats 4000000 in
theorem mc_goesOn_loop {d : Nat} {sh : xSh} {R : xR} {L : xL} {I : xI} {Q : xQ} {m : Nat} {O : hmO} (hm : xModel sh R m) (ho : hmOok O) : ∀ n k J H, n + k = 30 → hmMr (J (m + 28)) H → hmMo J m O → hmOk O H → J m 46 = nI (hmTk O) → hmMin H + n < 900000 → J m 50 = nI k → hmGone k H → (∀ c, c < 6 → hmBit (hmSet H) c = false → J (m + 34) c = -1) → (∀ I', hmGf m J I' → hmMr (I' (m + 28)) (hmOut O n H).2 → I' m 50 = nI (k + (hmOut O n H).1) → I' m 51 = hmSet (hmOut O n H).2 → (∀ c, c < 6 → I' (m + 34) c = if hmBit (hmSet H) c = true then J (m + 34) c else hmWv k (hmWhen O n H c)) → Q none 0 sh R L I') → Ex (d + 7) 0 0 MX9_goesOn 0 sh R L J 38 [some (.ref m), none, none] [] Q := by
  intro n
  induction n with
  | zero =>
    intro k J H hk hS hO hok h46 hmn h50 hg h34 hQ
    obtain ⟨s6, smin, slen, sset, stak, sline, sheld, shas, stalk⟩ := id hS
    have hl := hmGone_30 hok ho (by rw [show k = 30 by omega] at hg; exact hg)
    have hl0 : (hmLine H).length = 0 := by rw [hl]; rfl
    refine Ex_aload_n 39 (i := 0) dX9_goesOn_38 rfl rfl rfl ?_
    refine Ex_getR 42 dX9_goesOn_39 fX9_93 (xMs_0 hm) rfl (xMr_39 hm) rfl ?_
    refine Ex_iconst 43 (v := 1) dX9_goesOn_42 (by decide) rfl ?_
    refine Ex_aI 44 1 (J (m + 28) 1) dX9_goesOn_43 (xMs_28 hm) rfl (by decide) (by decide) rfl rfl ?_
    rw [slen, hl0]
    refine Ex_if_le 47 98 dX9_goesOn_44 (by decide) rfl (fun c1 => ?_) (fun c1 => absurd c1 (fun q => q (by decide)))
    refine Ex_aload_n 99 (i := 0) dX9_goesOn_98 rfl rfl rfl ?_
    refine Ex_aload_n 100 (i := 0) dX9_goesOn_99 rfl rfl rfl ?_
    refine Ex_getR 103 dX9_goesOn_100 fX9_93 (xMs_0 hm) rfl (xMr_39 hm) rfl ?_
    refine Ex_iconst 104 (v := 2) dX9_goesOn_103 (by decide) rfl ?_
    refine Ex_aI 105 2 (J (m + 28) 2) dX9_goesOn_104 (xMs_28 hm) rfl (by decide) (by decide) rfl rfl ?_
    rw [sset]
    refine Ex_pI 108 (J m) (va_up J m (va_up (J m) 51 (hmSet H))) dX9_goesOn_105 fX9_387 rfl (xMs_0 hm) rfl (fun _ => rfl) rfl rfl rfl rfl ?_
    refine Ex_ret0 dX9_goesOn_108 rfl (Or.inl rfl) ?_
    refine hQ _ (hmGf.um hmGf.rf (Or.inr rfl)) ?_ ?_ ?_ (fun c hc => ?_)
    · rw [va_up_ne _ _ (by omega)]
      exact hS
    · rw [va_up_self, va_up_ne _ _ (by omega)]
      exact h50
    · rw [va_up_self, va_up_self]
      try rfl
    · rw [va_up_ne _ _ (by omega)]
      cases hb : hmBit (hmSet H) c with
      | true => rw [if_pos rfl]
      | false =>
        rw [if_neg (by decide), h34 c hc hb]
        have e : hmWhen O 0 H c = none := by
          unfold hmWhen
          rw [hb]
          rfl
        rw [e]
        rfl
  | succ n ih =>
    intro k J H hk hS hO hok h46 hmn h50 hg h34 hQ
    obtain ⟨s6, smin, slen, sset, stak, sline, sheld, shas, stalk⟩ := id hS
    refine Ex_aload_n 39 (i := 0) dX9_goesOn_38 rfl rfl rfl ?_
    refine Ex_getR 42 dX9_goesOn_39 fX9_93 (xMs_0 hm) rfl (xMr_39 hm) rfl ?_
    refine Ex_iconst 43 (v := 1) dX9_goesOn_42 (by decide) rfl ?_
    refine Ex_aI 44 1 (J (m + 28) 1) dX9_goesOn_43 (xMs_28 hm) rfl (by decide) (by decide) rfl rfl ?_
    rw [slen]
    refine Ex_if_le 47 98 dX9_goesOn_44 (by decide) rfl (fun c1 => ?_) (fun c1 => ?_)
    · refine Ex_aload_n 99 (i := 0) dX9_goesOn_98 rfl rfl rfl ?_
      refine Ex_aload_n 100 (i := 0) dX9_goesOn_99 rfl rfl rfl ?_
      refine Ex_getR 103 dX9_goesOn_100 fX9_93 (xMs_0 hm) rfl (xMr_39 hm) rfl ?_
      refine Ex_iconst 104 (v := 2) dX9_goesOn_103 (by decide) rfl ?_
      refine Ex_aI 105 2 (J (m + 28) 2) dX9_goesOn_104 (xMs_28 hm) rfl (by decide) (by decide) rfl rfl ?_
      rw [sset]
      refine Ex_pI 108 (J m) (va_up J m (va_up (J m) 51 (hmSet H))) dX9_goesOn_105 fX9_387 rfl (xMs_0 hm) rfl (fun _ => rfl) rfl rfl rfl rfl ?_
      refine Ex_ret0 dX9_goesOn_108 rfl (Or.inl rfl) ?_
      have hl : hmLine H = [] := by
        have h1 : (hmLine H).length = 0 := by
          by_cases z : (hmLine H).length = 0
          · exact z
          · exact absurd c1 (Int32.not_le.mpr (hm_nIpos (by omega) (by omega)))
        exact List.eq_nil_of_length_eq_zero h1
      have e1 : hmOut O (n + 1) H = (0, H) := by
        unfold hmOut
        rw [if_pos hl]
      rw [e1] at hQ
      refine hQ _ (hmGf.um hmGf.rf (Or.inr rfl)) ?_ ?_ ?_ (fun c hc => ?_)
      · rw [va_up_ne _ _ (by omega)]
        exact hS
      · rw [va_up_self, va_up_ne _ _ (by omega)]
        exact h50
      · rw [va_up_self, va_up_self]
        try rfl
      · rw [va_up_ne _ _ (by omega)]
        cases hb : hmBit (hmSet H) c with
        | true => rw [if_pos rfl]
        | false =>
          rw [if_neg (by decide), h34 c hc hb]
          have e : hmWhen O (n + 1) H c = none := by
            unfold hmWhen
            rw [hb, if_neg (by decide), if_pos hl]
          rw [e]
          rfl
    · refine Ex_aload_n 48 (i := 0) dX9_goesOn_47 rfl rfl rfl ?_
      refine Ex_callV (M' := MX9_passes) 51 [] (rest := []) dX9_goesOn_48 lX9_369 mX9_passes rfl (xMs_0 hm) rfl (Nat.le_of_ble_eq_true rfl) (Nat.le_of_ble_eq_true rfl) rfl ?_
      have hlne : hmLine H ≠ [] := fun z => c1 (by rw [z]; decide)
      refine mc_passes hm hS hO ho hok h46 ho.2.1 ho.2.2.1 (by omega) (fun I1 hF1 hS1 => ?_)
      simp only [Option.toList, List.nil_append, List.cons_append]
      refine Ex_istore_n 52 (i := 1) (ls' := [some (.ref m), some (.int (hmSet (hmMinute O (hmTk O) H) &&& (hmSet H ^^^ -1))), none]) dX9_goesOn_51 rfl (Nat.le_of_ble_eq_true rfl) rfl rfl rfl ?_
      refine Ex_aload_n 53 (i := 0) dX9_goesOn_52 rfl rfl rfl ?_
      refine Ex_dup 54 dX9_goesOn_53 rfl rfl ?_
      refine Ex_gI 57 (J m 50) dX9_goesOn_54 fX9_384 (xMs_0 hm) rfl (congrFun (hF1 _ (by omega) (by omega)) _) rfl ?_
      rw [h50]
      refine Ex_iconst 58 (v := 1) dX9_goesOn_57 (by decide) rfl ?_
      refine Ex_iadd 59 dX9_goesOn_58 rfl ?_
      rw [nI_1]
      refine Ex_pI 62 (J m) (va_up I1 m (va_up (J m) 50 (nI (k + 1)))) dX9_goesOn_59 fX9_384 rfl (xMs_0 hm) rfl (fun _ => rfl) (hF1 _ (by omega) (by omega)) rfl rfl rfl ?_
      refine Ex_iconst 63 (v := 0) dX9_goesOn_62 (by decide) rfl ?_
      refine Ex_istore_n 64 (i := 2) (ls' := [some (.ref m), some (.int (hmSet (hmMinute O (hmTk O) H) &&& (hmSet H ^^^ -1))), some (.int 0)]) dX9_goesOn_63 rfl (Nat.le_of_ble_eq_true rfl) rfl rfl rfl ?_
      have hok1 := hmOk_minute (tk := hmTk O) hok ho
      have hm1 := hmMinute_min O (hmTk O) H
      refine mc_goesOn_in (I := J) hm ho 6 0 _ rfl (fun J' hJ1 hJ2 => ?_)
      have g1 : hmGf m J (va_up I1 m (va_up (J m) 50 (nI (k + 1)))) := by
        have h0 := hF1 m (by omega) (by omega)
        rw [← h0]
        exact hmGf.um (hmGf.fm hF1) (Or.inl rfl)
      have g2 : hmGf m J J' := g1.u34 hJ1
      have e28 : J' (m + 28) = I1 (m + 28) := by rw [hJ1 _ (by omega), va_up_ne _ _ (by omega)]
      have e50 : J' m 50 = nI (k + 1) := by rw [hJ1 _ (by omega), va_up_self, va_up_self]
      have e34 : ∀ j, j < 6 → J' (m + 34) j = if hmBit (hmSet (hmMinute O (hmTk O) H) &&& (hmSet H ^^^ -1)) j = true then nI (k + 1) else J (m + 34) j := by
        intro j hj
        rw [hJ2 j hj, va_up_self, va_up_self, va_up_ne _ _ (by omega), hF1 (m + 34) (by omega) (by omega)]
        simp
      have hx0 : ∀ c, c < 6 → hmBit (hmSet (hmMinute O (hmTk O) H) &&& (hmSet H ^^^ -1)) c = (hmBit (hmSet (hmMinute O (hmTk O) H)) c && !hmBit (hmSet H) c) := fun c hc => hm_bit_diff hok1.2.2.2.1 hok.2.2.2.1 hc
      have eo : hmOut O (n + 1) H = ((hmOut O n (hmMinute O (hmTk O) H)).1 + 1, (hmOut O n (hmMinute O (hmTk O) H)).2) := by
        show (if hmLine H = [] then _ else _) = _
        rw [if_neg hlne]
      refine ih (k + 1) J' (hmMinute O (hmTk O) H) (by omega) (by rw [e28]; exact hS1) (g2.mo hO) hok1 (by rw [g2.2 46 (by omega) (by omega)]; exact h46) (by omega) e50 (hmGone_s hok hg) (fun c hc hb => ?_) (fun I' g r1 r2 r3 r4 => ?_)
      · rw [e34 c hc, hx0 c hc, hb, Bool.false_and, if_neg (by decide)]
        refine h34 c hc ?_
        cases hb2 : hmBit (hmSet H) c with
        | false => rfl
        | true => rw [hmMinute_set hok ho hc hb2] at hb; exact absurd hb (by decide)
      · rw [eo] at hQ
        refine hQ I' (g2.tr g) r1 ?_ r3 (fun c hc => ?_)
        · rw [r2]
          congr 1
          omega
        · rw [r4 c hc, e34 c hc, hx0 c hc]
          cases hb2 : hmBit (hmSet H) c with
          | true =>
            rw [hmMinute_set hok ho hc hb2]
            rfl
          | false =>
            rw [if_neg (show ¬ (false = true) by decide)]
            have ew : hmWhen O (n + 1) H c = (hmWhen O n (hmMinute O (hmTk O) H) c).map (· + 1) := by
              show (if hmBit (hmSet H) c = true then _ else if hmLine H = [] then _ else _) = _
              rw [hb2, if_neg (by decide), if_neg hlne]
            rw [ew, hmWv_map]
            cases hb3 : hmBit (hmSet (hmMinute O (hmTk O) H)) c with
            | false => rw [if_neg (by decide)]
            | true =>
              have ew2 : hmWhen O n (hmMinute O (hmTk O) H) c = some 0 := by
                cases n with
                | zero => show (if hmBit (hmSet (hmMinute O (hmTk O) H)) c = true then _ else _) = _; rw [if_pos hb3]
                | succ n => show (if hmBit (hmSet (hmMinute O (hmTk O) H)) c = true then _ else _) = _; rw [if_pos hb3]
              rw [ew2]
              rfl
theorem hmOut_00 {O : hmO} {n : Nat} {H : hmH} (h : hmLine H = []) : hmOut O n H = (0, H) := by
  cases n with
  | zero => rfl
  | succ n =>
    show (if hmLine H = [] then _ else _) = _
    rw [if_pos h]
set_option maxHeartbeats 4000000 in
theorem mc_goesOn_1 {d : Nat} {sh : xSh} {R : xR} {L : xL} {I : xI} {Q : xQ} {m : Nat} {O : hmO} {H : hmH} (hm : xModel sh R m) (hS : hmMr (I (m + 28)) H) (hO : hmMo I m O) (ho : hmOok O) (hok : hmOk O H) (h46 : I m 46 = nI (hmTk O)) (hmn : hmMin H < 800000) (hQ : ∀ I', hmGf m I I' → hmMr (I' (m + 28)) (hmOut O 30 H).2 → I' m 50 = nI (hmOut O 30 H).1 → I' m 51 = hmSet (hmOut O 30 H).2 → (∀ c, c < 6 → I' (m + 34) c = hmWv 0 (hmWhen O 30 H c)) → Q none 0 sh R L I') : ∀ n c J, n + c = 6 → (∀ x, x ≠ m + 34 → J x = I x) → (∀ j, j < c → J (m + 34) j = if hmBit (hmSet H) j = true then 0 else -1) → Ex (d + 7) 0 0 MX9_goesOn 0 sh R L J 2 [some (.ref m), some (.int (nI c)), none] [] Q := by
  intro n
  induction n with
  | zero =>
    intro c J hc hJ1 hJ2
    refine Ex_iload_n 3 (i := 1) dX9_goesOn_2 rfl rfl rfl ?_
    refine Ex_bipush 5 (v := 6) dX9_goesOn_3 (by decide) rfl ?_
    refine Ex_icmp_ge 8 33 dX9_goesOn_5 (by decide) rfl (fun c1 => ?_) (fun c1 => absurd c1 (fun q => q (nI_le (a := 6) (by omega) (by omega))))
    refine Ex_aload_n 34 (i := 0) dX9_goesOn_33 rfl rfl rfl ?_
    refine Ex_iconst 35 (v := 0) dX9_goesOn_34 (by decide) rfl ?_
    refine Ex_pI 38 (J m) (va_up J m (va_up (J m) 50 0)) dX9_goesOn_35 fX9_384 rfl (xMs_0 hm) rfl (fun _ => rfl) rfl rfl rfl rfl ?_
    refine Ex_fgt (ls' := [some (.ref m), none, none]) (by simp [xsub]) ?_
    have g1 : hmGf m I (va_up J m (va_up (J m) 50 0)) := hmGf.um (hmGf.u34 hmGf.rf hJ1) (Or.inl rfl)
    refine mc_goesOn_loop (I := I) hm ho 30 0 _ H rfl (by rw [va_up_ne _ _ (by omega), hJ1 _ (by omega)]; exact hS) (g1.mo hO) hok (by rw [g1.2 46 (by omega) (by omega)]; exact h46) (by omega) (by rw [va_up_self, va_up_self]; rfl) (hmGone_0 H) (fun j hj hb => ?_) (fun I' g r1 r2 r3 r4 => ?_)
    · rw [va_up_ne _ _ (by omega), hJ2 j (by omega), hb]
      rfl
    · refine hQ I' (g1.tr g) r1 (by rw [r2, Nat.zero_add]) r3 (fun j hj => ?_)
      rw [r4 j hj, va_up_ne _ _ (by omega), hJ2 j (by omega)]
      cases hb : hmBit (hmSet H) j with
      | false => rfl
      | true =>
        have ew : hmWhen O 30 H j = some 0 := by
          show (if hmBit (hmSet H) j = true then _ else _) = _
          rw [if_pos hb]
        rw [ew]
        rfl
  | succ n ih =>
    intro c J hc hJ1 hJ2
    refine Ex_iload_n 3 (i := 1) dX9_goesOn_2 rfl rfl rfl ?_
    refine Ex_bipush 5 (v := 6) dX9_goesOn_3 (by decide) rfl ?_
    refine Ex_icmp_ge 8 33 dX9_goesOn_5 (by decide) rfl (fun c1 => absurd c1 (nI_ge (b := 6) (by omega) (by omega))) (fun c1 => ?_)
    refine Ex_aload_n 9 (i := 0) dX9_goesOn_8 rfl rfl rfl ?_
    refine Ex_getR 12 dX9_goesOn_9 fX9_111 (xMs_0 hm) rfl (xMr_49 hm) rfl ?_
    refine Ex_iload_n 13 (i := 1) dX9_goesOn_12 rfl rfl rfl ?_
    refine Ex_aload_n 14 (i := 0) dX9_goesOn_13 rfl rfl rfl ?_
    refine Ex_iload_n 15 (i := 1) dX9_goesOn_14 rfl rfl rfl ?_
    refine Ex_callV (M' := MX9_isSettled) 18 [.int (nI c)] (rest := [.int (nI c), .ref (m + 34)]) dX9_goesOn_15 lX9_316 mX9_isSettled rfl (xMs_0 hm) rfl (Nat.le_of_ble_eq_true rfl) (Nat.le_of_ble_eq_true rfl) rfl ?_
    refine mc_isSettled hm (by rw [hJ1 _ (by omega)]; exact hS) ?_
    simp only [Option.toList, List.cons_append, List.nil_append]
    refine Ex_if_eq 21 25 dX9_goesOn_18 (by decide) rfl (fun c2 => ?_) (fun c2 => ?_)
    · refine Ex_iconst 26 (v := (-1)) dX9_goesOn_25 (by decide) rfl ?_
      refine Ex_sI 27 c (J (m + 34)) (va_up J (m + 34) (va_up (J (m + 34)) c (-1))) dX9_goesOn_26 (xMs_34 hm) rfl (by omega) (by decide) rfl rfl rfl ?_
      refine Ex_iinc 30 (v := (nI (c + 1))) (ls' := [some (.ref m), some (.int (nI (c + 1))), none]) dX9_goesOn_27 rfl (xinc _) (Nat.le_of_ble_eq_true rfl) rfl rfl rfl ?_
      refine Ex_goto 2 dX9_goesOn_30 (by decide) ?_
      refine ih (c + 1) _ (by omega) (fun x hx => by rw [va_up_ne _ _ hx]; exact hJ1 x hx) (fun j hj => ?_)
      rw [va_up_self]
      by_cases e : j = c
      · subst e
        rw [va_up_self, hmB_eq c2]
        rfl
      · rw [va_up_ne _ _ e]
        exact hJ2 j (by omega)
    · refine Ex_iconst 22 (v := 0) dX9_goesOn_21 (by decide) rfl ?_
      refine Ex_goto 26 dX9_goesOn_22 (by decide) ?_
      refine Ex_sI 27 c (J (m + 34)) (va_up J (m + 34) (va_up (J (m + 34)) c 0)) dX9_goesOn_26 (xMs_34 hm) rfl (by omega) (by decide) rfl rfl rfl ?_
      refine Ex_iinc 30 (v := (nI (c + 1))) (ls' := [some (.ref m), some (.int (nI (c + 1))), none]) dX9_goesOn_27 rfl (xinc _) (Nat.le_of_ble_eq_true rfl) rfl rfl rfl ?_
      refine Ex_goto 2 dX9_goesOn_30 (by decide) ?_
      refine ih (c + 1) _ (by omega) (fun x hx => by rw [va_up_ne _ _ hx]; exact hJ1 x hx) (fun j hj => ?_)
      rw [va_up_self]
      by_cases e : j = c
      · subst e
        rw [va_up_self, hmB_ne c2]
        rfl
      · rw [va_up_ne _ _ e]
        exact hJ2 j (by omega)
set_option maxHeartbeats 4000000 in
theorem mc_goesOn {d : Nat} {sh : xSh} {R : xR} {L : xL} {I : xI} {Q : xQ} {m : Nat} {O : hmO} {H : hmH} (hm : xModel sh R m) (hS : hmMr (I (m + 28)) H) (hO : hmMo I m O) (ho : hmOok O) (hok : hmOk O H) (h46 : I m 46 = nI (hmTk O)) (hmn : hmMin H < 800000) (hQ : ∀ I', hmGf m I I' → hmMr (I' (m + 28)) (hmOut O 30 H).2 → I' m 50 = nI (hmOut O 30 H).1 → I' m 51 = hmSet (hmOut O 30 H).2 → (∀ c, c < 6 → I' (m + 34) c = hmWv 0 (hmWhen O 30 H c)) → Q none 0 sh R L I') : Ex (d + 7) 0 0 MX9_goesOn 0 sh R L I 0 [some (.ref m), none, none] [] Q := by
  refine Ex_iconst 1 (v := 0) dX9_goesOn_0 (by decide) rfl ?_
  refine Ex_istore_n 2 (i := 1) (ls' := [some (.ref m), some (.int 0), none]) dX9_goesOn_1 rfl (Nat.le_of_ble_eq_true rfl) rfl rfl rfl ?_
  exact mc_goesOn_1 hm hS hO ho hok h46 hmn hQ 6 0 I rfl (fun _ _ => rfl) (fun j hj => absurd hj (by omega))
set_option maxHeartbeats 4000000 in
theorem mc_tries {d : Nat} {sh : xSh} {R : xR} {L : xL} {I : xI} {Q : xQ} {m : Nat} {O : hmO} {H : hmH} (hm : xModel sh R m) (hS : hmMr (I (m + 28)) H) (hO : hmMo I m O) (ho : hmOok O) (hok : hmOk O H) (h46 : I m 46 = nI (hmTk O)) (hmn : hmMin H < 800000) (hQ : ∀ I', hmMg m I I' → hmMr (I' (m + 28)) H → I' m 50 = nI (hmOut O 30 H).1 → (∀ c, c < 6 → I' (m + 34) c = hmWv 0 (hmWhen O 30 H c)) → Q none 0 sh R L I') : Ex (d + 8) 0 0 MX9_tries 0 sh R L I 0 [some (.ref m)] [] Q := by
  refine Ex_aload_n 1 (i := 0) dX9_tries_0 rfl rfl rfl ?_
  refine Ex_getR 4 dX9_tries_1 fX9_93 (xMs_0 hm) rfl (xMr_39 hm) rfl ?_
  refine Ex_iconst 5 (v := 0) dX9_tries_4 (by decide) rfl ?_
  refine Ex_aload_n 6 (i := 0) dX9_tries_5 rfl rfl rfl ?_
  refine Ex_getR 9 dX9_tries_6 fX9_99 (xMs_0 hm) rfl (xMr_41 hm) rfl ?_
  refine Ex_iconst 10 (v := 0) dX9_tries_9 (by decide) rfl ?_
  refine Ex_callS (M' := MX9_copies) 13 [.ref (m + 28), .int 0, .ref (m + 30), .int 0] (rest := []) dX9_tries_10 lX9_350 mX9_copies rfl rfl (Nat.le_of_ble_eq_true rfl) (Nat.le_of_ble_eq_true rfl) rfl ?_
  refine mc_cp (np := 58) (nq := 58) (a := 0) (b := 0) (J := (va_up I (m + 30) (va_cpy (I (m + 28)) (I (m + 30)) 0 0 58))) (xMs_28 hm) (xMs_30 hm) (by omega) (by omega) (by omega) (by omega) (by omega) rfl rfl rfl ?_
  simp only [Option.toList, List.nil_append, List.cons_append]
  refine Ex_aload_n 14 (i := 0) dX9_tries_13 rfl rfl rfl ?_
  refine Ex_callV (M' := MX9_goesOn) 17 [] (rest := []) dX9_tries_14 lX9_390 mX9_goesOn rfl (xMs_0 hm) rfl (Nat.le_of_ble_eq_true rfl) (Nat.le_of_ble_eq_true rfl) rfl ?_
  refine mc_goesOn (H := H) hm (by rw [(va_up_ne _ _ (by omega))]; exact hS) (hO.kept (fun z a b => by rw [va_up_ne _ _ (by omega)])) ho hok (by rw [(va_up_ne _ _ (by omega))]; exact h46) hmn (fun I1 g r1 r2 r3 r4 => ?_)
  simp only [Option.toList, List.nil_append, List.cons_append]
  refine Ex_aload_n 18 (i := 0) dX9_tries_17 rfl rfl rfl ?_
  refine Ex_getR 21 dX9_tries_18 fX9_99 (xMs_0 hm) rfl (xMr_41 hm) rfl ?_
  refine Ex_iconst 22 (v := 0) dX9_tries_21 (by decide) rfl ?_
  refine Ex_aload_n 23 (i := 0) dX9_tries_22 rfl rfl rfl ?_
  refine Ex_getR 26 dX9_tries_23 fX9_93 (xMs_0 hm) rfl (xMr_39 hm) rfl ?_
  refine Ex_iconst 27 (v := 0) dX9_tries_26 (by decide) rfl ?_
  refine Ex_callS (M' := MX9_copies) 30 [.ref (m + 30), .int 0, .ref (m + 28), .int 0] (rest := []) dX9_tries_27 lX9_350 mX9_copies rfl rfl (Nat.le_of_ble_eq_true rfl) (Nat.le_of_ble_eq_true rfl) rfl ?_
  refine mc_cp (np := 58) (nq := 58) (a := 0) (b := 0) (J := (va_up I1 (m + 28) (va_cpy (va_cpy (I (m + 28)) (I (m + 30)) 0 0 58) (I1 (m + 28)) 0 0 58))) (xMs_30 hm) (xMs_28 hm) (by omega) (by omega) (by omega) (by omega) (by omega) ((g.1 _ (by omega) (by omega) (by omega) (by omega)).trans (va_up_self _ _ _)) rfl rfl ?_
  simp only [Option.toList, List.nil_append, List.cons_append]
  refine Ex_ret0 dX9_tries_30 rfl (Or.inl rfl) ?_
  refine hQ _ ?_ ?_ ?_ (fun c hc => ?_)
  · exact hmMg.up (hmMg.tr (hmMg.up hmMg.rf (by unfold hmMt; omega)) g.mg) (by unfold hmMt; omega)
  · rw [va_up_self]
    exact hS.cpy rfl _
  · rw [va_up_ne _ _ (by omega)]
    exact r2
  · rw [va_up_ne _ _ (by omega)]
    exact r4 c hc
set_option maxHeartbeats 4000000 in
theorem mb_when {d : Nat} {sh : xSh} {R : xR} {L : xL} {I : xI} {Q : xQ} {m : Nat} {O : hmO} {H : hmH} (hm : xModel sh R m) (hS : hmMr (I (m + 28)) H) (hO : hmMo I m O) (ho : hmOok O) (hok : hmOk O H) (h46 : I m 46 = nI (hmTk O)) (hmn : hmMin H < 800000) {qv : Int32} (hQ : ∀ I', hmMg m I I' → hmMr (I' (m + 28)) H → Q (some (.int (spWhen O H qv))) 0 sh R L I') : Ex (d + 9) 0 0 MX9_when 0 sh R L I 5 [some (.ref m), some (.int qv)] [] Q := by
  obtain ⟨s6, smin, slen, sset, stak, sline, sheld, shas, stalk⟩ := id hS
  obtain ⟨o6, ot1, ot2, oo, oll, owf⟩ := id ho
  obtain ⟨on, otk, ow, cd, cfrom, cto, clen, ccd, csem⟩ := id hO
  have hlN := hok.2.1
  refine Ex_aload_n 6 (i := 0) dX9_when_5 rfl rfl rfl ?_
  refine Ex_iload_n 7 (i := 1) dX9_when_6 rfl rfl rfl ?_
  refine Ex_callV (M' := MX9_isCaller) 10 [.int qv] (rest := []) dX9_when_7 lX9_347 mX9_isCaller rfl (xMs_0 hm) rfl (Nat.le_of_ble_eq_true rfl) (Nat.le_of_ble_eq_true rfl) rfl ?_
  refine mc_isCaller hm on o6 ?_
  simp only [Option.toList, List.cons_append, List.nil_append]
  refine Ex_if_ne 13 15 dX9_when_10 (by decide) rfl (fun c1 => ?_) (fun c1 => ?_)
  · have hct := hmB_ne c1
    obtain ⟨w, hw, rfl⟩ := hmCal_of hct
    have hix : hmIx (nI w) = w := hmIx_nI (by omega)
    refine Ex_aload_n 16 (i := 0) dX9_when_15 rfl rfl rfl ?_
    refine Ex_callV (M' := MX9_tries) 19 [] (rest := []) dX9_when_16 lX9_393 mX9_tries rfl (xMs_0 hm) rfl (Nat.le_of_ble_eq_true rfl) (Nat.le_of_ble_eq_true rfl) rfl ?_
    refine mc_tries hm hS hO ho hok h46 hmn (fun I' gg rr r50 r34 => ?_)
    simp only [Option.toList, List.nil_append, List.cons_append]
    refine Ex_aload_n 20 (i := 0) dX9_when_19 rfl rfl rfl ?_
    refine Ex_getR 23 dX9_when_20 fX9_111 (xMs_0 hm) rfl (xMr_49 hm) rfl ?_
    refine Ex_iload_n 24 (i := 1) dX9_when_23 rfl rfl rfl ?_
    refine Ex_aI 25 w ((I' (m + 34)) w) dX9_when_24 (xMs_34 hm) rfl (by omega) (by decide) rfl rfl ?_
    rw [r34 w (by omega)]
    refine Ex_iret dX9_when_25 rfl rfl (Or.inl rfl) ?_
    have e : spWhen O H (nI w) = hmWv 0 (hmWhen O 30 H w) := by
      simp only [spWhen, hct, hix, if_true]
    rw [← e]
    exact hQ _ gg rr
  · refine Ex_iconst 14 (v := (-1)) dX9_when_13 (by decide) rfl ?_
    refine Ex_iret dX9_when_14 rfl rfl (Or.inl rfl) ?_
    have e : spWhen O H qv = -1 := by
      simp [spWhen, hmB_eq c1]
    rw [← e]
    exact hQ _ hmMg.rf hS
set_option maxHeartbeats 4000000 in
theorem mq_when {d : Nat} {sh : xSh} {R : xR} {L : xL} {I : xI} {Q : xQ} {m : Nat} {O : hmO} {H : hmH} (hm : xModel sh R m) (hS : hmMr (I (m + 28)) H) (hO : hmMo I m O) (ho : hmOok O) (hok : hmOk O H) (h46 : I m 46 = nI (hmTk O)) (hmn : hmMin H < 800000) {qv : Int32} (hQ : ∀ I', hmMg m (hmTh I m) I' → hmMr (I' (m + 28)) H → Q (some (.int (spWhen O H qv))) 0 sh R L I') : Ex (d + 9) 0 0 MX9_when 0 sh R L I 0 [some (.ref m), some (.int qv)] [] Q := by
  refine Ex_aload_n 1 (i := 0) dX9_when_0 rfl rfl rfl ?_
  refine Ex_iconst 2 (v := 0) dX9_when_1 (by decide) rfl ?_
  refine Ex_pI 5 (I m) (va_up I m (va_up (I m) 0 0)) dX9_when_2 fX9_130 rfl (xMs_0 hm) rfl (fun _ => rfl) rfl rfl rfl rfl ?_
  exact mb_when hm (hmTh_mr hS) (hmTh_mo hO) ho hok ((hmTh_f (by omega)).trans h46) hmn  hQ
set_option maxHeartbeats 4000000 in
theorem mb_empty {d : Nat} {sh : xSh} {R : xR} {L : xL} {I : xI} {Q : xQ} {m : Nat} {O : hmO} {H : hmH} (hm : xModel sh R m) (hS : hmMr (I (m + 28)) H) (hO : hmMo I m O) (ho : hmOok O) (hok : hmOk O H) (h46 : I m 46 = nI (hmTk O)) (hmn : hmMin H < 800000)  (hQ : ∀ I', hmMg m I I' → hmMr (I' (m + 28)) H → Q (some (.int (spEmpty O H))) 0 sh R L I') : Ex (d + 9) 0 0 MX9_empty 0 sh R L I 5 [some (.ref m)] [] Q := by
  obtain ⟨s6, smin, slen, sset, stak, sline, sheld, shas, stalk⟩ := id hS
  obtain ⟨o6, ot1, ot2, oo, oll, owf⟩ := id ho
  obtain ⟨on, otk, ow, cd, cfrom, cto, clen, ccd, csem⟩ := id hO
  have hlN := hok.2.1
  refine Ex_aload_n 6 (i := 0) dX9_empty_5 rfl rfl rfl ?_
  refine Ex_callV (M' := MX9_tries) 9 [] (rest := []) dX9_empty_6 lX9_393 mX9_tries rfl (xMs_0 hm) rfl (Nat.le_of_ble_eq_true rfl) (Nat.le_of_ble_eq_true rfl) rfl ?_
  refine mc_tries hm hS hO ho hok h46 hmn (fun I' gg rr r50 r34 => ?_)
  simp only [Option.toList, List.nil_append, List.cons_append]
  refine Ex_aload_n 10 (i := 0) dX9_empty_9 rfl rfl rfl ?_
  refine Ex_gI 13 ((I' m) 50) dX9_empty_10 fX9_384 (xMs_0 hm) rfl rfl rfl ?_
  rw [r50]
  refine Ex_iret dX9_empty_13 rfl rfl (Or.inl rfl) ?_
  exact hQ _ gg rr
set_option maxHeartbeats 4000000 in
theorem mq_empty {d : Nat} {sh : xSh} {R : xR} {L : xL} {I : xI} {Q : xQ} {m : Nat} {O : hmO} {H : hmH} (hm : xModel sh R m) (hS : hmMr (I (m + 28)) H) (hO : hmMo I m O) (ho : hmOok O) (hok : hmOk O H) (h46 : I m 46 = nI (hmTk O)) (hmn : hmMin H < 800000)  (hQ : ∀ I', hmMg m (hmTh I m) I' → hmMr (I' (m + 28)) H → Q (some (.int (spEmpty O H))) 0 sh R L I') : Ex (d + 9) 0 0 MX9_empty 0 sh R L I 0 [some (.ref m)] [] Q := by
  refine Ex_aload_n 1 (i := 0) dX9_empty_0 rfl rfl rfl ?_
  refine Ex_iconst 2 (v := 0) dX9_empty_1 (by decide) rfl ?_
  refine Ex_pI 5 (I m) (va_up I m (va_up (I m) 0 0)) dX9_empty_2 fX9_130 rfl (xMs_0 hm) rfl (fun _ => rfl) rfl rfl rfl rfl ?_
  exact mb_empty hm (hmTh_mr hS) (hmTh_mo hO) ho hok ((hmTh_f (by omega)).trans h46) hmn  hQ
set_option maxHeartbeats 4000000 in
theorem mb_spread_loop {d : Nat} {sh : xSh} {R : xR} {L : xL} {I : xI} {Q : xQ} {m : Nat} {O : hmO} {G : hmH} (hm : xModel sh R m) (hS : hmMr (I (m + 28)) G) (hO : hmMo I m O) (ho : hmOok O) {k : Nat} (hk : k < 10) (hQ : Q (some (.int (hmWho (hmHas G) k (hmN O)))) 0 sh R L (va_up I (m + 28) (va_cpy (I (m + 30)) (I (m + 28)) 0 0 58))) : ∀ n i, n + i = hmN O → Ex (d + 1) 0 0 MX9_spread 0 sh R L I 38 [some (.ref m), some (.int (nI k)), some (.int (hmWho (hmHas G) k i)), some (.int (nI i))] [] Q := by
  obtain ⟨s6, smin, slen, sset, stak, sline, sheld, shas, stalk⟩ := id hS
  obtain ⟨o6, ot1, ot2, oo, oll, owf⟩ := id ho
  obtain ⟨on, otk, ow, cd, cfrom, cto, clen, ccd, csem⟩ := id hO
  intro n
  induction n with
  | zero =>
    intro i hi
    refine Ex_iload_n 39 (i := 3) dX9_spread_38 rfl rfl rfl ?_
    refine Ex_aload_n 40 (i := 0) dX9_spread_39 rfl rfl rfl ?_
    refine Ex_getR 43 dX9_spread_40 fX9_13 (xMs_0 hm) rfl (xMr_10 hm) rfl ?_
    refine Ex_iconst 44 (v := 0) dX9_spread_43 (by decide) rfl ?_
    refine Ex_aI 45 0 (I (m + 2) 0) dX9_spread_44 (xMs_2 hm) rfl (by decide) (by decide) rfl rfl ?_
    rw [on]
    refine Ex_icmp_ge 48 72 dX9_spread_45 (by decide) rfl (fun c1 => ?_) (fun c1 => absurd c1 (fun q => q (nI_le (by omega) (by omega))))
    refine Ex_aload_n 73 (i := 0) dX9_spread_72 rfl rfl rfl ?_
    refine Ex_getR 76 dX9_spread_73 fX9_99 (xMs_0 hm) rfl (xMr_41 hm) rfl ?_
    refine Ex_iconst 77 (v := 0) dX9_spread_76 (by decide) rfl ?_
    refine Ex_aload_n 78 (i := 0) dX9_spread_77 rfl rfl rfl ?_
    refine Ex_getR 81 dX9_spread_78 fX9_93 (xMs_0 hm) rfl (xMr_39 hm) rfl ?_
    refine Ex_iconst 82 (v := 0) dX9_spread_81 (by decide) rfl ?_
    refine Ex_callS (M' := MX9_copies) 85 [.ref (m + 30), .int 0, .ref (m + 28), .int 0] (rest := []) dX9_spread_82 lX9_350 mX9_copies rfl rfl (Nat.le_of_ble_eq_true rfl) (Nat.le_of_ble_eq_true rfl) rfl ?_
    refine mc_cp (np := 58) (nq := 58) (a := 0) (b := 0) (J := (va_up I (m + 28) (va_cpy (I (m + 30)) (I (m + 28)) 0 0 58))) (xMs_30 hm) (xMs_28 hm) (by omega) (by omega) (by omega) (by omega) (by omega) rfl rfl rfl ?_
    simp only [Option.toList, List.nil_append, List.cons_append]
    refine Ex_iload_n 86 (i := 2) dX9_spread_85 rfl rfl rfl ?_
    refine Ex_iret dX9_spread_86 rfl rfl (Or.inl rfl) ?_
    rw [show i = hmN O by omega]
    exact hQ
  | succ n ih =>
    intro i hi
    refine Ex_iload_n 39 (i := 3) dX9_spread_38 rfl rfl rfl ?_
    refine Ex_aload_n 40 (i := 0) dX9_spread_39 rfl rfl rfl ?_
    refine Ex_getR 43 dX9_spread_40 fX9_13 (xMs_0 hm) rfl (xMr_10 hm) rfl ?_
    refine Ex_iconst 44 (v := 0) dX9_spread_43 (by decide) rfl ?_
    refine Ex_aI 45 0 (I (m + 2) 0) dX9_spread_44 (xMs_2 hm) rfl (by decide) (by decide) rfl rfl ?_
    rw [on]
    refine Ex_icmp_ge 48 72 dX9_spread_45 (by decide) rfl (fun c1 => absurd c1 (nI_ge (by omega) (by omega))) (fun c1 => ?_)
    refine Ex_iload_n 49 (i := 2) dX9_spread_48 rfl rfl rfl ?_
    refine Ex_aload_n 50 (i := 0) dX9_spread_49 rfl rfl rfl ?_
    refine Ex_getR 53 dX9_spread_50 fX9_93 (xMs_0 hm) rfl (xMr_39 hm) rfl ?_
    refine Ex_bipush 55 (v := 16) dX9_spread_53 (by decide) rfl ?_
    refine Ex_iload_n 56 (i := 3) dX9_spread_55 rfl rfl rfl ?_
    refine Ex_iadd 57 dX9_spread_56 rfl ?_
    refine Ex_aI 58 (16 + i) (I (m + 28) (16 + i)) dX9_spread_57 (xMs_28 hm) (hm_ad rfl rfl) (by omega) (by decide) rfl rfl ?_
    rw [shas i (by omega)]
    refine Ex_iload_n 59 (i := 1) dX9_spread_58 rfl rfl rfl ?_
    refine Ex_ishr 60 dX9_spread_59 rfl ?_
    refine Ex_iconst 61 (v := 1) dX9_spread_60 (by decide) rfl ?_
    refine Ex_iand 62 dX9_spread_61 rfl ?_
    refine Ex_iload_n 63 (i := 3) dX9_spread_62 rfl rfl rfl ?_
    refine Ex_ishl 64 dX9_spread_63 rfl ?_
    refine Ex_ior 65 dX9_spread_64 rfl ?_
    refine Ex_istore_n 66 (i := 2) (ls' := [some (.ref m), some (.int (nI k)), some (.int ((hmWho (hmHas G) k i) ||| ((((hmHas G i) >>> ((nI k) &&& 31)) &&& 1) <<< ((nI i) &&& 31)))), some (.int (nI i))]) dX9_spread_65 rfl (Nat.le_of_ble_eq_true rfl) rfl rfl rfl ?_
    refine Ex_iinc 69 (v := (nI (i + 1))) (ls' := [some (.ref m), some (.int (nI k)), some (.int ((hmWho (hmHas G) k i) ||| ((((hmHas G i) >>> ((nI k) &&& 31)) &&& 1) <<< ((nI i) &&& 31)))), some (.int (nI (i + 1)))]) dX9_spread_66 rfl (xinc _) (Nat.le_of_ble_eq_true rfl) rfl rfl rfl ?_
    refine Ex_goto 38 dX9_spread_69 (by decide) ?_
    exact ih (i + 1) (by omega)
set_option maxHeartbeats 4000000 in
theorem mb_spread {d : Nat} {sh : xSh} {R : xR} {L : xL} {I : xI} {Q : xQ} {m : Nat} {O : hmO} {H : hmH} (hm : xModel sh R m) (hS : hmMr (I (m + 28)) H) (hO : hmMo I m O) (ho : hmOok O) (hok : hmOk O H) (h46 : I m 46 = nI (hmTk O)) (hmn : hmMin H < 800000) {qv : Int32} (hQ : ∀ I', hmMg m I I' → hmMr (I' (m + 28)) H → Q (some (.int (spSpread O H qv))) 0 sh R L I') : Ex (d + 8) 0 0 MX9_spread 0 sh R L I 5 [some (.ref m), some (.int qv), none, none] [] Q := by
  obtain ⟨s6, smin, slen, sset, stak, sline, sheld, shas, stalk⟩ := id hS
  obtain ⟨o6, ot1, ot2, oo, oll, owf⟩ := id ho
  obtain ⟨on, otk, ow, cd, cfrom, cto, clen, ccd, csem⟩ := id hO
  have hlN := hok.2.1
  refine Ex_iload_n 6 (i := 1) dX9_spread_5 rfl rfl rfl ?_
  refine Ex_iconst 7 (v := 0) dX9_spread_6 (by decide) rfl ?_
  refine Ex_bipush 9 (v := 9) dX9_spread_7 (by decide) rfl ?_
  refine Ex_callS (M' := MX9_within) 12 [.int qv, .int 0, .int 9] (rest := []) dX9_spread_9 lX9_244 mX9_within rfl rfl (Nat.le_of_ble_eq_true rfl) (Nat.le_of_ble_eq_true rfl) rfl ?_
  refine mc_within ?_
  simp only [Option.toList, List.cons_append, List.nil_append]
  refine Ex_if_ne 15 17 dX9_spread_12 (by decide) rfl (fun c1 => ?_) (fun c1 => ?_)
  · have hct : hmCal 10 qv = true := by
      rw [← hmWith_cal (k := 9) (by omega)]
      exact hmB_ne c1
    obtain ⟨w, hw, rfl⟩ := hmCal_of hct
    have hix : hmIx (nI w) = w := hmIx_nI (by omega)
    refine Ex_aload_n 18 (i := 0) dX9_spread_17 rfl rfl rfl ?_
    refine Ex_getR 21 dX9_spread_18 fX9_93 (xMs_0 hm) rfl (xMr_39 hm) rfl ?_
    refine Ex_iconst 22 (v := 0) dX9_spread_21 (by decide) rfl ?_
    refine Ex_aload_n 23 (i := 0) dX9_spread_22 rfl rfl rfl ?_
    refine Ex_getR 26 dX9_spread_23 fX9_99 (xMs_0 hm) rfl (xMr_41 hm) rfl ?_
    refine Ex_iconst 27 (v := 0) dX9_spread_26 (by decide) rfl ?_
    refine Ex_callS (M' := MX9_copies) 30 [.ref (m + 28), .int 0, .ref (m + 30), .int 0] (rest := []) dX9_spread_27 lX9_350 mX9_copies rfl rfl (Nat.le_of_ble_eq_true rfl) (Nat.le_of_ble_eq_true rfl) rfl ?_
    refine mc_cp (np := 58) (nq := 58) (a := 0) (b := 0) (J := (va_up I (m + 30) (va_cpy (I (m + 28)) (I (m + 30)) 0 0 58))) (xMs_28 hm) (xMs_30 hm) (by omega) (by omega) (by omega) (by omega) (by omega) rfl rfl rfl ?_
    simp only [Option.toList, List.nil_append, List.cons_append]
    refine Ex_aload_n 31 (i := 0) dX9_spread_30 rfl rfl rfl ?_
    refine Ex_callV (M' := MX9_goesOn) 34 [] (rest := []) dX9_spread_31 lX9_390 mX9_goesOn rfl (xMs_0 hm) rfl (Nat.le_of_ble_eq_true rfl) (Nat.le_of_ble_eq_true rfl) rfl ?_
    refine mc_goesOn (H := H) hm (by rw [(va_up_ne _ _ (by omega))]; exact hS) (hO.kept (fun z a b => by rw [va_up_ne _ _ (by omega)])) ho hok (by rw [(va_up_ne _ _ (by omega))]; exact h46) hmn (fun I1 g r1 r2 r3 r4 => ?_)
    simp only [Option.toList, List.nil_append, List.cons_append]
    refine Ex_iconst 35 (v := 0) dX9_spread_34 (by decide) rfl ?_
    refine Ex_istore_n 36 (i := 2) (ls' := [some (.ref m), some (.int (nI w)), some (.int 0), none]) dX9_spread_35 rfl (Nat.le_of_ble_eq_true rfl) rfl rfl rfl ?_
    refine Ex_iconst 37 (v := 0) dX9_spread_36 (by decide) rfl ?_
    refine Ex_istore_n 38 (i := 3) (ls' := [some (.ref m), some (.int (nI w)), some (.int 0), some (.int 0)]) dX9_spread_37 rfl (Nat.le_of_ble_eq_true rfl) rfl rfl rfl ?_
    have e : spSpread O H (nI w) = hmWho (hmHas (hmOut O 30 H).2) w (hmN O) := by simp only [spSpread, hct, hix, if_true]
    rw [e] at hQ
    have gg : hmMg m I I1 := hmMg.tr (hmMg.up hmMg.rf (by unfold hmMt; omega)) g.mg
    refine mb_spread_loop hm r1 (gg.mo hO) ho hw ?_ (hmN O) 0 (by omega)
    refine hQ _ (hmMg.up gg (by unfold hmMt; omega)) ?_
    rw [va_up_self, ((g.1 _ (by omega) (by omega) (by omega) (by omega)).trans (va_up_self _ _ _))]
    exact hS.cpy rfl _
  · refine Ex_iconst 16 (v := (-1)) dX9_spread_15 (by decide) rfl ?_
    refine Ex_iret dX9_spread_16 rfl rfl (Or.inl rfl) ?_
    have e : spSpread O H qv = -1 := by
      have h1 : hmCal 10 qv = false := by
        rw [← hmWith_cal (k := 9) (by omega)]
        exact hmB_eq c1
      simp [spSpread, h1]
    rw [← e]
    exact hQ _ hmMg.rf hS
set_option maxHeartbeats 4000000 in
theorem mq_spread {d : Nat} {sh : xSh} {R : xR} {L : xL} {I : xI} {Q : xQ} {m : Nat} {O : hmO} {H : hmH} (hm : xModel sh R m) (hS : hmMr (I (m + 28)) H) (hO : hmMo I m O) (ho : hmOok O) (hok : hmOk O H) (h46 : I m 46 = nI (hmTk O)) (hmn : hmMin H < 800000) {qv : Int32} (hQ : ∀ I', hmMg m (hmTh I m) I' → hmMr (I' (m + 28)) H → Q (some (.int (spSpread O H qv))) 0 sh R L I') : Ex (d + 8) 0 0 MX9_spread 0 sh R L I 0 [some (.ref m), some (.int qv), none, none] [] Q := by
  refine Ex_aload_n 1 (i := 0) dX9_spread_0 rfl rfl rfl ?_
  refine Ex_iconst 2 (v := 0) dX9_spread_1 (by decide) rfl ?_
  refine Ex_pI 5 (I m) (va_up I m (va_up (I m) 0 0)) dX9_spread_2 fX9_130 rfl (xMs_0 hm) rfl (fun _ => rfl) rfl rfl rfl rfl ?_
  exact mb_spread hm (hmTh_mr hS) (hmTh_mo hO) ho hok ((hmTh_f (by omega)).trans h46) hmn  hQ
