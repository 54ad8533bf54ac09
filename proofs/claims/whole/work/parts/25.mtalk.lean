set_option maxHeartbeats 4000000 in
theorem mw_loop {d : Nat} {sh : xSh} {R : xR} {L : xL} {I : xI} {Q : xQ} {m : Nat} {cd : List Int32} {h mm o t : Int32} (hm : xModel sh R m) (hto : I (m + 9) 0 = nI cd.length) (hlen : cd.length ≤ 1000) (hcd : ∀ i, i < cd.length → I (m + 10) i = cd.getD i 0) (hv1 : I (m + 22) 1 = h) (hv2 : I (m + 22) 2 = mm) (hv3 : I (m + 22) 3 = o) (hv4 : I (m + 22) 4 = t) {k0 : hmW9} (hwok : hmWok cd k0 h mm o t) (hQ : ∀ I', hmFw m I I' → Q (some (.int (hmWk cd k0 h mm o t))) 0 sh R L I') : ∀ (n i dd : Nat) (J : xI), n + i = cd.length → hmFw m I J → (dd, hmK J m) = (cd.take i).foldl (hmWstep h mm o t) (0, hmOpens k0 0) → Ex (d + 2) 0 0 MX9_worked 0 sh R L J 14 [some (.ref m), some (.int 0), some (.int (nI dd)), some (.int (nI i)), none, none] [] Q := by
  intro n
  induction n with
  | zero =>
    intro i dd J hn hF hs
    have hi : cd.length ≤ i := by omega
    rw [List.take_of_length_le hi] at hs
    refine Ex_iload_n 15 (i := 3) dX9_worked_14 rfl rfl rfl ?_
    refine Ex_aload_n 16 (i := 0) dX9_worked_15 rfl rfl rfl ?_
    refine Ex_getR 19 dX9_worked_16 fX9_35 (xMs_0 hm) rfl (xMr_17 hm) rfl ?_
    refine Ex_iload_n 20 (i := 1) dX9_worked_19 rfl rfl rfl ?_
    refine Ex_aI 21 0 (I (m + 9) 0) dX9_worked_20 (xMs_9 hm) rfl (by decide) (by decide) (congrFun (hF _ (by omega)) _) rfl ?_
    rw [hto]
    refine Ex_icmp_ge 24 335 dX9_worked_21 (by decide) rfl (fun c1 => ?_) (fun c1 => absurd c1 (fun q => q (nI_le (by omega) (by omega))))
    refine Ex_aload_n 336 (i := 0) dX9_worked_335 rfl rfl rfl ?_
    refine Ex_iconst 337 (v := 0) dX9_worked_336 (by decide) rfl ?_
    refine Ex_callV (M' := MX9_tests) 340 [.int 0] (rest := []) dX9_worked_337 lX9_213 mX9_tests rfl (xMs_0 hm) rfl (Nat.le_of_ble_eq_true rfl) (Nat.le_of_ble_eq_true rfl) rfl ?_
    refine mc_tests hm (show 0 < 7 by omega) (fun I1 hF1 hK1 => ?_)
    simp only [Option.toList, List.nil_append]
    refine Ex_aload_n 341 (i := 0) dX9_worked_340 rfl rfl rfl ?_
    refine Ex_getR 344 dX9_worked_341 fX9_48 (xMs_0 hm) rfl (xMr_23 hm) rfl ?_
    refine Ex_iconst 345 (v := 0) dX9_worked_344 (by decide) rfl ?_
    refine Ex_aI 346 0 (I1 (m + 13) 0) dX9_worked_345 (xMs_13 hm) rfl (by decide) (by decide) rfl rfl ?_
    refine Ex_iret dX9_worked_346 rfl rfl (Or.inl rfl) ?_
    have e : I1 (m + 13) 0 = hmWk cd k0 h mm o t := by
      have h1 : I1 (m + 13) 0 = hmKept (hmTests (hmK J m) 0) 0 := congrArg (fun k => hmKept k 0) hK1
      rw [h1]
      unfold hmWk
      rw [← hs]
    rw [e]
    exact hQ I1 (hF.tr hF1)
  | succ n ih =>
    intro i dd J hn hF hs
    have hi : i < cd.length := by omega
    obtain ⟨w1, w2⟩ := id hwok
    have hw := w2 i hi
    rw [← hs] at hw
    have hcx : hmCod (cd.getD i 0) := w1 _ (by simp [hi])
    have hJv : J (m + 22) = I (m + 22) := hF _ (by omega)
    have nx : ∀ (d' : Nat) (J' : xI) (c' v' : Option Value), hmFw m I J' → (d', hmK J' m) = hmWstep h mm o t (dd, hmK J m) (cd.getD i 0) → Ex (d + 2) 0 0 MX9_worked 0 sh R L J' 329 [some (.ref m), some (.int 0), some (.int (nI d')), some (.int (nI i)), c', v'] [] Q := by
      intro d' J' c' v' hF' he'
      refine Ex_fgt (ls' := [some (.ref m), some (.int 0), some (.int (nI d')), some (.int (nI i)), none, none]) (by simp [xsub]) ?_
      refine Ex_iinc 332 (v := (nI (i + 1))) (ls' := [some (.ref m), some (.int 0), some (.int (nI d')), some (.int (nI (i + 1))), none, none]) dX9_worked_329 rfl (xinc _) (Nat.le_of_ble_eq_true rfl) rfl rfl rfl ?_
      refine Ex_goto 14 dX9_worked_332 (by decide) ?_
      refine ih (i + 1) d' J' (by omega) hF' ?_
      rw [List.take_succ_eq_append_getElem hi, List.foldl_append, ← hs, he']
      simp [hi]
    refine Ex_iload_n 15 (i := 3) dX9_worked_14 rfl rfl rfl ?_
    refine Ex_aload_n 16 (i := 0) dX9_worked_15 rfl rfl rfl ?_
    refine Ex_getR 19 dX9_worked_16 fX9_35 (xMs_0 hm) rfl (xMr_17 hm) rfl ?_
    refine Ex_iload_n 20 (i := 1) dX9_worked_19 rfl rfl rfl ?_
    refine Ex_aI 21 0 (I (m + 9) 0) dX9_worked_20 (xMs_9 hm) rfl (by decide) (by decide) (congrFun (hF _ (by omega)) _) rfl ?_
    rw [hto]
    refine Ex_icmp_ge 24 335 dX9_worked_21 (by decide) rfl (fun c1 => absurd c1 (nI_ge (by omega) (by omega))) (fun c1 => ?_)
    refine Ex_aload_n 25 (i := 0) dX9_worked_24 rfl rfl rfl ?_
    refine Ex_getR 28 dX9_worked_25 fX9_38 (xMs_0 hm) rfl (xMr_18 hm) rfl ?_
    refine Ex_iload_n 29 (i := 3) dX9_worked_28 rfl rfl rfl ?_
    refine Ex_aI 30 i (I (m + 10) i) dX9_worked_29 (xMs_10 hm) rfl (by omega) (by decide) (congrFun (hF _ (by omega)) _) rfl ?_
    rw [hcd i hi]
    refine Ex_istore 32 (ls' := [some (.ref m), some (.int 0), some (.int (nI dd)), some (.int (nI i)), some (.int (cd.getD i 0)), none]) dX9_worked_30 (Nat.le_of_ble_eq_true rfl) rfl rfl rfl ?_
    revert nx hw
    generalize cd.getD i 0 = cc at hcx ⊢
    intro hw nx
    rcases hcx with rfl | rfl | rfl | rfl | rfl | rfl | rfl | rfl | rfl | rfl | rfl | rfl | rfl | rfl | ⟨k, hk, rfl⟩
    · exact mw_t1 hm hF hw.1 (by rw [hJv]; exact hv1) nx
    · exact mw_t2 hm hF hw.1 (by rw [hJv]; exact hv2) nx
    · exact mw_t3 hm hF hw.1 (by rw [hJv]; exact hv3) nx
    · exact mw_t4 hm hF hw.1 (by rw [hJv]; exact hv4) nx
    · exact mw_t20 hm hF hw.1 nx
    · exact mw_t21 hm hF hw.1 nx
    · exact mw_t22 hm hF hw.1 nx
    · exact mw_t24 hm hF hw.1 nx
    · exact mw_t25 hm hF hw.1 nx
    · exact mw_t26 hm hF hw.1 nx
    · exact mw_t27 hm hF hw.1 nx
    · exact mw_t28 hm hF hw.1 nx
    · exact mw_t29 hm hF hw.1 (hw.2 rfl) nx
    · exact mw_t30 hm hF hw.1 nx
    · exact mw_tn hk hm hF hw.1 nx
set_option maxHeartbeats 4000000 in
theorem mc_worked {d : Nat} {sh : xSh} {R : xR} {L : xL} {I : xI} {Q : xQ} {m : Nat} {cd : List Int32} {h mm o t : Int32} (hm : xModel sh R m) (hfrom : I (m + 8) 0 = 0) (hto : I (m + 9) 0 = nI cd.length) (hlen : cd.length ≤ 1000) (hcd : ∀ i, i < cd.length → I (m + 10) i = cd.getD i 0) (hv1 : I (m + 22) 1 = h) (hv2 : I (m + 22) 2 = mm) (hv3 : I (m + 22) 3 = o) (hv4 : I (m + 22) 4 = t) (hwok : hmWok cd (hmK I m) h mm o t) (hQ : ∀ I', hmFw m I I' → Q (some (.int (hmWk cd (hmK I m) h mm o t))) 0 sh R L I') : Ex (d + 2) 0 0 MX9_worked 0 sh R L I 0 [some (.ref m), some (.int 0), none, none, none, none] [] Q := by
  refine Ex_iconst 1 (v := 0) dX9_worked_0 (by decide) rfl ?_
  refine Ex_istore_n 2 (i := 2) (ls' := [some (.ref m), some (.int 0), some (.int 0), none, none, none]) dX9_worked_1 rfl (Nat.le_of_ble_eq_true rfl) rfl rfl rfl ?_
  refine Ex_aload_n 3 (i := 0) dX9_worked_2 rfl rfl rfl ?_
  refine Ex_iconst 4 (v := 0) dX9_worked_3 (by decide) rfl ?_
  refine Ex_callV (M' := MX9_opens) 7 [.int 0] (rest := []) dX9_worked_4 lX9_210 mX9_opens rfl (xMs_0 hm) rfl (Nat.le_of_ble_eq_true rfl) (Nat.le_of_ble_eq_true rfl) rfl ?_
  refine mc_opens hm (show 0 < 7 by omega) (fun I1 hF1 hK1 => ?_)
  simp only [Option.toList, List.nil_append]
  refine Ex_aload_n 8 (i := 0) dX9_worked_7 rfl rfl rfl ?_
  refine Ex_getR 11 dX9_worked_8 fX9_32 (xMs_0 hm) rfl (xMr_16 hm) rfl ?_
  refine Ex_iload_n 12 (i := 1) dX9_worked_11 rfl rfl rfl ?_
  refine Ex_aI 13 0 (I (m + 8) 0) dX9_worked_12 (xMs_8 hm) rfl (by decide) (by decide) (congrFun (hF1 _ (by omega)) _) rfl ?_
  rw [hfrom]
  refine Ex_istore_n 14 (i := 3) (ls' := [some (.ref m), some (.int 0), some (.int 0), some (.int 0), none, none]) dX9_worked_13 rfl (Nat.le_of_ble_eq_true rfl) rfl rfl rfl ?_
  exact mw_loop (k0 := hmK I m) hm hto hlen hcd hv1 hv2 hv3 hv4 hwok hQ cd.length 0 0 I1 (by omega) hF1 (by rw [hK1]; simp)
/-- the reference's office is O -/
def hmML (I : xI) (m : Nat) (O : hmO) : Prop := ∃ cd : List Int32, I (m + 8) 0 = 0 ∧ I (m + 9) 0 = nI cd.length ∧ cd.length ≤ 1000 ∧ (∀ i, i < cd.length → I (m + 10) i = cd.getD i 0) ∧ ((cd = [] ∧ hmLw O = []) ∨ (cd ≠ [] ∧ ∀ k0 h mm o t, hmWok cd k0 h mm o t ∧ hmWk cd k0 h mm o t = hmLawV (hmLw O) h mm o t))
def hmMo (I : xI) (m : Nat) (O : hmO) : Prop := I (m + 2) 0 = nI (hmN O) ∧ I (m + 2) 1 = nI (hmTk O) ∧ (∀ w, w < hmN O → I (m + 4) w = nI (hmKi O w) ∧ I (m + 5) w = nI (hmTr O w) ∧ I (m + 6) w = hmKn O w ∧ I (m + 7) w = nI (hmHo O w)) ∧ hmML I m O
def hmFv (m : Nat) (I I' : xI) : Prop := ∀ x, ¬ (m + 13 ≤ x ∧ x < m + 23) → I' x = I x
def hmFm (m : Nat) (I I' : xI) : Prop := ∀ x, x ≠ m + 28 → ¬ (m + 13 ≤ x ∧ x < m + 23) → I' x = I x
theorem hmFm.rf {m : Nat} {I : xI} : hmFm m I I := fun _ _ _ => rfl
theorem hmFm.tr {m : Nat} {I J K : xI} (h1 : hmFm m I J) (h2 : hmFm m J K) : hmFm m I K := fun x hx hx2 => (h2 x hx hx2).trans (h1 x hx hx2)
theorem hmFm.up {m : Nat} {I J : xI} {r : Nat → Int32} (h : hmFm m I J) : hmFm m I (va_up J (m + 28) r) := fun x hx hx2 => by
  rw [va_up_ne _ _ hx]
  exact h x hx hx2
theorem hmML.kept {I I' : xI} {m : Nat} {O : hmO} (h : hmML I m O) (hf : ∀ x, m + 8 ≤ x → x < m + 11 → I' x = I x) : hmML I' m O := by
  unfold hmML at h ⊢
  rw [hf (m + 8) (by omega) (by omega), hf (m + 9) (by omega) (by omega), hf (m + 10) (by omega) (by omega)]
  exact h
theorem hmMo.kept {I I' : xI} {m : Nat} {O : hmO} (h : hmMo I m O) (hf : ∀ x, m + 2 ≤ x → x < m + 11 → I' x = I x) : hmMo I' m O := by
  obtain ⟨h1, h2, h3, h4⟩ := h
  unfold hmMo
  rw [hf (m + 2) (by omega) (by omega), hf (m + 4) (by omega) (by omega), hf (m + 5) (by omega) (by omega), hf (m + 6) (by omega) (by omega), hf (m + 7) (by omega) (by omega)]
  exact ⟨h1, h2, h3, h4.kept (fun x h1 h2 => hf x (by omega) (by omega))⟩
theorem hmMo.fm {I I' : xI} {m : Nat} {O : hmO} (h : hmMo I m O) (hf : hmFm m I I') : hmMo I' m O := h.kept (fun x h1 h2 => hf x (by omega) (by omega))
set_option maxHeartbeats 4000000 in
theorem mc_believes {d : Nat} {sh : xSh} {R : xR} {L : xL} {I : xI} {Q : xQ} {m : Nat} {H : hmH} {O : hmO} (hm : xModel sh R m) (hS : hmMr (I (m + 28)) H) (hO : hmMo I m O) (ho : hmOok O) {fr to : Nat} (hfr : fr < hmN O) (hto : to < hmN O) (hQ : ∀ I', hmFv m I I' → Q (some (.int (hmB (decide (¬ hmLaw O (hmHas H) (hmHeld H) (hmTalk H to fr) fr to = 0))))) 0 sh R L I') : Ex (d + 3) 0 0 MX9_believes 0 sh R L I 0 [some (.ref m), some (.int (nI to)), some (.int (nI fr))] [] Q := by
  obtain ⟨s6, smin, slen, sset, stak, sline, sheld, shas, stalk⟩ := id hS
  obtain ⟨o6, ot1, ot2, oo, oll, owf⟩ := id ho
  obtain ⟨on, otk, ow, cd, cfrom, cto, clen, ccd, csem⟩ := id hO
  refine Ex_aload_n 1 (i := 0) dX9_believes_0 rfl rfl rfl ?_
  refine Ex_getR 4 dX9_believes_1 fX9_35 (xMs_0 hm) rfl (xMr_17 hm) rfl ?_
  refine Ex_iconst 5 (v := 0) dX9_believes_4 (by decide) rfl ?_
  refine Ex_aI 6 0 (I (m + 9) 0) dX9_believes_5 (xMs_9 hm) rfl (by decide) (by decide) rfl rfl ?_
  refine Ex_aload_n 7 (i := 0) dX9_believes_6 rfl rfl rfl ?_
  refine Ex_getR 10 dX9_believes_7 fX9_32 (xMs_0 hm) rfl (xMr_16 hm) rfl ?_
  refine Ex_iconst 11 (v := 0) dX9_believes_10 (by decide) rfl ?_
  refine Ex_aI 12 0 (I (m + 8) 0) dX9_believes_11 (xMs_8 hm) rfl (by decide) (by decide) rfl rfl ?_
  rw [cto, cfrom]
  refine Ex_icmp_ne 15 17 dX9_believes_12 (by decide) rfl (fun c1 => ?_) (fun c1 => ?_)
  · have hcne : ¬ cd.length = 0 := fun q => c1 (by rw [q]; rfl)
    refine Ex_aload_n 18 (i := 0) dX9_believes_17 rfl rfl rfl ?_
    refine Ex_getR 21 dX9_believes_18 fX9_75 (xMs_0 hm) rfl (xMr_32 hm) rfl ?_
    refine Ex_iconst 22 (v := 1) dX9_believes_21 (by decide) rfl ?_
    refine Ex_aload_n 23 (i := 0) dX9_believes_22 rfl rfl rfl ?_
    refine Ex_getR 26 dX9_believes_23 fX9_93 (xMs_0 hm) rfl (xMr_39 hm) rfl ?_
    refine Ex_bipush 28 (v := 10) dX9_believes_26 (by decide) rfl ?_
    refine Ex_iload_n 29 (i := 1) dX9_believes_28 rfl rfl rfl ?_
    refine Ex_iadd 30 dX9_believes_29 rfl ?_
    refine Ex_aI 31 (10 + to) (I (m + 28) (10 + to)) dX9_believes_30 (xMs_28 hm) (hm_ad rfl rfl) (by omega) (by decide) rfl rfl ?_
    rw [sheld to (by omega)]
    refine Ex_sI 32 1 (I (m + 22)) (va_up I (m + 22) (va_up (I (m + 22)) 1 (nI (hmHeld H to)))) dX9_believes_31 (xMs_22 hm) rfl (by decide) (by decide) rfl rfl rfl ?_
    refine Ex_aload_n 33 (i := 0) dX9_believes_32 rfl rfl rfl ?_
    refine Ex_getR 36 dX9_believes_33 fX9_75 (xMs_0 hm) rfl (xMr_32 hm) rfl ?_
    refine Ex_iconst 37 (v := 2) dX9_believes_36 (by decide) rfl ?_
    refine Ex_aload_n 38 (i := 0) dX9_believes_37 rfl rfl rfl ?_
    refine Ex_getR 41 dX9_believes_38 fX9_93 (xMs_0 hm) rfl (xMr_39 hm) rfl ?_
    refine Ex_bipush 43 (v := 22) dX9_believes_41 (by decide) rfl ?_
    refine Ex_bipush 45 (v := 6) dX9_believes_43 (by decide) rfl ?_
    refine Ex_iload_n 46 (i := 1) dX9_believes_45 rfl rfl rfl ?_
    refine Ex_imul 47 dX9_believes_46 rfl ?_
    refine Ex_iadd 48 dX9_believes_47 rfl ?_
    refine Ex_iload_n 49 (i := 2) dX9_believes_48 rfl rfl rfl ?_
    refine Ex_iadd 50 dX9_believes_49 rfl ?_
    refine Ex_aI 51 ((22 + (6 * to)) + fr) (I (m + 28) ((22 + (6 * to)) + fr)) dX9_believes_50 (xMs_28 hm) (hm_ad (hm_ad rfl (hm_mu rfl rfl)) rfl) (by omega) (by decide) (congrFun (va_up_ne _ _ (by omega)) _) rfl ?_
    rw [stalk to (by omega) fr (by omega)]
    refine Ex_sI 52 2 (va_up (I (m + 22)) 1 (nI (hmHeld H to))) (va_up I (m + 22) (va_up (va_up (I (m + 22)) 1 (nI (hmHeld H to))) 2 (nI (hmTalk H to fr)))) dX9_believes_51 (xMs_22 hm) rfl (by decide) (by decide) (va_up_self _ _ _) (va_up_up _ _ _ _) rfl ?_
    refine Ex_aload_n 53 (i := 0) dX9_believes_52 rfl rfl rfl ?_
    refine Ex_getR 56 dX9_believes_53 fX9_75 (xMs_0 hm) rfl (xMr_32 hm) rfl ?_
    refine Ex_iconst 57 (v := 3) dX9_believes_56 (by decide) rfl ?_
    refine Ex_aload_n 58 (i := 0) dX9_believes_57 rfl rfl rfl ?_
    refine Ex_getR 61 dX9_believes_58 fX9_93 (xMs_0 hm) rfl (xMr_39 hm) rfl ?_
    refine Ex_bipush 63 (v := 16) dX9_believes_61 (by decide) rfl ?_
    refine Ex_iload_n 64 (i := 1) dX9_believes_63 rfl rfl rfl ?_
    refine Ex_iadd 65 dX9_believes_64 rfl ?_
    refine Ex_aI 66 (16 + to) (I (m + 28) (16 + to)) dX9_believes_65 (xMs_28 hm) (hm_ad rfl rfl) (by omega) (by decide) (congrFun (va_up_ne _ _ (by omega)) _) rfl ?_
    rw [shas to (by omega)]
    refine Ex_callS (M' := MX9_bits) 69 [.int (hmHas H to)] (rest := [.int 3, .ref (m + 22)]) dX9_believes_66 lX9_322 mX9_bits rfl rfl (Nat.le_of_ble_eq_true rfl) (Nat.le_of_ble_eq_true rfl) rfl ?_
    refine mc_bits ?_
    simp only [Option.toList, List.cons_append, List.nil_append]
    refine Ex_sI 70 3 (va_up (va_up (I (m + 22)) 1 (nI (hmHeld H to))) 2 (nI (hmTalk H to fr))) (va_up I (m + 22) (va_up (va_up (va_up (I (m + 22)) 1 (nI (hmHeld H to))) 2 (nI (hmTalk H to fr))) 3 (hmCnt (hmHas H to)))) dX9_believes_69 (xMs_22 hm) rfl (by decide) (by decide) (va_up_self _ _ _) (va_up_up _ _ _ _) rfl ?_
    refine Ex_aload_n 71 (i := 0) dX9_believes_70 rfl rfl rfl ?_
    refine Ex_getR 74 dX9_believes_71 fX9_75 (xMs_0 hm) rfl (xMr_32 hm) rfl ?_
    refine Ex_iconst 75 (v := 4) dX9_believes_74 (by decide) rfl ?_
    refine Ex_aload_n 76 (i := 0) dX9_believes_75 rfl rfl rfl ?_
    refine Ex_getR 79 dX9_believes_76 fX9_93 (xMs_0 hm) rfl (xMr_39 hm) rfl ?_
    refine Ex_bipush 81 (v := 16) dX9_believes_79 (by decide) rfl ?_
    refine Ex_iload_n 82 (i := 2) dX9_believes_81 rfl rfl rfl ?_
    refine Ex_iadd 83 dX9_believes_82 rfl ?_
    refine Ex_aI 84 (16 + fr) (I (m + 28) (16 + fr)) dX9_believes_83 (xMs_28 hm) (hm_ad rfl rfl) (by omega) (by decide) (congrFun (va_up_ne _ _ (by omega)) _) rfl ?_
    rw [shas fr (by omega)]
    refine Ex_callS (M' := MX9_bits) 87 [.int (hmHas H fr)] (rest := [.int 4, .ref (m + 22)]) dX9_believes_84 lX9_322 mX9_bits rfl rfl (Nat.le_of_ble_eq_true rfl) (Nat.le_of_ble_eq_true rfl) rfl ?_
    refine mc_bits ?_
    simp only [Option.toList, List.cons_append, List.nil_append]
    refine Ex_sI 88 4 (va_up (va_up (va_up (I (m + 22)) 1 (nI (hmHeld H to))) 2 (nI (hmTalk H to fr))) 3 (hmCnt (hmHas H to))) (va_up I (m + 22) (va_up (va_up (va_up (va_up (I (m + 22)) 1 (nI (hmHeld H to))) 2 (nI (hmTalk H to fr))) 3 (hmCnt (hmHas H to))) 4 (hmCnt (hmHas H fr)))) dX9_believes_87 (xMs_22 hm) rfl (by decide) (by decide) (va_up_self _ _ _) (va_up_up _ _ _ _) rfl ?_
    refine Ex_aload_n 89 (i := 0) dX9_believes_88 rfl rfl rfl ?_
    refine Ex_iconst 90 (v := 0) dX9_believes_89 (by decide) rfl ?_
    refine Ex_callV (M' := MX9_worked) 93 [.int 0] (rest := []) dX9_believes_90 lX9_325 mX9_worked rfl (xMs_0 hm) rfl (Nat.le_of_ble_eq_true rfl) (Nat.le_of_ble_eq_true rfl) rfl ?_
    obtain ⟨J, hJ⟩ : ∃ J, J = (va_up I (m + 22) (va_up (va_up (va_up (va_up (I (m + 22)) 1 (nI (hmHeld H to))) 2 (nI (hmTalk H to fr))) 3 (hmCnt (hmHas H to))) 4 (hmCnt (hmHas H fr)))) := ⟨_, rfl⟩
    rw [← hJ]
    have hJr : ∀ x, x ≠ m + 22 → J x = I x := fun x hx => by rw [hJ, va_up_ne _ _ hx]
    have hJ22 : J (m + 22) = (va_up (va_up (va_up (va_up (I (m + 22)) 1 (nI (hmHeld H to))) 2 (nI (hmTalk H to fr))) 3 (hmCnt (hmHas H to))) 4 (hmCnt (hmHas H fr))) := by rw [hJ, va_up_self]
    have hsem : cd ≠ [] ∧ ∀ k0 h mm o t, hmWok cd k0 h mm o t ∧ hmWk cd k0 h mm o t = hmLawV (hmLw O) h mm o t := by
      rcases csem with z | z
      · exact absurd (by rw [z.1]; rfl) hcne
      · exact z
    refine mc_worked (h := nI (hmHeld H to)) (mm := nI (hmTalk H to fr)) (o := hmCnt (hmHas H to)) (t := hmCnt (hmHas H fr)) hm (by rw [hJr _ (by omega)]; exact cfrom) (by rw [hJr _ (by omega)]; exact cto) clen (by rw [hJr _ (by omega)]; exact ccd) (by rw [hJ22]; rfl) (by rw [hJ22]; rfl) (by rw [hJ22]; rfl) (by rw [hJ22]; rfl) (hsem.2 _ _ _ _ _).1 (fun I' hF' => ?_)
    rw [(hsem.2 _ _ _ _ _).2]
    change Ex _ _ _ _ _ _ _ _ _ _ _ (.int (hmLaw O (hmHas H) (hmHeld H) (hmTalk H to fr) fr to) :: _) _
    refine Ex_if_eq 96 100 dX9_believes_93 (by decide) rfl (fun c2 => ?_) (fun c2 => ?_)
    · refine Ex_iconst 101 (v := 0) dX9_believes_100 (by decide) rfl ?_
      refine Ex_iret dX9_believes_101 rfl (by decide) (Or.inl rfl) ?_
      have e : hmB (decide (¬ hmLaw O (hmHas H) (hmHeld H) (hmTalk H to fr) fr to = 0)) = 0 := by
        rw [hmB_0, decide_eq_false_iff_not]
        exact fun q => q c2
      rw [← e]
      exact hQ I' (fun x hx => (hF' x (by omega)).trans (hJr x (by omega)))
    · refine Ex_iconst 97 (v := 1) dX9_believes_96 (by decide) rfl ?_
      refine Ex_goto 101 dX9_believes_97 (by decide) ?_
      refine Ex_iret dX9_believes_101 rfl (by decide) (Or.inl rfl) ?_
      have e : hmB (decide (¬ hmLaw O (hmHas H) (hmHeld H) (hmTalk H to fr) fr to = 0)) = 1 := by
        rw [hmB_1, decide_eq_true_eq]
        exact c2
      rw [← e]
      exact hQ I' (fun x hx => (hF' x (by omega)).trans (hJr x (by omega)))
  · refine Ex_iconst 16 (v := 1) dX9_believes_15 (by decide) rfl ?_
    refine Ex_iret dX9_believes_16 rfl (by decide) (Or.inl rfl) ?_
    have hc0 : cd.length = 0 := (nI_eq (b := 0) (by omega) (by omega)).mp c1
    have hl0 : hmLw O = [] := by
      rcases csem with z | z
      · exact z.2
      · exact absurd (List.eq_nil_of_length_eq_zero hc0) z.1
    have e : hmB (decide (¬ hmLaw O (hmHas H) (hmHeld H) (hmTalk H to fr) fr to = 0)) = 1 := by
      rw [hmB_1, decide_eq_true_eq]
      unfold hmLaw
      rw [hl0]
      show ¬ (1 : Int32) = 0
      decide
    rw [← e]
    exact hQ I (fun _ _ => rfl)
