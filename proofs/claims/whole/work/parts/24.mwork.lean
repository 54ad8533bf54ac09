set_option maxHeartbeats 4000000 in
theorem mw_val {d : Nat} {sh : xSh} {R : xR} {L : xL} {I : xI} {Q : xQ} {m i : Nat} {c : Int32} (hm : xModel sh R m) : ∀ (dd : Nat) (v : Int32) (J : xI), dd < 7 → hmFw m I J → (∀ (d' : Nat) (J' : xI) (v' : Int32), hmFw m I J' → (d', hmK J' m) = hmVal (hmK J m) dd v → Ex (d + 2) 0 0 MX9_worked 0 sh R L J' 329 [some (.ref m), some (.int 0), some (.int (nI d')), some (.int (nI i)), some (.int c), some (.int v')] [] Q) → Ex (d + 2) 0 0 MX9_worked 0 sh R L J 268 [some (.ref m), some (.int 0), some (.int (nI dd)), some (.int (nI i)), some (.int c), some (.int v)] [] Q := by
  intro dd
  induction dd with
  | zero =>
    intro v J h7 hF ihv
    refine Ex_iload_n 269 (i := 2) dX9_worked_268 rfl rfl rfl ?_
    refine Ex_if_le 272 300 dX9_worked_269 (by decide) rfl (fun c1 => ?_) (fun c1 => absurd c1 (fun q => q (by decide)))
    refine Ex_aload_n 301 (i := 0) dX9_worked_300 rfl rfl rfl ?_
    refine Ex_getR 304 dX9_worked_301 fX9_66 (xMs_0 hm) rfl (xMr_29 hm) rfl ?_
    refine Ex_iload_n 305 (i := 2) dX9_worked_304 rfl rfl rfl ?_
    refine Ex_aload_n 306 (i := 0) dX9_worked_305 rfl rfl rfl ?_
    refine Ex_getR 309 dX9_worked_306 fX9_69 (xMs_0 hm) rfl (xMr_30 hm) rfl ?_
    refine Ex_iload_n 310 (i := 2) dX9_worked_309 rfl rfl rfl ?_
    refine Ex_aI 311 0 (J (m + 20) 0) dX9_worked_310 (xMs_20 hm) rfl (by omega) (by decide) rfl rfl ?_
    refine Ex_if_ne 314 319 dX9_worked_311 (by decide) rfl (fun c2 => ?_) (fun c2 => ?_)
    · refine Ex_aload_n 320 (i := 0) dX9_worked_319 rfl rfl rfl ?_
      refine Ex_getR 323 dX9_worked_320 fX9_66 (xMs_0 hm) rfl (xMr_29 hm) rfl ?_
      refine Ex_iload_n 324 (i := 2) dX9_worked_323 rfl rfl rfl ?_
      refine Ex_aI 325 0 (J (m + 19) 0) dX9_worked_324 (xMs_19 hm) rfl (by omega) (by decide) rfl rfl ?_
      refine Ex_iload 327 dX9_worked_325 rfl rfl ?_
      refine Ex_imul 328 dX9_worked_327 rfl ?_
      refine Ex_sI 329 0 (J (m + 19)) (va_up J (m + 19) (va_up (J (m + 19)) 0 ((J (m + 19) 0) * v))) dX9_worked_328 (xMs_19 hm) rfl (by omega) (by decide) rfl rfl rfl ?_
      have e : hmTermV (hmK J m) 0 v = (J (m + 19) 0 * v) := if_neg c2
      rw [← e]
      exact ihv 0 _ _ (hmFw.up hF (by omega)) (by rw [hmK_eq (va_up_ne _ _ (by omega)) (va_up_ne _ _ (by omega)) (va_up_ne _ _ (by omega)) (va_up_ne _ _ (by omega)) (va_up_ne _ _ (by omega)) (va_up_ne _ _ (by omega)) (va_up_self _ _ _) (va_up_ne _ _ (by omega)) (va_up_ne _ _ (by omega))]; exact rfl)
    · refine Ex_iload 316 dX9_worked_314 rfl rfl ?_
      refine Ex_goto 328 dX9_worked_316 (by decide) ?_
      refine Ex_sI 329 0 (J (m + 19)) (va_up J (m + 19) (va_up (J (m + 19)) 0 v)) dX9_worked_328 (xMs_19 hm) rfl (by omega) (by decide) rfl rfl rfl ?_
      have e : hmTermV (hmK J m) 0 v = v := if_pos c2
      rw [← e]
      exact ihv 0 _ _ (hmFw.up hF (by omega)) (by rw [hmK_eq (va_up_ne _ _ (by omega)) (va_up_ne _ _ (by omega)) (va_up_ne _ _ (by omega)) (va_up_ne _ _ (by omega)) (va_up_ne _ _ (by omega)) (va_up_ne _ _ (by omega)) (va_up_self _ _ _) (va_up_ne _ _ (by omega)) (va_up_ne _ _ (by omega))]; exact rfl)
  | succ dd ih =>
    intro v J h7 hF ihv
    refine Ex_iload_n 269 (i := 2) dX9_worked_268 rfl rfl rfl ?_
    refine Ex_if_le 272 300 dX9_worked_269 (by decide) rfl (fun c1 => absurd c1 (nI_nle (by omega) (by omega))) (fun c1 => ?_)
    refine Ex_aload_n 273 (i := 0) dX9_worked_272 rfl rfl rfl ?_
    refine Ex_getR 276 dX9_worked_273 fX9_72 (xMs_0 hm) rfl (xMr_31 hm) rfl ?_
    refine Ex_iload_n 277 (i := 2) dX9_worked_276 rfl rfl rfl ?_
    refine Ex_aI 278 (dd + 1) (J (m + 21) (dd + 1)) dX9_worked_277 (xMs_21 hm) rfl (by omega) (by decide) rfl rfl ?_
    refine Ex_iconst 279 (v := 1) dX9_worked_278 (by decide) rfl ?_
    refine Ex_icmp_ne 282 300 dX9_worked_279 (by decide) rfl (fun c2 => ?_) (fun c2 => ?_)
    · refine Ex_aload_n 301 (i := 0) dX9_worked_300 rfl rfl rfl ?_
      refine Ex_getR 304 dX9_worked_301 fX9_66 (xMs_0 hm) rfl (xMr_29 hm) rfl ?_
      refine Ex_iload_n 305 (i := 2) dX9_worked_304 rfl rfl rfl ?_
      refine Ex_aload_n 306 (i := 0) dX9_worked_305 rfl rfl rfl ?_
      refine Ex_getR 309 dX9_worked_306 fX9_69 (xMs_0 hm) rfl (xMr_30 hm) rfl ?_
      refine Ex_iload_n 310 (i := 2) dX9_worked_309 rfl rfl rfl ?_
      refine Ex_aI 311 (dd + 1) (J (m + 20) (dd + 1)) dX9_worked_310 (xMs_20 hm) rfl (by omega) (by decide) rfl rfl ?_
      refine Ex_if_ne 314 319 dX9_worked_311 (by decide) rfl (fun c3 => ?_) (fun c3 => ?_)
      · refine Ex_aload_n 320 (i := 0) dX9_worked_319 rfl rfl rfl ?_
        refine Ex_getR 323 dX9_worked_320 fX9_66 (xMs_0 hm) rfl (xMr_29 hm) rfl ?_
        refine Ex_iload_n 324 (i := 2) dX9_worked_323 rfl rfl rfl ?_
        refine Ex_aI 325 (dd + 1) (J (m + 19) (dd + 1)) dX9_worked_324 (xMs_19 hm) rfl (by omega) (by decide) rfl rfl ?_
        refine Ex_iload 327 dX9_worked_325 rfl rfl ?_
        refine Ex_imul 328 dX9_worked_327 rfl ?_
        refine Ex_sI 329 (dd + 1) (J (m + 19)) (va_up J (m + 19) (va_up (J (m + 19)) (dd + 1) ((J (m + 19) (dd + 1)) * v))) dX9_worked_328 (xMs_19 hm) rfl (by omega) (by decide) rfl rfl rfl ?_
        have e : hmTermV (hmK J m) (dd + 1) v = (J (m + 19) (dd + 1) * v) := if_neg c3
        rw [← e]
        exact ihv (dd + 1) _ _ (hmFw.up hF (by omega)) (by rw [hmK_eq (va_up_ne _ _ (by omega)) (va_up_ne _ _ (by omega)) (va_up_ne _ _ (by omega)) (va_up_ne _ _ (by omega)) (va_up_ne _ _ (by omega)) (va_up_ne _ _ (by omega)) (va_up_self _ _ _) (va_up_ne _ _ (by omega)) (va_up_ne _ _ (by omega))]; exact (if_neg c2).symm)
      · refine Ex_iload 316 dX9_worked_314 rfl rfl ?_
        refine Ex_goto 328 dX9_worked_316 (by decide) ?_
        refine Ex_sI 329 (dd + 1) (J (m + 19)) (va_up J (m + 19) (va_up (J (m + 19)) (dd + 1) v)) dX9_worked_328 (xMs_19 hm) rfl (by omega) (by decide) rfl rfl rfl ?_
        have e : hmTermV (hmK J m) (dd + 1) v = v := if_pos c3
        rw [← e]
        exact ihv (dd + 1) _ _ (hmFw.up hF (by omega)) (by rw [hmK_eq (va_up_ne _ _ (by omega)) (va_up_ne _ _ (by omega)) (va_up_ne _ _ (by omega)) (va_up_ne _ _ (by omega)) (va_up_ne _ _ (by omega)) (va_up_ne _ _ (by omega)) (va_up_self _ _ _) (va_up_ne _ _ (by omega)) (va_up_ne _ _ (by omega))]; exact (if_neg c2).symm)
    · refine Ex_iload 284 dX9_worked_282 rfl rfl ?_
      refine Ex_if_ne 287 291 dX9_worked_284 (by decide) rfl (fun c4 => ?_) (fun c4 => ?_)
      · refine Ex_iconst 292 (v := 0) dX9_worked_291 (by decide) rfl ?_
        refine Ex_istore 294 (ls' := [some (.ref m), some (.int 0), some (.int (nI (dd + 1))), some (.int (nI i)), some (.int c), some (.int 0)]) dX9_worked_292 (Nat.le_of_ble_eq_true rfl) rfl rfl rfl ?_
        refine Ex_iinc 297 (v := (nI dd)) (ls' := [some (.ref m), some (.int 0), some (.int (nI dd)), some (.int (nI i)), some (.int c), some (.int 0)]) dX9_worked_294 rfl (pk_m1 dd) (Nat.le_of_ble_eq_true rfl) rfl rfl rfl ?_
        refine Ex_goto 268 dX9_worked_297 (by decide) ?_
        refine ih _ J (by omega) hF (fun d' J' v' hF' he' => ihv d' J' v' hF' ?_)
        rw [he']
        have e1 : hmVal (hmK J m) (dd + 1) v = hmVal (hmK J m) dd (if v = 0 then 1 else 0) := if_pos c2
        rw [e1, if_neg c4]
      · refine Ex_iconst 288 (v := 1) dX9_worked_287 (by decide) rfl ?_
        refine Ex_goto 292 dX9_worked_288 (by decide) ?_
        refine Ex_istore 294 (ls' := [some (.ref m), some (.int 0), some (.int (nI (dd + 1))), some (.int (nI i)), some (.int c), some (.int 1)]) dX9_worked_292 (Nat.le_of_ble_eq_true rfl) rfl rfl rfl ?_
        refine Ex_iinc 297 (v := (nI dd)) (ls' := [some (.ref m), some (.int 0), some (.int (nI dd)), some (.int (nI i)), some (.int c), some (.int 1)]) dX9_worked_294 rfl (pk_m1 dd) (Nat.le_of_ble_eq_true rfl) rfl rfl rfl ?_
        refine Ex_goto 268 dX9_worked_297 (by decide) ?_
        refine ih _ J (by omega) hF (fun d' J' v' hF' he' => ihv d' J' v' hF' ?_)
        rw [he']
        have e1 : hmVal (hmK J m) (dd + 1) v = hmVal (hmK J m) dd (if v = 0 then 1 else 0) := if_pos c2
        rw [e1, if_pos c4]
set_option maxHeartbeats 4000000 in
theorem mw_t28 {d : Nat} {sh : xSh} {R : xR} {L : xL} {I : xI} {Q : xQ} {m dd i : Nat} {h mm o t : Int32} {J : xI} (hm : xModel sh R m) (hF : hmFw m I J) (hd5 : dd ≤ 5)  (ih : ∀ (d' : Nat) (J' : xI) (c' v' : Option Value), hmFw m I J' → (d', hmK J' m) = hmWstep h mm o t (dd, hmK J m) 28 → Ex (d + 2) 0 0 MX9_worked 0 sh R L J' 329 [some (.ref m), some (.int 0), some (.int (nI d')), some (.int (nI i)), c', v'] [] Q) : Ex (d + 2) 0 0 MX9_worked 0 sh R L J 32 [some (.ref m), some (.int 0), some (.int (nI dd)), some (.int (nI i)), some (.int 28), none] [] Q := by
  refine Ex_iload 34 dX9_worked_32 rfl rfl ?_
  refine Ex_bipush 36 (v := 28) dX9_worked_34 (by decide) rfl ?_
  refine Ex_icmp_eq 39 46 dX9_worked_36 (by decide) rfl (fun c1 => ?_) (fun c1 => absurd c1 (fun q => q (by decide)))
  refine Ex_iinc 49 (v := (nI (dd + 1))) (ls' := [some (.ref m), some (.int 0), some (.int (nI (dd + 1))), some (.int (nI i)), some (.int 28), none]) dX9_worked_46 rfl (xinc _) (Nat.le_of_ble_eq_true rfl) rfl rfl rfl ?_
  refine Ex_aload_n 50 (i := 0) dX9_worked_49 rfl rfl rfl ?_
  refine Ex_getR 53 dX9_worked_50 fX9_72 (xMs_0 hm) rfl (xMr_31 hm) rfl ?_
  refine Ex_iload_n 54 (i := 2) dX9_worked_53 rfl rfl rfl ?_
  refine Ex_iload 56 dX9_worked_54 rfl rfl ?_
  refine Ex_bipush 58 (v := 30) dX9_worked_56 (by decide) rfl ?_
  refine Ex_icmp_ne 61 65 dX9_worked_58 (by decide) rfl (fun c2 => ?_) (fun c2 => absurd c2 (by decide))
  refine Ex_iconst 66 (v := 0) dX9_worked_65 (by decide) rfl ?_
  refine Ex_sI 67 (dd + 1) (J (m + 21)) (va_up J (m + 21) (va_up (J (m + 21)) (dd + 1) 0)) dX9_worked_66 (xMs_21 hm) rfl (by omega) (by decide) rfl rfl rfl ?_
  refine Ex_aload_n 68 (i := 0) dX9_worked_67 rfl rfl rfl ?_
  refine Ex_iload_n 69 (i := 2) dX9_worked_68 rfl rfl rfl ?_
  refine Ex_callV (M' := MX9_opens) 72 [.int (nI (dd + 1))] (rest := []) dX9_worked_69 lX9_210 mX9_opens rfl (xMs_0 hm) rfl (Nat.le_of_ble_eq_true rfl) (Nat.le_of_ble_eq_true rfl) rfl ?_
  refine mc_opens hm (show dd + 1 < 7 by omega) (fun I1 hF1 hK1 => ?_)
  simp only [Option.toList, List.nil_append]
  refine Ex_goto 329 dX9_worked_72 (by decide) ?_
  refine ih (dd + 1) I1 _ _ ((hF.up (by omega)).tr hF1) ?_
  rw [hK1, hmK_eq (va_up_ne _ _ (by omega)) (va_up_ne _ _ (by omega)) (va_up_ne _ _ (by omega)) (va_up_ne _ _ (by omega)) (va_up_ne _ _ (by omega)) (va_up_ne _ _ (by omega)) (va_up_ne _ _ (by omega)) (va_up_ne _ _ (by omega)) (va_up_self _ _ _)]
  rfl
set_option maxHeartbeats 4000000 in
theorem mw_t30 {d : Nat} {sh : xSh} {R : xR} {L : xL} {I : xI} {Q : xQ} {m dd i : Nat} {h mm o t : Int32} {J : xI} (hm : xModel sh R m) (hF : hmFw m I J) (hd5 : dd ≤ 5)  (ih : ∀ (d' : Nat) (J' : xI) (c' v' : Option Value), hmFw m I J' → (d', hmK J' m) = hmWstep h mm o t (dd, hmK J m) 30 → Ex (d + 2) 0 0 MX9_worked 0 sh R L J' 329 [some (.ref m), some (.int 0), some (.int (nI d')), some (.int (nI i)), c', v'] [] Q) : Ex (d + 2) 0 0 MX9_worked 0 sh R L J 32 [some (.ref m), some (.int 0), some (.int (nI dd)), some (.int (nI i)), some (.int 30), none] [] Q := by
  refine Ex_iload 34 dX9_worked_32 rfl rfl ?_
  refine Ex_bipush 36 (v := 28) dX9_worked_34 (by decide) rfl ?_
  refine Ex_icmp_eq 39 46 dX9_worked_36 (by decide) rfl (fun c1 => absurd c1 (by decide)) (fun c1 => ?_)
  refine Ex_iload 41 dX9_worked_39 rfl rfl ?_
  refine Ex_bipush 43 (v := 30) dX9_worked_41 (by decide) rfl ?_
  refine Ex_icmp_ne 46 75 dX9_worked_43 (by decide) rfl (fun c2 => absurd c2 (fun q => q (by decide))) (fun c2 => ?_)
  refine Ex_iinc 49 (v := (nI (dd + 1))) (ls' := [some (.ref m), some (.int 0), some (.int (nI (dd + 1))), some (.int (nI i)), some (.int 30), none]) dX9_worked_46 rfl (xinc _) (Nat.le_of_ble_eq_true rfl) rfl rfl rfl ?_
  refine Ex_aload_n 50 (i := 0) dX9_worked_49 rfl rfl rfl ?_
  refine Ex_getR 53 dX9_worked_50 fX9_72 (xMs_0 hm) rfl (xMr_31 hm) rfl ?_
  refine Ex_iload_n 54 (i := 2) dX9_worked_53 rfl rfl rfl ?_
  refine Ex_iload 56 dX9_worked_54 rfl rfl ?_
  refine Ex_bipush 58 (v := 30) dX9_worked_56 (by decide) rfl ?_
  refine Ex_icmp_ne 61 65 dX9_worked_58 (by decide) rfl (fun c3 => absurd c3 (fun q => q (by decide))) (fun c3 => ?_)
  refine Ex_iconst 62 (v := 1) dX9_worked_61 (by decide) rfl ?_
  refine Ex_goto 66 dX9_worked_62 (by decide) ?_
  refine Ex_sI 67 (dd + 1) (J (m + 21)) (va_up J (m + 21) (va_up (J (m + 21)) (dd + 1) 1)) dX9_worked_66 (xMs_21 hm) rfl (by omega) (by decide) rfl rfl rfl ?_
  refine Ex_aload_n 68 (i := 0) dX9_worked_67 rfl rfl rfl ?_
  refine Ex_iload_n 69 (i := 2) dX9_worked_68 rfl rfl rfl ?_
  refine Ex_callV (M' := MX9_opens) 72 [.int (nI (dd + 1))] (rest := []) dX9_worked_69 lX9_210 mX9_opens rfl (xMs_0 hm) rfl (Nat.le_of_ble_eq_true rfl) (Nat.le_of_ble_eq_true rfl) rfl ?_
  refine mc_opens hm (show dd + 1 < 7 by omega) (fun I1 hF1 hK1 => ?_)
  simp only [Option.toList, List.nil_append]
  refine Ex_goto 329 dX9_worked_72 (by decide) ?_
  refine ih (dd + 1) I1 _ _ ((hF.up (by omega)).tr hF1) ?_
  rw [hK1, hmK_eq (va_up_ne _ _ (by omega)) (va_up_ne _ _ (by omega)) (va_up_ne _ _ (by omega)) (va_up_ne _ _ (by omega)) (va_up_ne _ _ (by omega)) (va_up_ne _ _ (by omega)) (va_up_ne _ _ (by omega)) (va_up_ne _ _ (by omega)) (va_up_self _ _ _)]
  rfl
set_option maxHeartbeats 4000000 in
theorem mw_t20 {d : Nat} {sh : xSh} {R : xR} {L : xL} {I : xI} {Q : xQ} {m dd i : Nat} {h mm o t : Int32} {J : xI} (hm : xModel sh R m) (hF : hmFw m I J) (hd5 : dd ≤ 5)  (ih : ∀ (d' : Nat) (J' : xI) (c' v' : Option Value), hmFw m I J' → (d', hmK J' m) = hmWstep h mm o t (dd, hmK J m) 20 → Ex (d + 2) 0 0 MX9_worked 0 sh R L J' 329 [some (.ref m), some (.int 0), some (.int (nI d')), some (.int (nI i)), c', v'] [] Q) : Ex (d + 2) 0 0 MX9_worked 0 sh R L J 32 [some (.ref m), some (.int 0), some (.int (nI dd)), some (.int (nI i)), some (.int 20), none] [] Q := by
  refine Ex_iload 34 dX9_worked_32 rfl rfl ?_
  refine Ex_bipush 36 (v := 28) dX9_worked_34 (by decide) rfl ?_
  refine Ex_icmp_eq 39 46 dX9_worked_36 (by decide) rfl (fun c1 => absurd c1 (by decide)) (fun c1 => ?_)
  refine Ex_iload 41 dX9_worked_39 rfl rfl ?_
  refine Ex_bipush 43 (v := 30) dX9_worked_41 (by decide) rfl ?_
  refine Ex_icmp_ne 46 75 dX9_worked_43 (by decide) rfl (fun c2 => ?_) (fun c2 => absurd c2 (by decide))
  refine Ex_iload 77 dX9_worked_75 rfl rfl ?_
  refine Ex_bipush 79 (v := 20) dX9_worked_77 (by decide) rfl ?_
  refine Ex_icmp_eq 82 89 dX9_worked_79 (by decide) rfl (fun c3 => ?_) (fun c3 => absurd c3 (fun q => q (by decide)))
  refine Ex_aload_n 90 (i := 0) dX9_worked_89 rfl rfl rfl ?_
  refine Ex_iload_n 91 (i := 2) dX9_worked_90 rfl rfl rfl ?_
  refine Ex_callV (M' := MX9_sums) 94 [.int (nI dd)] (rest := []) dX9_worked_91 lX9_207 mX9_sums rfl (xMs_0 hm) rfl (Nat.le_of_ble_eq_true rfl) (Nat.le_of_ble_eq_true rfl) rfl ?_
  refine mc_sums hm (show dd < 7 by omega) (fun I1 hF1 hK1 => ?_)
  simp only [Option.toList, List.nil_append]
  refine Ex_aload_n 95 (i := 0) dX9_worked_94 rfl rfl rfl ?_
  refine Ex_getR 98 dX9_worked_95 fX9_63 (xMs_0 hm) rfl (xMr_28 hm) rfl ?_
  refine Ex_iload_n 99 (i := 2) dX9_worked_98 rfl rfl rfl ?_
  refine Ex_iload 101 dX9_worked_99 rfl rfl ?_
  refine Ex_sI 102 dd (I1 (m + 18)) (va_up I1 (m + 18) (va_up (I1 (m + 18)) dd 20)) dX9_worked_101 (xMs_18 hm) rfl (by omega) (by decide) rfl rfl rfl ?_
  refine Ex_goto 329 dX9_worked_102 (by decide) ?_
  refine ih dd _ _ _ ((hF.tr hF1).up (by omega)) ?_
  have e1 : hmK I1 m = hmSums (hmK J m) dd := hK1
  have e2 : hmWstep h mm o t (dd, hmK J m) 20 = (dd, (hmKept (hmK I1 m), hmKeptBy (hmK I1 m), hmAhead (hmK I1 m), hmAgst (hmK I1 m), hmSum (hmK I1 m), va_up (hmSumBy (hmK I1 m)) dd 20, hmTerm (hmK I1 m), hmTermBy (hmK I1 m), hmByNot (hmK I1 m))) := by rw [e1]; rfl
  rw [e2, hmK_eq (va_up_ne _ _ (by omega)) (va_up_ne _ _ (by omega)) (va_up_ne _ _ (by omega)) (va_up_ne _ _ (by omega)) (va_up_ne _ _ (by omega)) (va_up_self _ _ _) (va_up_ne _ _ (by omega)) (va_up_ne _ _ (by omega)) (va_up_ne _ _ (by omega))]
  rfl
set_option maxHeartbeats 4000000 in
theorem mw_t21 {d : Nat} {sh : xSh} {R : xR} {L : xL} {I : xI} {Q : xQ} {m dd i : Nat} {h mm o t : Int32} {J : xI} (hm : xModel sh R m) (hF : hmFw m I J) (hd5 : dd ≤ 5)  (ih : ∀ (d' : Nat) (J' : xI) (c' v' : Option Value), hmFw m I J' → (d', hmK J' m) = hmWstep h mm o t (dd, hmK J m) 21 → Ex (d + 2) 0 0 MX9_worked 0 sh R L J' 329 [some (.ref m), some (.int 0), some (.int (nI d')), some (.int (nI i)), c', v'] [] Q) : Ex (d + 2) 0 0 MX9_worked 0 sh R L J 32 [some (.ref m), some (.int 0), some (.int (nI dd)), some (.int (nI i)), some (.int 21), none] [] Q := by
  refine Ex_iload 34 dX9_worked_32 rfl rfl ?_
  refine Ex_bipush 36 (v := 28) dX9_worked_34 (by decide) rfl ?_
  refine Ex_icmp_eq 39 46 dX9_worked_36 (by decide) rfl (fun c1 => absurd c1 (by decide)) (fun c1 => ?_)
  refine Ex_iload 41 dX9_worked_39 rfl rfl ?_
  refine Ex_bipush 43 (v := 30) dX9_worked_41 (by decide) rfl ?_
  refine Ex_icmp_ne 46 75 dX9_worked_43 (by decide) rfl (fun c2 => ?_) (fun c2 => absurd c2 (by decide))
  refine Ex_iload 77 dX9_worked_75 rfl rfl ?_
  refine Ex_bipush 79 (v := 20) dX9_worked_77 (by decide) rfl ?_
  refine Ex_icmp_eq 82 89 dX9_worked_79 (by decide) rfl (fun c3 => absurd c3 (by decide)) (fun c3 => ?_)
  refine Ex_iload 84 dX9_worked_82 rfl rfl ?_
  refine Ex_bipush 86 (v := 21) dX9_worked_84 (by decide) rfl ?_
  refine Ex_icmp_ne 89 105 dX9_worked_86 (by decide) rfl (fun c4 => absurd c4 (fun q => q (by decide))) (fun c4 => ?_)
  refine Ex_aload_n 90 (i := 0) dX9_worked_89 rfl rfl rfl ?_
  refine Ex_iload_n 91 (i := 2) dX9_worked_90 rfl rfl rfl ?_
  refine Ex_callV (M' := MX9_sums) 94 [.int (nI dd)] (rest := []) dX9_worked_91 lX9_207 mX9_sums rfl (xMs_0 hm) rfl (Nat.le_of_ble_eq_true rfl) (Nat.le_of_ble_eq_true rfl) rfl ?_
  refine mc_sums hm (show dd < 7 by omega) (fun I1 hF1 hK1 => ?_)
  simp only [Option.toList, List.nil_append]
  refine Ex_aload_n 95 (i := 0) dX9_worked_94 rfl rfl rfl ?_
  refine Ex_getR 98 dX9_worked_95 fX9_63 (xMs_0 hm) rfl (xMr_28 hm) rfl ?_
  refine Ex_iload_n 99 (i := 2) dX9_worked_98 rfl rfl rfl ?_
  refine Ex_iload 101 dX9_worked_99 rfl rfl ?_
  refine Ex_sI 102 dd (I1 (m + 18)) (va_up I1 (m + 18) (va_up (I1 (m + 18)) dd 21)) dX9_worked_101 (xMs_18 hm) rfl (by omega) (by decide) rfl rfl rfl ?_
  refine Ex_goto 329 dX9_worked_102 (by decide) ?_
  refine ih dd _ _ _ ((hF.tr hF1).up (by omega)) ?_
  have e1 : hmK I1 m = hmSums (hmK J m) dd := hK1
  have e2 : hmWstep h mm o t (dd, hmK J m) 21 = (dd, (hmKept (hmK I1 m), hmKeptBy (hmK I1 m), hmAhead (hmK I1 m), hmAgst (hmK I1 m), hmSum (hmK I1 m), va_up (hmSumBy (hmK I1 m)) dd 21, hmTerm (hmK I1 m), hmTermBy (hmK I1 m), hmByNot (hmK I1 m))) := by rw [e1]; rfl
  rw [e2, hmK_eq (va_up_ne _ _ (by omega)) (va_up_ne _ _ (by omega)) (va_up_ne _ _ (by omega)) (va_up_ne _ _ (by omega)) (va_up_ne _ _ (by omega)) (va_up_self _ _ _) (va_up_ne _ _ (by omega)) (va_up_ne _ _ (by omega)) (va_up_ne _ _ (by omega))]
  rfl
set_option maxHeartbeats 4000000 in
theorem mw_t22 {d : Nat} {sh : xSh} {R : xR} {L : xL} {I : xI} {Q : xQ} {m dd i : Nat} {h mm o t : Int32} {J : xI} (hm : xModel sh R m) (hF : hmFw m I J) (hd5 : dd ≤ 5)  (ih : ∀ (d' : Nat) (J' : xI) (c' v' : Option Value), hmFw m I J' → (d', hmK J' m) = hmWstep h mm o t (dd, hmK J m) 22 → Ex (d + 2) 0 0 MX9_worked 0 sh R L J' 329 [some (.ref m), some (.int 0), some (.int (nI d')), some (.int (nI i)), c', v'] [] Q) : Ex (d + 2) 0 0 MX9_worked 0 sh R L J 32 [some (.ref m), some (.int 0), some (.int (nI dd)), some (.int (nI i)), some (.int 22), none] [] Q := by
  refine Ex_iload 34 dX9_worked_32 rfl rfl ?_
  refine Ex_bipush 36 (v := 28) dX9_worked_34 (by decide) rfl ?_
  refine Ex_icmp_eq 39 46 dX9_worked_36 (by decide) rfl (fun c1 => absurd c1 (by decide)) (fun c1 => ?_)
  refine Ex_iload 41 dX9_worked_39 rfl rfl ?_
  refine Ex_bipush 43 (v := 30) dX9_worked_41 (by decide) rfl ?_
  refine Ex_icmp_ne 46 75 dX9_worked_43 (by decide) rfl (fun c2 => ?_) (fun c2 => absurd c2 (by decide))
  refine Ex_iload 77 dX9_worked_75 rfl rfl ?_
  refine Ex_bipush 79 (v := 20) dX9_worked_77 (by decide) rfl ?_
  refine Ex_icmp_eq 82 89 dX9_worked_79 (by decide) rfl (fun c3 => absurd c3 (by decide)) (fun c3 => ?_)
  refine Ex_iload 84 dX9_worked_82 rfl rfl ?_
  refine Ex_bipush 86 (v := 21) dX9_worked_84 (by decide) rfl ?_
  refine Ex_icmp_ne 89 105 dX9_worked_86 (by decide) rfl (fun c4 => ?_) (fun c4 => absurd c4 (by decide))
  refine Ex_iload 107 dX9_worked_105 rfl rfl ?_
  refine Ex_bipush 109 (v := 22) dX9_worked_107 (by decide) rfl ?_
  refine Ex_icmp_ne 112 123 dX9_worked_109 (by decide) rfl (fun c5 => absurd c5 (fun q => q (by decide))) (fun c5 => ?_)
  refine Ex_aload_n 113 (i := 0) dX9_worked_112 rfl rfl rfl ?_
  refine Ex_getR 116 dX9_worked_113 fX9_69 (xMs_0 hm) rfl (xMr_30 hm) rfl ?_
  refine Ex_iload_n 117 (i := 2) dX9_worked_116 rfl rfl rfl ?_
  refine Ex_iload 119 dX9_worked_117 rfl rfl ?_
  refine Ex_sI 120 dd (J (m + 20)) (va_up J (m + 20) (va_up (J (m + 20)) dd 22)) dX9_worked_119 (xMs_20 hm) rfl (by omega) (by decide) rfl rfl rfl ?_
  refine Ex_goto 329 dX9_worked_120 (by decide) ?_
  refine ih dd _ _ _ (hF.up (by omega)) ?_
  rw [hmK_eq (va_up_ne _ _ (by omega)) (va_up_ne _ _ (by omega)) (va_up_ne _ _ (by omega)) (va_up_ne _ _ (by omega)) (va_up_ne _ _ (by omega)) (va_up_ne _ _ (by omega)) (va_up_ne _ _ (by omega)) (va_up_self _ _ _) (va_up_ne _ _ (by omega))]
  rfl
set_option maxHeartbeats 4000000 in
theorem mw_t24 {d : Nat} {sh : xSh} {R : xR} {L : xL} {I : xI} {Q : xQ} {m dd i : Nat} {h mm o t : Int32} {J : xI} (hm : xModel sh R m) (hF : hmFw m I J) (hd5 : dd ≤ 5)  (ih : ∀ (d' : Nat) (J' : xI) (c' v' : Option Value), hmFw m I J' → (d', hmK J' m) = hmWstep h mm o t (dd, hmK J m) 24 → Ex (d + 2) 0 0 MX9_worked 0 sh R L J' 329 [some (.ref m), some (.int 0), some (.int (nI d')), some (.int (nI i)), c', v'] [] Q) : Ex (d + 2) 0 0 MX9_worked 0 sh R L J 32 [some (.ref m), some (.int 0), some (.int (nI dd)), some (.int (nI i)), some (.int 24), none] [] Q := by
  refine Ex_iload 34 dX9_worked_32 rfl rfl ?_
  refine Ex_bipush 36 (v := 28) dX9_worked_34 (by decide) rfl ?_
  refine Ex_icmp_eq 39 46 dX9_worked_36 (by decide) rfl (fun c1 => absurd c1 (by decide)) (fun c1 => ?_)
  refine Ex_iload 41 dX9_worked_39 rfl rfl ?_
  refine Ex_bipush 43 (v := 30) dX9_worked_41 (by decide) rfl ?_
  refine Ex_icmp_ne 46 75 dX9_worked_43 (by decide) rfl (fun c2 => ?_) (fun c2 => absurd c2 (by decide))
  refine Ex_iload 77 dX9_worked_75 rfl rfl ?_
  refine Ex_bipush 79 (v := 20) dX9_worked_77 (by decide) rfl ?_
  refine Ex_icmp_eq 82 89 dX9_worked_79 (by decide) rfl (fun c3 => absurd c3 (by decide)) (fun c3 => ?_)
  refine Ex_iload 84 dX9_worked_82 rfl rfl ?_
  refine Ex_bipush 86 (v := 21) dX9_worked_84 (by decide) rfl ?_
  refine Ex_icmp_ne 89 105 dX9_worked_86 (by decide) rfl (fun c4 => ?_) (fun c4 => absurd c4 (by decide))
  refine Ex_iload 107 dX9_worked_105 rfl rfl ?_
  refine Ex_bipush 109 (v := 22) dX9_worked_107 (by decide) rfl ?_
  refine Ex_icmp_ne 112 123 dX9_worked_109 (by decide) rfl (fun c5 => ?_) (fun c5 => absurd c5 (by decide))
  refine Ex_iload 125 dX9_worked_123 rfl rfl ?_
  refine Ex_bipush 127 (v := 24) dX9_worked_125 (by decide) rfl ?_
  refine Ex_icmp_eq 130 137 dX9_worked_127 (by decide) rfl (fun c6 => ?_) (fun c6 => absurd c6 (fun q => q (by decide)))
  refine Ex_aload_n 138 (i := 0) dX9_worked_137 rfl rfl rfl ?_
  refine Ex_iload_n 139 (i := 2) dX9_worked_138 rfl rfl rfl ?_
  refine Ex_callV (M' := MX9_sums) 142 [.int (nI dd)] (rest := []) dX9_worked_139 lX9_207 mX9_sums rfl (xMs_0 hm) rfl (Nat.le_of_ble_eq_true rfl) (Nat.le_of_ble_eq_true rfl) rfl ?_
  refine mc_sums hm (show dd < 7 by omega) (fun I1 hF1 hK1 => ?_)
  simp only [Option.toList, List.nil_append]
  refine Ex_aload_n 143 (i := 0) dX9_worked_142 rfl rfl rfl ?_
  refine Ex_getR 146 dX9_worked_143 fX9_54 (xMs_0 hm) rfl (xMr_25 hm) rfl ?_
  refine Ex_iload_n 147 (i := 2) dX9_worked_146 rfl rfl rfl ?_
  refine Ex_aload_n 148 (i := 0) dX9_worked_147 rfl rfl rfl ?_
  refine Ex_getR 151 dX9_worked_148 fX9_60 (xMs_0 hm) rfl (xMr_27 hm) rfl ?_
  refine Ex_iload_n 152 (i := 2) dX9_worked_151 rfl rfl rfl ?_
  refine Ex_aI 153 dd (I1 (m + 17) dd) dX9_worked_152 (xMs_17 hm) rfl (by omega) (by decide) rfl rfl ?_
  refine Ex_sI 154 dd (I1 (m + 15)) (va_up I1 (m + 15) (va_up (I1 (m + 15)) dd (I1 (m + 17) dd))) dX9_worked_153 (xMs_15 hm) rfl (by omega) (by decide) rfl rfl rfl ?_
  refine Ex_aload_n 155 (i := 0) dX9_worked_154 rfl rfl rfl ?_
  refine Ex_getR 158 dX9_worked_155 fX9_57 (xMs_0 hm) rfl (xMr_26 hm) rfl ?_
  refine Ex_iload_n 159 (i := 2) dX9_worked_158 rfl rfl rfl ?_
  refine Ex_iload 161 dX9_worked_159 rfl rfl ?_
  refine Ex_sI 162 dd (I1 (m + 16)) (va_up (va_up I1 (m + 15) (va_up (I1 (m + 15)) dd (I1 (m + 17) dd))) (m + 16) (va_up (I1 (m + 16)) dd 24)) dX9_worked_161 (xMs_16 hm) rfl (by omega) (by decide) (va_up_ne _ _ (by omega)) rfl rfl ?_
  refine Ex_aload_n 163 (i := 0) dX9_worked_162 rfl rfl rfl ?_
  refine Ex_getR 166 dX9_worked_163 fX9_60 (xMs_0 hm) rfl (xMr_27 hm) rfl ?_
  refine Ex_iload_n 167 (i := 2) dX9_worked_166 rfl rfl rfl ?_
  refine Ex_iconst 168 (v := 0) dX9_worked_167 (by decide) rfl ?_
  refine Ex_sI 169 dd (I1 (m + 17)) (va_up (va_up (va_up I1 (m + 15) (va_up (I1 (m + 15)) dd (I1 (m + 17) dd))) (m + 16) (va_up (I1 (m + 16)) dd 24)) (m + 17) (va_up (I1 (m + 17)) dd 0)) dX9_worked_168 (xMs_17 hm) rfl (by omega) (by decide) ((va_up_ne _ _ (by omega)).trans (va_up_ne _ _ (by omega))) rfl rfl ?_
  refine Ex_aload_n 170 (i := 0) dX9_worked_169 rfl rfl rfl ?_
  refine Ex_getR 173 dX9_worked_170 fX9_63 (xMs_0 hm) rfl (xMr_28 hm) rfl ?_
  refine Ex_iload_n 174 (i := 2) dX9_worked_173 rfl rfl rfl ?_
  refine Ex_bipush 176 (v := 20) dX9_worked_174 (by decide) rfl ?_
  refine Ex_sI 177 dd (I1 (m + 18)) (va_up (va_up (va_up (va_up I1 (m + 15) (va_up (I1 (m + 15)) dd (I1 (m + 17) dd))) (m + 16) (va_up (I1 (m + 16)) dd 24)) (m + 17) (va_up (I1 (m + 17)) dd 0)) (m + 18) (va_up (I1 (m + 18)) dd 20)) dX9_worked_176 (xMs_18 hm) rfl (by omega) (by decide) ((va_up_ne _ _ (by omega)).trans ((va_up_ne _ _ (by omega)).trans (va_up_ne _ _ (by omega)))) rfl rfl ?_
  refine Ex_goto 329 dX9_worked_177 (by decide) ?_
  refine ih dd _ _ _ (((((hF.tr hF1).up (by omega)).up (by omega)).up (by omega)).up (by omega)) ?_
  have e1 : hmK I1 m = hmSums (hmK J m) dd := hK1
  have e2 : hmWstep h mm o t (dd, hmK J m) 24 = (dd, (hmKept (hmK I1 m), hmKeptBy (hmK I1 m), va_up (hmAhead (hmK I1 m)) dd (hmSum (hmK I1 m) dd), va_up (hmAgst (hmK I1 m)) dd 24, va_up (hmSum (hmK I1 m)) dd 0, va_up (hmSumBy (hmK I1 m)) dd 20, hmTerm (hmK I1 m), hmTermBy (hmK I1 m), hmByNot (hmK I1 m))) := by rw [e1]; rfl
  rw [e2, hmK_eq ((va_up_ne _ _ (by omega)).trans ((va_up_ne _ _ (by omega)).trans ((va_up_ne _ _ (by omega)).trans (va_up_ne _ _ (by omega))))) ((va_up_ne _ _ (by omega)).trans ((va_up_ne _ _ (by omega)).trans ((va_up_ne _ _ (by omega)).trans (va_up_ne _ _ (by omega))))) ((va_up_ne _ _ (by omega)).trans ((va_up_ne _ _ (by omega)).trans ((va_up_ne _ _ (by omega)).trans (va_up_self _ _ _)))) ((va_up_ne _ _ (by omega)).trans ((va_up_ne _ _ (by omega)).trans (va_up_self _ _ _))) ((va_up_ne _ _ (by omega)).trans (va_up_self _ _ _)) (va_up_self _ _ _) ((va_up_ne _ _ (by omega)).trans ((va_up_ne _ _ (by omega)).trans ((va_up_ne _ _ (by omega)).trans (va_up_ne _ _ (by omega))))) ((va_up_ne _ _ (by omega)).trans ((va_up_ne _ _ (by omega)).trans ((va_up_ne _ _ (by omega)).trans (va_up_ne _ _ (by omega))))) ((va_up_ne _ _ (by omega)).trans ((va_up_ne _ _ (by omega)).trans ((va_up_ne _ _ (by omega)).trans (va_up_ne _ _ (by omega)))))]
  rfl
set_option maxHeartbeats 4000000 in
theorem mw_t25 {d : Nat} {sh : xSh} {R : xR} {L : xL} {I : xI} {Q : xQ} {m dd i : Nat} {h mm o t : Int32} {J : xI} (hm : xModel sh R m) (hF : hmFw m I J) (hd5 : dd ≤ 5)  (ih : ∀ (d' : Nat) (J' : xI) (c' v' : Option Value), hmFw m I J' → (d', hmK J' m) = hmWstep h mm o t (dd, hmK J m) 25 → Ex (d + 2) 0 0 MX9_worked 0 sh R L J' 329 [some (.ref m), some (.int 0), some (.int (nI d')), some (.int (nI i)), c', v'] [] Q) : Ex (d + 2) 0 0 MX9_worked 0 sh R L J 32 [some (.ref m), some (.int 0), some (.int (nI dd)), some (.int (nI i)), some (.int 25), none] [] Q := by
  refine Ex_iload 34 dX9_worked_32 rfl rfl ?_
  refine Ex_bipush 36 (v := 28) dX9_worked_34 (by decide) rfl ?_
  refine Ex_icmp_eq 39 46 dX9_worked_36 (by decide) rfl (fun c1 => absurd c1 (by decide)) (fun c1 => ?_)
  refine Ex_iload 41 dX9_worked_39 rfl rfl ?_
  refine Ex_bipush 43 (v := 30) dX9_worked_41 (by decide) rfl ?_
  refine Ex_icmp_ne 46 75 dX9_worked_43 (by decide) rfl (fun c2 => ?_) (fun c2 => absurd c2 (by decide))
  refine Ex_iload 77 dX9_worked_75 rfl rfl ?_
  refine Ex_bipush 79 (v := 20) dX9_worked_77 (by decide) rfl ?_
  refine Ex_icmp_eq 82 89 dX9_worked_79 (by decide) rfl (fun c3 => absurd c3 (by decide)) (fun c3 => ?_)
  refine Ex_iload 84 dX9_worked_82 rfl rfl ?_
  refine Ex_bipush 86 (v := 21) dX9_worked_84 (by decide) rfl ?_
  refine Ex_icmp_ne 89 105 dX9_worked_86 (by decide) rfl (fun c4 => ?_) (fun c4 => absurd c4 (by decide))
  refine Ex_iload 107 dX9_worked_105 rfl rfl ?_
  refine Ex_bipush 109 (v := 22) dX9_worked_107 (by decide) rfl ?_
  refine Ex_icmp_ne 112 123 dX9_worked_109 (by decide) rfl (fun c5 => ?_) (fun c5 => absurd c5 (by decide))
  refine Ex_iload 125 dX9_worked_123 rfl rfl ?_
  refine Ex_bipush 127 (v := 24) dX9_worked_125 (by decide) rfl ?_
  refine Ex_icmp_eq 130 137 dX9_worked_127 (by decide) rfl (fun c6 => absurd c6 (by decide)) (fun c6 => ?_)
  refine Ex_iload 132 dX9_worked_130 rfl rfl ?_
  refine Ex_bipush 134 (v := 25) dX9_worked_132 (by decide) rfl ?_
  refine Ex_icmp_ne 137 180 dX9_worked_134 (by decide) rfl (fun c7 => absurd c7 (fun q => q (by decide))) (fun c7 => ?_)
  refine Ex_aload_n 138 (i := 0) dX9_worked_137 rfl rfl rfl ?_
  refine Ex_iload_n 139 (i := 2) dX9_worked_138 rfl rfl rfl ?_
  refine Ex_callV (M' := MX9_sums) 142 [.int (nI dd)] (rest := []) dX9_worked_139 lX9_207 mX9_sums rfl (xMs_0 hm) rfl (Nat.le_of_ble_eq_true rfl) (Nat.le_of_ble_eq_true rfl) rfl ?_
  refine mc_sums hm (show dd < 7 by omega) (fun I1 hF1 hK1 => ?_)
  simp only [Option.toList, List.nil_append]
  refine Ex_aload_n 143 (i := 0) dX9_worked_142 rfl rfl rfl ?_
  refine Ex_getR 146 dX9_worked_143 fX9_54 (xMs_0 hm) rfl (xMr_25 hm) rfl ?_
  refine Ex_iload_n 147 (i := 2) dX9_worked_146 rfl rfl rfl ?_
  refine Ex_aload_n 148 (i := 0) dX9_worked_147 rfl rfl rfl ?_
  refine Ex_getR 151 dX9_worked_148 fX9_60 (xMs_0 hm) rfl (xMr_27 hm) rfl ?_
  refine Ex_iload_n 152 (i := 2) dX9_worked_151 rfl rfl rfl ?_
  refine Ex_aI 153 dd (I1 (m + 17) dd) dX9_worked_152 (xMs_17 hm) rfl (by omega) (by decide) rfl rfl ?_
  refine Ex_sI 154 dd (I1 (m + 15)) (va_up I1 (m + 15) (va_up (I1 (m + 15)) dd (I1 (m + 17) dd))) dX9_worked_153 (xMs_15 hm) rfl (by omega) (by decide) rfl rfl rfl ?_
  refine Ex_aload_n 155 (i := 0) dX9_worked_154 rfl rfl rfl ?_
  refine Ex_getR 158 dX9_worked_155 fX9_57 (xMs_0 hm) rfl (xMr_26 hm) rfl ?_
  refine Ex_iload_n 159 (i := 2) dX9_worked_158 rfl rfl rfl ?_
  refine Ex_iload 161 dX9_worked_159 rfl rfl ?_
  refine Ex_sI 162 dd (I1 (m + 16)) (va_up (va_up I1 (m + 15) (va_up (I1 (m + 15)) dd (I1 (m + 17) dd))) (m + 16) (va_up (I1 (m + 16)) dd 25)) dX9_worked_161 (xMs_16 hm) rfl (by omega) (by decide) (va_up_ne _ _ (by omega)) rfl rfl ?_
  refine Ex_aload_n 163 (i := 0) dX9_worked_162 rfl rfl rfl ?_
  refine Ex_getR 166 dX9_worked_163 fX9_60 (xMs_0 hm) rfl (xMr_27 hm) rfl ?_
  refine Ex_iload_n 167 (i := 2) dX9_worked_166 rfl rfl rfl ?_
  refine Ex_iconst 168 (v := 0) dX9_worked_167 (by decide) rfl ?_
  refine Ex_sI 169 dd (I1 (m + 17)) (va_up (va_up (va_up I1 (m + 15) (va_up (I1 (m + 15)) dd (I1 (m + 17) dd))) (m + 16) (va_up (I1 (m + 16)) dd 25)) (m + 17) (va_up (I1 (m + 17)) dd 0)) dX9_worked_168 (xMs_17 hm) rfl (by omega) (by decide) ((va_up_ne _ _ (by omega)).trans (va_up_ne _ _ (by omega))) rfl rfl ?_
  refine Ex_aload_n 170 (i := 0) dX9_worked_169 rfl rfl rfl ?_
  refine Ex_getR 173 dX9_worked_170 fX9_63 (xMs_0 hm) rfl (xMr_28 hm) rfl ?_
  refine Ex_iload_n 174 (i := 2) dX9_worked_173 rfl rfl rfl ?_
  refine Ex_bipush 176 (v := 20) dX9_worked_174 (by decide) rfl ?_
  refine Ex_sI 177 dd (I1 (m + 18)) (va_up (va_up (va_up (va_up I1 (m + 15) (va_up (I1 (m + 15)) dd (I1 (m + 17) dd))) (m + 16) (va_up (I1 (m + 16)) dd 25)) (m + 17) (va_up (I1 (m + 17)) dd 0)) (m + 18) (va_up (I1 (m + 18)) dd 20)) dX9_worked_176 (xMs_18 hm) rfl (by omega) (by decide) ((va_up_ne _ _ (by omega)).trans ((va_up_ne _ _ (by omega)).trans (va_up_ne _ _ (by omega)))) rfl rfl ?_
  refine Ex_goto 329 dX9_worked_177 (by decide) ?_
  refine ih dd _ _ _ (((((hF.tr hF1).up (by omega)).up (by omega)).up (by omega)).up (by omega)) ?_
  have e1 : hmK I1 m = hmSums (hmK J m) dd := hK1
  have e2 : hmWstep h mm o t (dd, hmK J m) 25 = (dd, (hmKept (hmK I1 m), hmKeptBy (hmK I1 m), va_up (hmAhead (hmK I1 m)) dd (hmSum (hmK I1 m) dd), va_up (hmAgst (hmK I1 m)) dd 25, va_up (hmSum (hmK I1 m)) dd 0, va_up (hmSumBy (hmK I1 m)) dd 20, hmTerm (hmK I1 m), hmTermBy (hmK I1 m), hmByNot (hmK I1 m))) := by rw [e1]; rfl
  rw [e2, hmK_eq ((va_up_ne _ _ (by omega)).trans ((va_up_ne _ _ (by omega)).trans ((va_up_ne _ _ (by omega)).trans (va_up_ne _ _ (by omega))))) ((va_up_ne _ _ (by omega)).trans ((va_up_ne _ _ (by omega)).trans ((va_up_ne _ _ (by omega)).trans (va_up_ne _ _ (by omega))))) ((va_up_ne _ _ (by omega)).trans ((va_up_ne _ _ (by omega)).trans ((va_up_ne _ _ (by omega)).trans (va_up_self _ _ _)))) ((va_up_ne _ _ (by omega)).trans ((va_up_ne _ _ (by omega)).trans (va_up_self _ _ _))) ((va_up_ne _ _ (by omega)).trans (va_up_self _ _ _)) (va_up_self _ _ _) ((va_up_ne _ _ (by omega)).trans ((va_up_ne _ _ (by omega)).trans ((va_up_ne _ _ (by omega)).trans (va_up_ne _ _ (by omega))))) ((va_up_ne _ _ (by omega)).trans ((va_up_ne _ _ (by omega)).trans ((va_up_ne _ _ (by omega)).trans (va_up_ne _ _ (by omega))))) ((va_up_ne _ _ (by omega)).trans ((va_up_ne _ _ (by omega)).trans ((va_up_ne _ _ (by omega)).trans (va_up_ne _ _ (by omega)))))]
  rfl
set_option maxHeartbeats 4000000 in
theorem mw_t26 {d : Nat} {sh : xSh} {R : xR} {L : xL} {I : xI} {Q : xQ} {m dd i : Nat} {h mm o t : Int32} {J : xI} (hm : xModel sh R m) (hF : hmFw m I J) (hd5 : dd ≤ 5)  (ih : ∀ (d' : Nat) (J' : xI) (c' v' : Option Value), hmFw m I J' → (d', hmK J' m) = hmWstep h mm o t (dd, hmK J m) 26 → Ex (d + 2) 0 0 MX9_worked 0 sh R L J' 329 [some (.ref m), some (.int 0), some (.int (nI d')), some (.int (nI i)), c', v'] [] Q) : Ex (d + 2) 0 0 MX9_worked 0 sh R L J 32 [some (.ref m), some (.int 0), some (.int (nI dd)), some (.int (nI i)), some (.int 26), none] [] Q := by
  refine Ex_iload 34 dX9_worked_32 rfl rfl ?_
  refine Ex_bipush 36 (v := 28) dX9_worked_34 (by decide) rfl ?_
  refine Ex_icmp_eq 39 46 dX9_worked_36 (by decide) rfl (fun c1 => absurd c1 (by decide)) (fun c1 => ?_)
  refine Ex_iload 41 dX9_worked_39 rfl rfl ?_
  refine Ex_bipush 43 (v := 30) dX9_worked_41 (by decide) rfl ?_
  refine Ex_icmp_ne 46 75 dX9_worked_43 (by decide) rfl (fun c2 => ?_) (fun c2 => absurd c2 (by decide))
  refine Ex_iload 77 dX9_worked_75 rfl rfl ?_
  refine Ex_bipush 79 (v := 20) dX9_worked_77 (by decide) rfl ?_
  refine Ex_icmp_eq 82 89 dX9_worked_79 (by decide) rfl (fun c3 => absurd c3 (by decide)) (fun c3 => ?_)
  refine Ex_iload 84 dX9_worked_82 rfl rfl ?_
  refine Ex_bipush 86 (v := 21) dX9_worked_84 (by decide) rfl ?_
  refine Ex_icmp_ne 89 105 dX9_worked_86 (by decide) rfl (fun c4 => ?_) (fun c4 => absurd c4 (by decide))
  refine Ex_iload 107 dX9_worked_105 rfl rfl ?_
  refine Ex_bipush 109 (v := 22) dX9_worked_107 (by decide) rfl ?_
  refine Ex_icmp_ne 112 123 dX9_worked_109 (by decide) rfl (fun c5 => ?_) (fun c5 => absurd c5 (by decide))
  refine Ex_iload 125 dX9_worked_123 rfl rfl ?_
  refine Ex_bipush 127 (v := 24) dX9_worked_125 (by decide) rfl ?_
  refine Ex_icmp_eq 130 137 dX9_worked_127 (by decide) rfl (fun c6 => absurd c6 (by decide)) (fun c6 => ?_)
  refine Ex_iload 132 dX9_worked_130 rfl rfl ?_
  refine Ex_bipush 134 (v := 25) dX9_worked_132 (by decide) rfl ?_
  refine Ex_icmp_ne 137 180 dX9_worked_134 (by decide) rfl (fun c7 => ?_) (fun c7 => absurd c7 (by decide))
  refine Ex_iload 182 dX9_worked_180 rfl rfl ?_
  refine Ex_bipush 184 (v := 26) dX9_worked_182 (by decide) rfl ?_
  refine Ex_icmp_eq 187 194 dX9_worked_184 (by decide) rfl (fun c8 => ?_) (fun c8 => absurd c8 (fun q => q (by decide)))
  refine Ex_aload_n 195 (i := 0) dX9_worked_194 rfl rfl rfl ?_
  refine Ex_iload_n 196 (i := 2) dX9_worked_195 rfl rfl rfl ?_
  refine Ex_callV (M' := MX9_tests) 199 [.int (nI dd)] (rest := []) dX9_worked_196 lX9_213 mX9_tests rfl (xMs_0 hm) rfl (Nat.le_of_ble_eq_true rfl) (Nat.le_of_ble_eq_true rfl) rfl ?_
  refine mc_tests hm (show dd < 7 by omega) (fun I1 hF1 hK1 => ?_)
  simp only [Option.toList, List.nil_append]
  refine Ex_aload_n 200 (i := 0) dX9_worked_199 rfl rfl rfl ?_
  refine Ex_getR 203 dX9_worked_200 fX9_51 (xMs_0 hm) rfl (xMr_24 hm) rfl ?_
  refine Ex_iload_n 204 (i := 2) dX9_worked_203 rfl rfl rfl ?_
  refine Ex_iload 206 dX9_worked_204 rfl rfl ?_
  refine Ex_sI 207 dd (I1 (m + 14)) (va_up I1 (m + 14) (va_up (I1 (m + 14)) dd 26)) dX9_worked_206 (xMs_14 hm) rfl (by omega) (by decide) rfl rfl rfl ?_
  refine Ex_goto 329 dX9_worked_207 (by decide) ?_
  refine ih dd _ _ _ ((hF.tr hF1).up (by omega)) ?_
  have e1 : hmK I1 m = hmTests (hmK J m) dd := hK1
  have e2 : hmWstep h mm o t (dd, hmK J m) 26 = (dd, (hmKept (hmK I1 m), va_up (hmKeptBy (hmK I1 m)) dd 26, hmAhead (hmK I1 m), hmAgst (hmK I1 m), hmSum (hmK I1 m), hmSumBy (hmK I1 m), hmTerm (hmK I1 m), hmTermBy (hmK I1 m), hmByNot (hmK I1 m))) := by rw [e1]; rfl
  rw [e2, hmK_eq (va_up_ne _ _ (by omega)) (va_up_self _ _ _) (va_up_ne _ _ (by omega)) (va_up_ne _ _ (by omega)) (va_up_ne _ _ (by omega)) (va_up_ne _ _ (by omega)) (va_up_ne _ _ (by omega)) (va_up_ne _ _ (by omega)) (va_up_ne _ _ (by omega))]
  rfl
set_option maxHeartbeats 4000000 in
theorem mw_t27 {d : Nat} {sh : xSh} {R : xR} {L : xL} {I : xI} {Q : xQ} {m dd i : Nat} {h mm o t : Int32} {J : xI} (hm : xModel sh R m) (hF : hmFw m I J) (hd5 : dd ≤ 5)  (ih : ∀ (d' : Nat) (J' : xI) (c' v' : Option Value), hmFw m I J' → (d', hmK J' m) = hmWstep h mm o t (dd, hmK J m) 27 → Ex (d + 2) 0 0 MX9_worked 0 sh R L J' 329 [some (.ref m), some (.int 0), some (.int (nI d')), some (.int (nI i)), c', v'] [] Q) : Ex (d + 2) 0 0 MX9_worked 0 sh R L J 32 [some (.ref m), some (.int 0), some (.int (nI dd)), some (.int (nI i)), some (.int 27), none] [] Q := by
  refine Ex_iload 34 dX9_worked_32 rfl rfl ?_
  refine Ex_bipush 36 (v := 28) dX9_worked_34 (by decide) rfl ?_
  refine Ex_icmp_eq 39 46 dX9_worked_36 (by decide) rfl (fun c1 => absurd c1 (by decide)) (fun c1 => ?_)
  refine Ex_iload 41 dX9_worked_39 rfl rfl ?_
  refine Ex_bipush 43 (v := 30) dX9_worked_41 (by decide) rfl ?_
  refine Ex_icmp_ne 46 75 dX9_worked_43 (by decide) rfl (fun c2 => ?_) (fun c2 => absurd c2 (by decide))
  refine Ex_iload 77 dX9_worked_75 rfl rfl ?_
  refine Ex_bipush 79 (v := 20) dX9_worked_77 (by decide) rfl ?_
  refine Ex_icmp_eq 82 89 dX9_worked_79 (by decide) rfl (fun c3 => absurd c3 (by decide)) (fun c3 => ?_)
  refine Ex_iload 84 dX9_worked_82 rfl rfl ?_
  refine Ex_bipush 86 (v := 21) dX9_worked_84 (by decide) rfl ?_
  refine Ex_icmp_ne 89 105 dX9_worked_86 (by decide) rfl (fun c4 => ?_) (fun c4 => absurd c4 (by decide))
  refine Ex_iload 107 dX9_worked_105 rfl rfl ?_
  refine Ex_bipush 109 (v := 22) dX9_worked_107 (by decide) rfl ?_
  refine Ex_icmp_ne 112 123 dX9_worked_109 (by decide) rfl (fun c5 => ?_) (fun c5 => absurd c5 (by decide))
  refine Ex_iload 125 dX9_worked_123 rfl rfl ?_
  refine Ex_bipush 127 (v := 24) dX9_worked_125 (by decide) rfl ?_
  refine Ex_icmp_eq 130 137 dX9_worked_127 (by decide) rfl (fun c6 => absurd c6 (by decide)) (fun c6 => ?_)
  refine Ex_iload 132 dX9_worked_130 rfl rfl ?_
  refine Ex_bipush 134 (v := 25) dX9_worked_132 (by decide) rfl ?_
  refine Ex_icmp_ne 137 180 dX9_worked_134 (by decide) rfl (fun c7 => ?_) (fun c7 => absurd c7 (by decide))
  refine Ex_iload 182 dX9_worked_180 rfl rfl ?_
  refine Ex_bipush 184 (v := 26) dX9_worked_182 (by decide) rfl ?_
  refine Ex_icmp_eq 187 194 dX9_worked_184 (by decide) rfl (fun c8 => absurd c8 (by decide)) (fun c8 => ?_)
  refine Ex_iload 189 dX9_worked_187 rfl rfl ?_
  refine Ex_bipush 191 (v := 27) dX9_worked_189 (by decide) rfl ?_
  refine Ex_icmp_ne 194 210 dX9_worked_191 (by decide) rfl (fun c9 => absurd c9 (fun q => q (by decide))) (fun c9 => ?_)
  refine Ex_aload_n 195 (i := 0) dX9_worked_194 rfl rfl rfl ?_
  refine Ex_iload_n 196 (i := 2) dX9_worked_195 rfl rfl rfl ?_
  refine Ex_callV (M' := MX9_tests) 199 [.int (nI dd)] (rest := []) dX9_worked_196 lX9_213 mX9_tests rfl (xMs_0 hm) rfl (Nat.le_of_ble_eq_true rfl) (Nat.le_of_ble_eq_true rfl) rfl ?_
  refine mc_tests hm (show dd < 7 by omega) (fun I1 hF1 hK1 => ?_)
  simp only [Option.toList, List.nil_append]
  refine Ex_aload_n 200 (i := 0) dX9_worked_199 rfl rfl rfl ?_
  refine Ex_getR 203 dX9_worked_200 fX9_51 (xMs_0 hm) rfl (xMr_24 hm) rfl ?_
  refine Ex_iload_n 204 (i := 2) dX9_worked_203 rfl rfl rfl ?_
  refine Ex_iload 206 dX9_worked_204 rfl rfl ?_
  refine Ex_sI 207 dd (I1 (m + 14)) (va_up I1 (m + 14) (va_up (I1 (m + 14)) dd 27)) dX9_worked_206 (xMs_14 hm) rfl (by omega) (by decide) rfl rfl rfl ?_
  refine Ex_goto 329 dX9_worked_207 (by decide) ?_
  refine ih dd _ _ _ ((hF.tr hF1).up (by omega)) ?_
  have e1 : hmK I1 m = hmTests (hmK J m) dd := hK1
  have e2 : hmWstep h mm o t (dd, hmK J m) 27 = (dd, (hmKept (hmK I1 m), va_up (hmKeptBy (hmK I1 m)) dd 27, hmAhead (hmK I1 m), hmAgst (hmK I1 m), hmSum (hmK I1 m), hmSumBy (hmK I1 m), hmTerm (hmK I1 m), hmTermBy (hmK I1 m), hmByNot (hmK I1 m))) := by rw [e1]; rfl
  rw [e2, hmK_eq (va_up_ne _ _ (by omega)) (va_up_self _ _ _) (va_up_ne _ _ (by omega)) (va_up_ne _ _ (by omega)) (va_up_ne _ _ (by omega)) (va_up_ne _ _ (by omega)) (va_up_ne _ _ (by omega)) (va_up_ne _ _ (by omega)) (va_up_ne _ _ (by omega))]
  rfl
set_option maxHeartbeats 4000000 in
theorem mw_t29 {d : Nat} {sh : xSh} {R : xR} {L : xL} {I : xI} {Q : xQ} {m dd i : Nat} {h mm o t : Int32} {J : xI} (hm : xModel sh R m) (hF : hmFw m I J) (hd5 : dd ≤ 5) (hd1 : 1 ≤ dd) (ih : ∀ (d' : Nat) (J' : xI) (c' v' : Option Value), hmFw m I J' → (d', hmK J' m) = hmWstep h mm o t (dd, hmK J m) 29 → Ex (d + 2) 0 0 MX9_worked 0 sh R L J' 329 [some (.ref m), some (.int 0), some (.int (nI d')), some (.int (nI i)), c', v'] [] Q) : Ex (d + 2) 0 0 MX9_worked 0 sh R L J 32 [some (.ref m), some (.int 0), some (.int (nI dd)), some (.int (nI i)), some (.int 29), none] [] Q := by
  refine Ex_iload 34 dX9_worked_32 rfl rfl ?_
  refine Ex_bipush 36 (v := 28) dX9_worked_34 (by decide) rfl ?_
  refine Ex_icmp_eq 39 46 dX9_worked_36 (by decide) rfl (fun c1 => absurd c1 (by decide)) (fun c1 => ?_)
  refine Ex_iload 41 dX9_worked_39 rfl rfl ?_
  refine Ex_bipush 43 (v := 30) dX9_worked_41 (by decide) rfl ?_
  refine Ex_icmp_ne 46 75 dX9_worked_43 (by decide) rfl (fun c2 => ?_) (fun c2 => absurd c2 (by decide))
  refine Ex_iload 77 dX9_worked_75 rfl rfl ?_
  refine Ex_bipush 79 (v := 20) dX9_worked_77 (by decide) rfl ?_
  refine Ex_icmp_eq 82 89 dX9_worked_79 (by decide) rfl (fun c3 => absurd c3 (by decide)) (fun c3 => ?_)
  refine Ex_iload 84 dX9_worked_82 rfl rfl ?_
  refine Ex_bipush 86 (v := 21) dX9_worked_84 (by decide) rfl ?_
  refine Ex_icmp_ne 89 105 dX9_worked_86 (by decide) rfl (fun c4 => ?_) (fun c4 => absurd c4 (by decide))
  refine Ex_iload 107 dX9_worked_105 rfl rfl ?_
  refine Ex_bipush 109 (v := 22) dX9_worked_107 (by decide) rfl ?_
  refine Ex_icmp_ne 112 123 dX9_worked_109 (by decide) rfl (fun c5 => ?_) (fun c5 => absurd c5 (by decide))
  refine Ex_iload 125 dX9_worked_123 rfl rfl ?_
  refine Ex_bipush 127 (v := 24) dX9_worked_125 (by decide) rfl ?_
  refine Ex_icmp_eq 130 137 dX9_worked_127 (by decide) rfl (fun c6 => absurd c6 (by decide)) (fun c6 => ?_)
  refine Ex_iload 132 dX9_worked_130 rfl rfl ?_
  refine Ex_bipush 134 (v := 25) dX9_worked_132 (by decide) rfl ?_
  refine Ex_icmp_ne 137 180 dX9_worked_134 (by decide) rfl (fun c7 => ?_) (fun c7 => absurd c7 (by decide))
  refine Ex_iload 182 dX9_worked_180 rfl rfl ?_
  refine Ex_bipush 184 (v := 26) dX9_worked_182 (by decide) rfl ?_
  refine Ex_icmp_eq 187 194 dX9_worked_184 (by decide) rfl (fun c8 => absurd c8 (by decide)) (fun c8 => ?_)
  refine Ex_iload 189 dX9_worked_187 rfl rfl ?_
  refine Ex_bipush 191 (v := 27) dX9_worked_189 (by decide) rfl ?_
  refine Ex_icmp_ne 194 210 dX9_worked_191 (by decide) rfl (fun c9 => ?_) (fun c9 => absurd c9 (by decide))
  refine Ex_iload 212 dX9_worked_210 rfl rfl ?_
  refine Ex_bipush 214 (v := 100) dX9_worked_212 (by decide) rfl ?_
  refine Ex_icmp_lt 217 225 dX9_worked_214 (by decide) rfl (fun c10 => ?_) (fun c10 => absurd c10 (fun q => q (by decide)))
  refine Ex_iload 227 dX9_worked_225 rfl rfl ?_
  refine Ex_bipush 229 (v := 20) dX9_worked_227 (by decide) rfl ?_
  refine Ex_icmp_ge 232 242 dX9_worked_229 (by decide) rfl (fun c11 => ?_) (fun c11 => absurd c11 (fun q => q (by decide)))
  refine Ex_iconst 243 (v := 0) dX9_worked_242 (by decide) rfl ?_
  refine Ex_istore 245 (ls' := [some (.ref m), some (.int 0), some (.int (nI dd)), some (.int (nI i)), some (.int 29), some (.int 0)]) dX9_worked_243 (Nat.le_of_ble_eq_true rfl) rfl rfl rfl ?_
  refine Ex_iload 247 dX9_worked_245 rfl rfl ?_
  refine Ex_bipush 249 (v := 29) dX9_worked_247 (by decide) rfl ?_
  refine Ex_icmp_ne 252 268 dX9_worked_249 (by decide) rfl (fun c12 => absurd c12 (fun q => q (by decide))) (fun c12 => ?_)
  refine Ex_aload_n 253 (i := 0) dX9_worked_252 rfl rfl rfl ?_
  refine Ex_iload_n 254 (i := 2) dX9_worked_253 rfl rfl rfl ?_
  refine Ex_callV (M' := MX9_tests) 257 [.int (nI dd)] (rest := []) dX9_worked_254 lX9_213 mX9_tests rfl (xMs_0 hm) rfl (Nat.le_of_ble_eq_true rfl) (Nat.le_of_ble_eq_true rfl) rfl ?_
  refine mc_tests hm (show dd < 7 by omega) (fun I1 hF1 hK1 => ?_)
  simp only [Option.toList, List.nil_append]
  refine Ex_aload_n 258 (i := 0) dX9_worked_257 rfl rfl rfl ?_
  refine Ex_getR 261 dX9_worked_258 fX9_48 (xMs_0 hm) rfl (xMr_23 hm) rfl ?_
  refine Ex_iload_n 262 (i := 2) dX9_worked_261 rfl rfl rfl ?_
  refine Ex_aI 263 dd (I1 (m + 13) dd) dX9_worked_262 (xMs_13 hm) rfl (by omega) (by decide) rfl rfl ?_
  refine Ex_istore 265 (ls' := [some (.ref m), some (.int 0), some (.int (nI dd)), some (.int (nI i)), some (.int 29), some (.int (I1 (m + 13) dd))]) dX9_worked_263 (Nat.le_of_ble_eq_true rfl) rfl rfl rfl ?_
  refine Ex_iinc 268 (v := (nI (dd - 1))) (ls' := [some (.ref m), some (.int 0), some (.int (nI (dd - 1))), some (.int (nI i)), some (.int 29), some (.int (I1 (m + 13) dd))]) dX9_worked_265 rfl (hm_dec hd1) (Nat.le_of_ble_eq_true rfl) rfl rfl rfl ?_
  refine mw_val hm (dd - 1) _ I1 (by omega) (hF.tr hF1) (fun d' J' v' hF' he' => ih d' J' _ _ hF' ?_)
  rw [he']
  have e1 : hmK I1 m = hmTests (hmK J m) dd := hK1
  have e2 : I1 (m + 13) dd = hmKept (hmTests (hmK J m) dd) dd := congrArg (fun k => hmKept k dd) e1
  rw [e2, e1]
  rfl
set_option maxHeartbeats 4000000 in
theorem mw_t1 {d : Nat} {sh : xSh} {R : xR} {L : xL} {I : xI} {Q : xQ} {m dd i : Nat} {h mm o t : Int32} {J : xI} (hm : xModel sh R m) (hF : hmFw m I J) (hd5 : dd ≤ 5) (hv : J (m + 22) 1 = h) (ih : ∀ (d' : Nat) (J' : xI) (c' v' : Option Value), hmFw m I J' → (d', hmK J' m) = hmWstep h mm o t (dd, hmK J m) 1 → Ex (d + 2) 0 0 MX9_worked 0 sh R L J' 329 [some (.ref m), some (.int 0), some (.int (nI d')), some (.int (nI i)), c', v'] [] Q) : Ex (d + 2) 0 0 MX9_worked 0 sh R L J 32 [some (.ref m), some (.int 0), some (.int (nI dd)), some (.int (nI i)), some (.int 1), none] [] Q := by
  refine Ex_iload 34 dX9_worked_32 rfl rfl ?_
  refine Ex_bipush 36 (v := 28) dX9_worked_34 (by decide) rfl ?_
  refine Ex_icmp_eq 39 46 dX9_worked_36 (by decide) rfl (fun c1 => absurd c1 (by decide)) (fun c1 => ?_)
  refine Ex_iload 41 dX9_worked_39 rfl rfl ?_
  refine Ex_bipush 43 (v := 30) dX9_worked_41 (by decide) rfl ?_
  refine Ex_icmp_ne 46 75 dX9_worked_43 (by decide) rfl (fun c2 => ?_) (fun c2 => absurd c2 (by decide))
  refine Ex_iload 77 dX9_worked_75 rfl rfl ?_
  refine Ex_bipush 79 (v := 20) dX9_worked_77 (by decide) rfl ?_
  refine Ex_icmp_eq 82 89 dX9_worked_79 (by decide) rfl (fun c3 => absurd c3 (by decide)) (fun c3 => ?_)
  refine Ex_iload 84 dX9_worked_82 rfl rfl ?_
  refine Ex_bipush 86 (v := 21) dX9_worked_84 (by decide) rfl ?_
  refine Ex_icmp_ne 89 105 dX9_worked_86 (by decide) rfl (fun c4 => ?_) (fun c4 => absurd c4 (by decide))
  refine Ex_iload 107 dX9_worked_105 rfl rfl ?_
  refine Ex_bipush 109 (v := 22) dX9_worked_107 (by decide) rfl ?_
  refine Ex_icmp_ne 112 123 dX9_worked_109 (by decide) rfl (fun c5 => ?_) (fun c5 => absurd c5 (by decide))
  refine Ex_iload 125 dX9_worked_123 rfl rfl ?_
  refine Ex_bipush 127 (v := 24) dX9_worked_125 (by decide) rfl ?_
  refine Ex_icmp_eq 130 137 dX9_worked_127 (by decide) rfl (fun c6 => absurd c6 (by decide)) (fun c6 => ?_)
  refine Ex_iload 132 dX9_worked_130 rfl rfl ?_
  refine Ex_bipush 134 (v := 25) dX9_worked_132 (by decide) rfl ?_
  refine Ex_icmp_ne 137 180 dX9_worked_134 (by decide) rfl (fun c7 => ?_) (fun c7 => absurd c7 (by decide))
  refine Ex_iload 182 dX9_worked_180 rfl rfl ?_
  refine Ex_bipush 184 (v := 26) dX9_worked_182 (by decide) rfl ?_
  refine Ex_icmp_eq 187 194 dX9_worked_184 (by decide) rfl (fun c8 => absurd c8 (by decide)) (fun c8 => ?_)
  refine Ex_iload 189 dX9_worked_187 rfl rfl ?_
  refine Ex_bipush 191 (v := 27) dX9_worked_189 (by decide) rfl ?_
  refine Ex_icmp_ne 194 210 dX9_worked_191 (by decide) rfl (fun c9 => ?_) (fun c9 => absurd c9 (by decide))
  refine Ex_iload 212 dX9_worked_210 rfl rfl ?_
  refine Ex_bipush 214 (v := 100) dX9_worked_212 (by decide) rfl ?_
  refine Ex_icmp_lt 217 225 dX9_worked_214 (by decide) rfl (fun c10 => ?_) (fun c10 => absurd c10 (fun q => q (by decide)))
  refine Ex_iload 227 dX9_worked_225 rfl rfl ?_
  refine Ex_bipush 229 (v := 20) dX9_worked_227 (by decide) rfl ?_
  refine Ex_icmp_ge 232 242 dX9_worked_229 (by decide) rfl (fun c11 => absurd c11 (by decide)) (fun c11 => ?_)
  refine Ex_aload_n 233 (i := 0) dX9_worked_232 rfl rfl rfl ?_
  refine Ex_getR 236 dX9_worked_233 fX9_75 (xMs_0 hm) rfl (xMr_32 hm) rfl ?_
  refine Ex_iload 238 dX9_worked_236 rfl rfl ?_
  refine Ex_aI 239 1 (J (m + 22) 1) dX9_worked_238 (xMs_22 hm) rfl (by decide) (by decide) rfl rfl ?_
  refine Ex_goto 243 dX9_worked_239 (by decide) ?_
  refine Ex_istore 245 (ls' := [some (.ref m), some (.int 0), some (.int (nI dd)), some (.int (nI i)), some (.int 1), some (.int (J (m + 22) 1))]) dX9_worked_243 (Nat.le_of_ble_eq_true rfl) rfl rfl rfl ?_
  refine Ex_iload 247 dX9_worked_245 rfl rfl ?_
  refine Ex_bipush 249 (v := 29) dX9_worked_247 (by decide) rfl ?_
  refine Ex_icmp_ne 252 268 dX9_worked_249 (by decide) rfl (fun c12 => ?_) (fun c12 => absurd c12 (by decide))
  rw [hv]
  refine mw_val hm dd _ J (by omega) hF (fun d' J' v' hF' he' => ih d' J' _ _ hF' ?_)
  rw [he']
  rfl
set_option maxHeartbeats 4000000 in
theorem mw_t2 {d : Nat} {sh : xSh} {R : xR} {L : xL} {I : xI} {Q : xQ} {m dd i : Nat} {h mm o t : Int32} {J : xI} (hm : xModel sh R m) (hF : hmFw m I J) (hd5 : dd ≤ 5) (hv : J (m + 22) 2 = mm) (ih : ∀ (d' : Nat) (J' : xI) (c' v' : Option Value), hmFw m I J' → (d', hmK J' m) = hmWstep h mm o t (dd, hmK J m) 2 → Ex (d + 2) 0 0 MX9_worked 0 sh R L J' 329 [some (.ref m), some (.int 0), some (.int (nI d')), some (.int (nI i)), c', v'] [] Q) : Ex (d + 2) 0 0 MX9_worked 0 sh R L J 32 [some (.ref m), some (.int 0), some (.int (nI dd)), some (.int (nI i)), some (.int 2), none] [] Q := by
  refine Ex_iload 34 dX9_worked_32 rfl rfl ?_
  refine Ex_bipush 36 (v := 28) dX9_worked_34 (by decide) rfl ?_
  refine Ex_icmp_eq 39 46 dX9_worked_36 (by decide) rfl (fun c1 => absurd c1 (by decide)) (fun c1 => ?_)
  refine Ex_iload 41 dX9_worked_39 rfl rfl ?_
  refine Ex_bipush 43 (v := 30) dX9_worked_41 (by decide) rfl ?_
  refine Ex_icmp_ne 46 75 dX9_worked_43 (by decide) rfl (fun c2 => ?_) (fun c2 => absurd c2 (by decide))
  refine Ex_iload 77 dX9_worked_75 rfl rfl ?_
  refine Ex_bipush 79 (v := 20) dX9_worked_77 (by decide) rfl ?_
  refine Ex_icmp_eq 82 89 dX9_worked_79 (by decide) rfl (fun c3 => absurd c3 (by decide)) (fun c3 => ?_)
  refine Ex_iload 84 dX9_worked_82 rfl rfl ?_
  refine Ex_bipush 86 (v := 21) dX9_worked_84 (by decide) rfl ?_
  refine Ex_icmp_ne 89 105 dX9_worked_86 (by decide) rfl (fun c4 => ?_) (fun c4 => absurd c4 (by decide))
  refine Ex_iload 107 dX9_worked_105 rfl rfl ?_
  refine Ex_bipush 109 (v := 22) dX9_worked_107 (by decide) rfl ?_
  refine Ex_icmp_ne 112 123 dX9_worked_109 (by decide) rfl (fun c5 => ?_) (fun c5 => absurd c5 (by decide))
  refine Ex_iload 125 dX9_worked_123 rfl rfl ?_
  refine Ex_bipush 127 (v := 24) dX9_worked_125 (by decide) rfl ?_
  refine Ex_icmp_eq 130 137 dX9_worked_127 (by decide) rfl (fun c6 => absurd c6 (by decide)) (fun c6 => ?_)
  refine Ex_iload 132 dX9_worked_130 rfl rfl ?_
  refine Ex_bipush 134 (v := 25) dX9_worked_132 (by decide) rfl ?_
  refine Ex_icmp_ne 137 180 dX9_worked_134 (by decide) rfl (fun c7 => ?_) (fun c7 => absurd c7 (by decide))
  refine Ex_iload 182 dX9_worked_180 rfl rfl ?_
  refine Ex_bipush 184 (v := 26) dX9_worked_182 (by decide) rfl ?_
  refine Ex_icmp_eq 187 194 dX9_worked_184 (by decide) rfl (fun c8 => absurd c8 (by decide)) (fun c8 => ?_)
  refine Ex_iload 189 dX9_worked_187 rfl rfl ?_
  refine Ex_bipush 191 (v := 27) dX9_worked_189 (by decide) rfl ?_
  refine Ex_icmp_ne 194 210 dX9_worked_191 (by decide) rfl (fun c9 => ?_) (fun c9 => absurd c9 (by decide))
  refine Ex_iload 212 dX9_worked_210 rfl rfl ?_
  refine Ex_bipush 214 (v := 100) dX9_worked_212 (by decide) rfl ?_
  refine Ex_icmp_lt 217 225 dX9_worked_214 (by decide) rfl (fun c10 => ?_) (fun c10 => absurd c10 (fun q => q (by decide)))
  refine Ex_iload 227 dX9_worked_225 rfl rfl ?_
  refine Ex_bipush 229 (v := 20) dX9_worked_227 (by decide) rfl ?_
  refine Ex_icmp_ge 232 242 dX9_worked_229 (by decide) rfl (fun c11 => absurd c11 (by decide)) (fun c11 => ?_)
  refine Ex_aload_n 233 (i := 0) dX9_worked_232 rfl rfl rfl ?_
  refine Ex_getR 236 dX9_worked_233 fX9_75 (xMs_0 hm) rfl (xMr_32 hm) rfl ?_
  refine Ex_iload 238 dX9_worked_236 rfl rfl ?_
  refine Ex_aI 239 2 (J (m + 22) 2) dX9_worked_238 (xMs_22 hm) rfl (by decide) (by decide) rfl rfl ?_
  refine Ex_goto 243 dX9_worked_239 (by decide) ?_
  refine Ex_istore 245 (ls' := [some (.ref m), some (.int 0), some (.int (nI dd)), some (.int (nI i)), some (.int 2), some (.int (J (m + 22) 2))]) dX9_worked_243 (Nat.le_of_ble_eq_true rfl) rfl rfl rfl ?_
  refine Ex_iload 247 dX9_worked_245 rfl rfl ?_
  refine Ex_bipush 249 (v := 29) dX9_worked_247 (by decide) rfl ?_
  refine Ex_icmp_ne 252 268 dX9_worked_249 (by decide) rfl (fun c12 => ?_) (fun c12 => absurd c12 (by decide))
  rw [hv]
  refine mw_val hm dd _ J (by omega) hF (fun d' J' v' hF' he' => ih d' J' _ _ hF' ?_)
  rw [he']
  rfl
set_option maxHeartbeats 4000000 in
theorem mw_t3 {d : Nat} {sh : xSh} {R : xR} {L : xL} {I : xI} {Q : xQ} {m dd i : Nat} {h mm o t : Int32} {J : xI} (hm : xModel sh R m) (hF : hmFw m I J) (hd5 : dd ≤ 5) (hv : J (m + 22) 3 = o) (ih : ∀ (d' : Nat) (J' : xI) (c' v' : Option Value), hmFw m I J' → (d', hmK J' m) = hmWstep h mm o t (dd, hmK J m) 3 → Ex (d + 2) 0 0 MX9_worked 0 sh R L J' 329 [some (.ref m), some (.int 0), some (.int (nI d')), some (.int (nI i)), c', v'] [] Q) : Ex (d + 2) 0 0 MX9_worked 0 sh R L J 32 [some (.ref m), some (.int 0), some (.int (nI dd)), some (.int (nI i)), some (.int 3), none] [] Q := by
  refine Ex_iload 34 dX9_worked_32 rfl rfl ?_
  refine Ex_bipush 36 (v := 28) dX9_worked_34 (by decide) rfl ?_
  refine Ex_icmp_eq 39 46 dX9_worked_36 (by decide) rfl (fun c1 => absurd c1 (by decide)) (fun c1 => ?_)
  refine Ex_iload 41 dX9_worked_39 rfl rfl ?_
  refine Ex_bipush 43 (v := 30) dX9_worked_41 (by decide) rfl ?_
  refine Ex_icmp_ne 46 75 dX9_worked_43 (by decide) rfl (fun c2 => ?_) (fun c2 => absurd c2 (by decide))
  refine Ex_iload 77 dX9_worked_75 rfl rfl ?_
  refine Ex_bipush 79 (v := 20) dX9_worked_77 (by decide) rfl ?_
  refine Ex_icmp_eq 82 89 dX9_worked_79 (by decide) rfl (fun c3 => absurd c3 (by decide)) (fun c3 => ?_)
  refine Ex_iload 84 dX9_worked_82 rfl rfl ?_
  refine Ex_bipush 86 (v := 21) dX9_worked_84 (by decide) rfl ?_
  refine Ex_icmp_ne 89 105 dX9_worked_86 (by decide) rfl (fun c4 => ?_) (fun c4 => absurd c4 (by decide))
  refine Ex_iload 107 dX9_worked_105 rfl rfl ?_
  refine Ex_bipush 109 (v := 22) dX9_worked_107 (by decide) rfl ?_
  refine Ex_icmp_ne 112 123 dX9_worked_109 (by decide) rfl (fun c5 => ?_) (fun c5 => absurd c5 (by decide))
  refine Ex_iload 125 dX9_worked_123 rfl rfl ?_
  refine Ex_bipush 127 (v := 24) dX9_worked_125 (by decide) rfl ?_
  refine Ex_icmp_eq 130 137 dX9_worked_127 (by decide) rfl (fun c6 => absurd c6 (by decide)) (fun c6 => ?_)
  refine Ex_iload 132 dX9_worked_130 rfl rfl ?_
  refine Ex_bipush 134 (v := 25) dX9_worked_132 (by decide) rfl ?_
  refine Ex_icmp_ne 137 180 dX9_worked_134 (by decide) rfl (fun c7 => ?_) (fun c7 => absurd c7 (by decide))
  refine Ex_iload 182 dX9_worked_180 rfl rfl ?_
  refine Ex_bipush 184 (v := 26) dX9_worked_182 (by decide) rfl ?_
  refine Ex_icmp_eq 187 194 dX9_worked_184 (by decide) rfl (fun c8 => absurd c8 (by decide)) (fun c8 => ?_)
  refine Ex_iload 189 dX9_worked_187 rfl rfl ?_
  refine Ex_bipush 191 (v := 27) dX9_worked_189 (by decide) rfl ?_
  refine Ex_icmp_ne 194 210 dX9_worked_191 (by decide) rfl (fun c9 => ?_) (fun c9 => absurd c9 (by decide))
  refine Ex_iload 212 dX9_worked_210 rfl rfl ?_
  refine Ex_bipush 214 (v := 100) dX9_worked_212 (by decide) rfl ?_
  refine Ex_icmp_lt 217 225 dX9_worked_214 (by decide) rfl (fun c10 => ?_) (fun c10 => absurd c10 (fun q => q (by decide)))
  refine Ex_iload 227 dX9_worked_225 rfl rfl ?_
  refine Ex_bipush 229 (v := 20) dX9_worked_227 (by decide) rfl ?_
  refine Ex_icmp_ge 232 242 dX9_worked_229 (by decide) rfl (fun c11 => absurd c11 (by decide)) (fun c11 => ?_)
  refine Ex_aload_n 233 (i := 0) dX9_worked_232 rfl rfl rfl ?_
  refine Ex_getR 236 dX9_worked_233 fX9_75 (xMs_0 hm) rfl (xMr_32 hm) rfl ?_
  refine Ex_iload 238 dX9_worked_236 rfl rfl ?_
  refine Ex_aI 239 3 (J (m + 22) 3) dX9_worked_238 (xMs_22 hm) rfl (by decide) (by decide) rfl rfl ?_
  refine Ex_goto 243 dX9_worked_239 (by decide) ?_
  refine Ex_istore 245 (ls' := [some (.ref m), some (.int 0), some (.int (nI dd)), some (.int (nI i)), some (.int 3), some (.int (J (m + 22) 3))]) dX9_worked_243 (Nat.le_of_ble_eq_true rfl) rfl rfl rfl ?_
  refine Ex_iload 247 dX9_worked_245 rfl rfl ?_
  refine Ex_bipush 249 (v := 29) dX9_worked_247 (by decide) rfl ?_
  refine Ex_icmp_ne 252 268 dX9_worked_249 (by decide) rfl (fun c12 => ?_) (fun c12 => absurd c12 (by decide))
  rw [hv]
  refine mw_val hm dd _ J (by omega) hF (fun d' J' v' hF' he' => ih d' J' _ _ hF' ?_)
  rw [he']
  rfl
set_option maxHeartbeats 4000000 in
theorem mw_t4 {d : Nat} {sh : xSh} {R : xR} {L : xL} {I : xI} {Q : xQ} {m dd i : Nat} {h mm o t : Int32} {J : xI} (hm : xModel sh R m) (hF : hmFw m I J) (hd5 : dd ≤ 5) (hv : J (m + 22) 4 = t) (ih : ∀ (d' : Nat) (J' : xI) (c' v' : Option Value), hmFw m I J' → (d', hmK J' m) = hmWstep h mm o t (dd, hmK J m) 4 → Ex (d + 2) 0 0 MX9_worked 0 sh R L J' 329 [some (.ref m), some (.int 0), some (.int (nI d')), some (.int (nI i)), c', v'] [] Q) : Ex (d + 2) 0 0 MX9_worked 0 sh R L J 32 [some (.ref m), some (.int 0), some (.int (nI dd)), some (.int (nI i)), some (.int 4), none] [] Q := by
  refine Ex_iload 34 dX9_worked_32 rfl rfl ?_
  refine Ex_bipush 36 (v := 28) dX9_worked_34 (by decide) rfl ?_
  refine Ex_icmp_eq 39 46 dX9_worked_36 (by decide) rfl (fun c1 => absurd c1 (by decide)) (fun c1 => ?_)
  refine Ex_iload 41 dX9_worked_39 rfl rfl ?_
  refine Ex_bipush 43 (v := 30) dX9_worked_41 (by decide) rfl ?_
  refine Ex_icmp_ne 46 75 dX9_worked_43 (by decide) rfl (fun c2 => ?_) (fun c2 => absurd c2 (by decide))
  refine Ex_iload 77 dX9_worked_75 rfl rfl ?_
  refine Ex_bipush 79 (v := 20) dX9_worked_77 (by decide) rfl ?_
  refine Ex_icmp_eq 82 89 dX9_worked_79 (by decide) rfl (fun c3 => absurd c3 (by decide)) (fun c3 => ?_)
  refine Ex_iload 84 dX9_worked_82 rfl rfl ?_
  refine Ex_bipush 86 (v := 21) dX9_worked_84 (by decide) rfl ?_
  refine Ex_icmp_ne 89 105 dX9_worked_86 (by decide) rfl (fun c4 => ?_) (fun c4 => absurd c4 (by decide))
  refine Ex_iload 107 dX9_worked_105 rfl rfl ?_
  refine Ex_bipush 109 (v := 22) dX9_worked_107 (by decide) rfl ?_
  refine Ex_icmp_ne 112 123 dX9_worked_109 (by decide) rfl (fun c5 => ?_) (fun c5 => absurd c5 (by decide))
  refine Ex_iload 125 dX9_worked_123 rfl rfl ?_
  refine Ex_bipush 127 (v := 24) dX9_worked_125 (by decide) rfl ?_
  refine Ex_icmp_eq 130 137 dX9_worked_127 (by decide) rfl (fun c6 => absurd c6 (by decide)) (fun c6 => ?_)
  refine Ex_iload 132 dX9_worked_130 rfl rfl ?_
  refine Ex_bipush 134 (v := 25) dX9_worked_132 (by decide) rfl ?_
  refine Ex_icmp_ne 137 180 dX9_worked_134 (by decide) rfl (fun c7 => ?_) (fun c7 => absurd c7 (by decide))
  refine Ex_iload 182 dX9_worked_180 rfl rfl ?_
  refine Ex_bipush 184 (v := 26) dX9_worked_182 (by decide) rfl ?_
  refine Ex_icmp_eq 187 194 dX9_worked_184 (by decide) rfl (fun c8 => absurd c8 (by decide)) (fun c8 => ?_)
  refine Ex_iload 189 dX9_worked_187 rfl rfl ?_
  refine Ex_bipush 191 (v := 27) dX9_worked_189 (by decide) rfl ?_
  refine Ex_icmp_ne 194 210 dX9_worked_191 (by decide) rfl (fun c9 => ?_) (fun c9 => absurd c9 (by decide))
  refine Ex_iload 212 dX9_worked_210 rfl rfl ?_
  refine Ex_bipush 214 (v := 100) dX9_worked_212 (by decide) rfl ?_
  refine Ex_icmp_lt 217 225 dX9_worked_214 (by decide) rfl (fun c10 => ?_) (fun c10 => absurd c10 (fun q => q (by decide)))
  refine Ex_iload 227 dX9_worked_225 rfl rfl ?_
  refine Ex_bipush 229 (v := 20) dX9_worked_227 (by decide) rfl ?_
  refine Ex_icmp_ge 232 242 dX9_worked_229 (by decide) rfl (fun c11 => absurd c11 (by decide)) (fun c11 => ?_)
  refine Ex_aload_n 233 (i := 0) dX9_worked_232 rfl rfl rfl ?_
  refine Ex_getR 236 dX9_worked_233 fX9_75 (xMs_0 hm) rfl (xMr_32 hm) rfl ?_
  refine Ex_iload 238 dX9_worked_236 rfl rfl ?_
  refine Ex_aI 239 4 (J (m + 22) 4) dX9_worked_238 (xMs_22 hm) rfl (by decide) (by decide) rfl rfl ?_
  refine Ex_goto 243 dX9_worked_239 (by decide) ?_
  refine Ex_istore 245 (ls' := [some (.ref m), some (.int 0), some (.int (nI dd)), some (.int (nI i)), some (.int 4), some (.int (J (m + 22) 4))]) dX9_worked_243 (Nat.le_of_ble_eq_true rfl) rfl rfl rfl ?_
  refine Ex_iload 247 dX9_worked_245 rfl rfl ?_
  refine Ex_bipush 249 (v := 29) dX9_worked_247 (by decide) rfl ?_
  refine Ex_icmp_ne 252 268 dX9_worked_249 (by decide) rfl (fun c12 => ?_) (fun c12 => absurd c12 (by decide))
  rw [hv]
  refine mw_val hm dd _ J (by omega) hF (fun d' J' v' hF' he' => ih d' J' _ _ hF' ?_)
  rw [he']
  rfl
theorem hm_num_ne {n : Nat} (k : Nat) (hk : k < 100) (hn : n < 10000 := by omega) : ¬ nI (100 + n) = nI k := fun q => by
  have := (nI_eq (by omega) (by omega)).mp q
  omega
theorem hm_num_sub {n : Nat} : nI (100 + n) - 100 = nI n := by
  have h := pk_sub (a := 100 + n) (b := 100) (by omega)
  rw [Nat.add_sub_cancel_left] at h
  exact h
set_option maxHeartbeats 4000000 in
theorem mw_tn {d : Nat} {sh : xSh} {R : xR} {L : xL} {I : xI} {Q : xQ} {n : Nat} (hn : n < 10000) {m dd i : Nat} {h mm o t : Int32} {J : xI} (hm : xModel sh R m) (hF : hmFw m I J) (hd5 : dd ≤ 5) (ih : ∀ (d' : Nat) (J' : xI) (c' v' : Option Value), hmFw m I J' → (d', hmK J' m) = hmWstep h mm o t (dd, hmK J m) (nI (100 + n)) → Ex (d + 2) 0 0 MX9_worked 0 sh R L J' 329 [some (.ref m), some (.int 0), some (.int (nI d')), some (.int (nI i)), c', v'] [] Q) : Ex (d + 2) 0 0 MX9_worked 0 sh R L J 32 [some (.ref m), some (.int 0), some (.int (nI dd)), some (.int (nI i)), some (.int (nI (100 + n))), none] [] Q := by
  refine Ex_iload 34 dX9_worked_32 rfl rfl ?_
  refine Ex_bipush 36 (v := 28) dX9_worked_34 (by decide) rfl ?_
  refine Ex_icmp_eq 39 46 dX9_worked_36 (by decide) rfl (fun c1 => absurd c1 (hm_num_ne 28 (by decide))) (fun c1 => ?_)
  refine Ex_iload 41 dX9_worked_39 rfl rfl ?_
  refine Ex_bipush 43 (v := 30) dX9_worked_41 (by decide) rfl ?_
  refine Ex_icmp_ne 46 75 dX9_worked_43 (by decide) rfl (fun c2 => ?_) (fun c2 => absurd c2 (hm_num_ne 30 (by decide)))
  refine Ex_iload 77 dX9_worked_75 rfl rfl ?_
  refine Ex_bipush 79 (v := 20) dX9_worked_77 (by decide) rfl ?_
  refine Ex_icmp_eq 82 89 dX9_worked_79 (by decide) rfl (fun c3 => absurd c3 (hm_num_ne 20 (by decide))) (fun c3 => ?_)
  refine Ex_iload 84 dX9_worked_82 rfl rfl ?_
  refine Ex_bipush 86 (v := 21) dX9_worked_84 (by decide) rfl ?_
  refine Ex_icmp_ne 89 105 dX9_worked_86 (by decide) rfl (fun c4 => ?_) (fun c4 => absurd c4 (hm_num_ne 21 (by decide)))
  refine Ex_iload 107 dX9_worked_105 rfl rfl ?_
  refine Ex_bipush 109 (v := 22) dX9_worked_107 (by decide) rfl ?_
  refine Ex_icmp_ne 112 123 dX9_worked_109 (by decide) rfl (fun c5 => ?_) (fun c5 => absurd c5 (hm_num_ne 22 (by decide)))
  refine Ex_iload 125 dX9_worked_123 rfl rfl ?_
  refine Ex_bipush 127 (v := 24) dX9_worked_125 (by decide) rfl ?_
  refine Ex_icmp_eq 130 137 dX9_worked_127 (by decide) rfl (fun c6 => absurd c6 (hm_num_ne 24 (by decide))) (fun c6 => ?_)
  refine Ex_iload 132 dX9_worked_130 rfl rfl ?_
  refine Ex_bipush 134 (v := 25) dX9_worked_132 (by decide) rfl ?_
  refine Ex_icmp_ne 137 180 dX9_worked_134 (by decide) rfl (fun c7 => ?_) (fun c7 => absurd c7 (hm_num_ne 25 (by decide)))
  refine Ex_iload 182 dX9_worked_180 rfl rfl ?_
  refine Ex_bipush 184 (v := 26) dX9_worked_182 (by decide) rfl ?_
  refine Ex_icmp_eq 187 194 dX9_worked_184 (by decide) rfl (fun c8 => absurd c8 (hm_num_ne 26 (by decide))) (fun c8 => ?_)
  refine Ex_iload 189 dX9_worked_187 rfl rfl ?_
  refine Ex_bipush 191 (v := 27) dX9_worked_189 (by decide) rfl ?_
  refine Ex_icmp_ne 194 210 dX9_worked_191 (by decide) rfl (fun c9 => ?_) (fun c9 => absurd c9 (hm_num_ne 27 (by decide)))
  refine Ex_iload 212 dX9_worked_210 rfl rfl ?_
  refine Ex_bipush 214 (v := 100) dX9_worked_212 (by decide) rfl ?_
  refine Ex_icmp_lt 217 225 dX9_worked_214 (by decide) rfl (fun c10 => absurd c10 (nI_nlt (b := 100) (by omega) (by omega))) (fun c10 => ?_)
  refine Ex_iload 219 dX9_worked_217 rfl rfl ?_
  refine Ex_bipush 221 (v := 100) dX9_worked_219 (by decide) rfl ?_
  refine Ex_isub 222 dX9_worked_221 rfl ?_
  refine Ex_goto 243 dX9_worked_222 (by decide) ?_
  refine Ex_istore 245 (ls' := [some (.ref m), some (.int 0), some (.int (nI dd)), some (.int (nI i)), some (.int (nI (100 + n))), some (.int ((nI (100 + n)) - 100))]) dX9_worked_243 (Nat.le_of_ble_eq_true rfl) rfl rfl rfl ?_
  refine Ex_iload 247 dX9_worked_245 rfl rfl ?_
  refine Ex_bipush 249 (v := 29) dX9_worked_247 (by decide) rfl ?_
  refine Ex_icmp_ne 252 268 dX9_worked_249 (by decide) rfl (fun c11 => ?_) (fun c11 => absurd c11 (hm_num_ne 29 (by decide)))
  refine mw_val hm dd _ J (by omega) hF (fun d' J' v' hF' he' => ih d' J' _ _ hF' ?_)
  rw [he']
  have h1 : ∀ k, k < 100 → ¬ nI (100 + n) = nI k := fun k hk => hm_num_ne k hk
  have e1 : hmWstep h mm o t (dd, hmK J m) (nI (100 + n)) = hmVal (hmK J m) dd (nI (100 + n) - 100) := by
    unfold hmWstep
    rw [if_neg (fun q => q.elim (h1 28 (by decide)) (h1 30 (by decide))), if_neg (fun q => q.elim (h1 20 (by decide)) (h1 21 (by decide))), if_neg (show ¬ nI (100 + n) = 22 from h1 22 (by decide)), if_neg (fun q => q.elim (h1 24 (by decide)) (h1 25 (by decide))), if_neg (fun q => q.elim (h1 26 (by decide)) (h1 27 (by decide))), if_neg (show ¬ nI (100 + n) = 29 from h1 29 (by decide)), if_neg (show ¬ nI (100 + n) < 100 from nI_nlt (b := 100) (by omega) (by omega))]
  rw [e1]
