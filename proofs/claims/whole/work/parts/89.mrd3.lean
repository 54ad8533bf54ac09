set_option maxHeartbeats 4000000 in
theorem mc_reads {d : Nat} {sh : xSh} {R : xR} {L : xL} {I : xI} {Q : xQ} {m : Nat} {T : List Nat} {t : hmTok} {r : List hmTok} (hm : xModel sh R m) (hA : hmAm I L m T t r) (hc : ∀ x, x ∈ T → x < 127) (hlen : (t :: r).length ≤ 1001) (hcode : I m 19 = nI 1000) (hF : ∀ F I' L', hmLm (t :: r) true [(0, false)] [] = .inl F → 1 ≤ F → F < 20000 → hmRf m I I' → hmNl m L L' → I' m 9 = nI F → Q (some (.int 0)) 0 sh R L' I') (hQ : ∀ cd t' r' I' L', hmLm (t :: r) true [(0, false)] [] = .inr (cd, t' :: r') → hmRf m I I' → hmNl m L L' → hmCd I' m cd → hmAm I' L' m T t' r' → Q (some (.int 1)) 0 sh R L' I') : Ex (d + 2) 0 0 MX9_reads 0 sh R L I 0 [some (.ref m), none, none, none, none, none] [] Q := by
  refine Ex_iconst 1 (v := 0) dX9_reads_0 (by decide) rfl ?_
  refine Ex_istore_n 2 (i := 1) (ls' := [some (.ref m), some (.int 0), none, none, none, none]) dX9_reads_1 rfl (Nat.le_of_ble_eq_true rfl) rfl rfl rfl ?_
  refine Ex_iconst 3 (v := 1) dX9_reads_2 (by decide) rfl ?_
  refine Ex_istore_n 4 (i := 2) (ls' := [some (.ref m), some (.int 0), some (.int 1), none, none, none]) dX9_reads_3 rfl (Nat.le_of_ble_eq_true rfl) rfl rfl rfl ?_
  refine Ex_aload_n 5 (i := 0) dX9_reads_4 rfl rfl rfl ?_
  refine Ex_getR 8 dX9_reads_5 fX9_44 (xMs_0 hm) rfl (xMr_22 hm) rfl ?_
  refine Ex_iconst 9 (v := 0) dX9_reads_8 (by decide) rfl ?_
  refine Ex_iconst 10 (v := 0) dX9_reads_9 (by decide) rfl ?_
  refine Ex_sZ 11 0 (I (m + 12)) (va_up I (m + 12) (va_up (I (m + 12)) 0 (vp_nar .boolean 0))) dX9_reads_10 (xMs_12 hm) rfl (by decide) (by decide) rfl rfl rfl ?_
  exact mc_reads_loop (I := I) (L := L) hm hc (ts := t :: r) hF hQ (t :: r).length t r [(0, false)] [] true _ L 0 (Nat.le_refl _) (by rw [List.length_nil]; omega) rfl ⟨fun _ => rfl, fun q => absurd rfl q⟩ (by decide) rfl (hmRf.lv (Or.inr rfl)) hmNl.rf ⟨by rw [va_up_self]; exact va_up_self _ _ _, fun q => absurd rfl q, True.intro⟩ ⟨by rw [va_up_ne _ _ (by omega)]; exact hcode, fun i hi => absurd hi (by simp)⟩ (hA.kept (fun k hk => by rw [va_up_ne _ _ (by omega)]) (va_up_ne _ _ (by omega)) rfl)
set_option maxHeartbeats 4000000 in
theorem mc_callerNamed0_loop {d : Nat} {sh : xSh} {R : xR} {L : xL} {I : xI} {Q : xQ} {m : Nat} {T : List Nat} {t : hmTok} {r : List hmTok} (hm : xModel sh R m) (hA : hmAm I L m T t r) (t2 : t.1 = 2) {nms : List (List Nat)} (hn6 : nms.length ≤ 6) (h6 : I (m + 2) 0 = nI nms.length) (hnm : ∀ i, i < nms.length → L (m + 3) (0 + i) = hmE27 (nms.getD i []) ∧ hmWd (nms.getD i [])) (hQ : Q (some (.int (hmFi nms t.2.1))) 0 sh R L I) : ∀ n i, n + i = nms.length → (∀ j, j < i → ¬ nms.getD j [] = t.2.1) → Ex d 0 0 MX9_callerNamed 0 sh R L I 5 [some (.ref m), some (.int 0), some (.int (nI (0 + i)))] [] Q := by
  have hv := hA.2.2.2.1 t2
  have hl : hmWd t.2.1 := ⟨(hA.sk.1 t2).1, (hA.sk.1 t2).2.1⟩
  intro n
  induction n with
  | zero =>
    intro i hi hn
    refine Ex_iload_n 6 (i := 2) dX9_callerNamed_5 rfl rfl rfl ?_
    refine Ex_bipush 8 (v := 6) dX9_callerNamed_6 (by decide) rfl ?_
    refine Ex_iload_n 9 (i := 1) dX9_callerNamed_8 rfl rfl rfl ?_
    refine Ex_imul 10 dX9_callerNamed_9 rfl ?_
    refine Ex_aload_n 11 (i := 0) dX9_callerNamed_10 rfl rfl rfl ?_
    refine Ex_getR 14 dX9_callerNamed_11 fX9_13 (xMs_0 hm) rfl (xMr_10 hm) rfl ?_
    refine Ex_iconst 15 (v := 2) dX9_callerNamed_14 (by decide) rfl ?_
    refine Ex_iload_n 16 (i := 1) dX9_callerNamed_15 rfl rfl rfl ?_
    refine Ex_imul 17 dX9_callerNamed_16 rfl ?_
    refine Ex_iconst 18 (v := 0) dX9_callerNamed_17 (by decide) rfl ?_
    refine Ex_iadd 19 dX9_callerNamed_18 rfl ?_
    refine Ex_aI 20 0 (I (m + 2) 0) dX9_callerNamed_19 (xMs_2 hm) (by decide) (by decide) (by decide) rfl rfl ?_
    rw [h6]
    refine Ex_iadd 21 dX9_callerNamed_20 rfl ?_
    rw [show (6 * 0 : Int32) = nI 0 from rfl, hm_addN]
    refine Ex_icmp_ge 24 51 dX9_callerNamed_21 (by decide) rfl (fun c1 => ?_) (fun c1 => absurd c1 (fun q => q (nI_le (by omega) (by omega))))
    refine Ex_iconst 52 (v := (-1)) dX9_callerNamed_51 (by decide) rfl ?_
    refine Ex_iret dX9_callerNamed_52 rfl rfl (Or.inl rfl) ?_
    have e : hmFi nms t.2.1 = -1 := by
      unfold hmFi
      rw [if_neg]
      intro q
      obtain ⟨j, hj, ej⟩ := List.getElem_of_mem q
      exact hn j (by omega) (by rw [List.getD_eq_getElem?_getD, List.getElem?_eq_getElem hj]; exact ej)
    rw [← e]
    exact hQ
  | succ n ih =>
    intro i hi hn
    have hni := hnm i (by omega)
    refine Ex_iload_n 6 (i := 2) dX9_callerNamed_5 rfl rfl rfl ?_
    refine Ex_bipush 8 (v := 6) dX9_callerNamed_6 (by decide) rfl ?_
    refine Ex_iload_n 9 (i := 1) dX9_callerNamed_8 rfl rfl rfl ?_
    refine Ex_imul 10 dX9_callerNamed_9 rfl ?_
    refine Ex_aload_n 11 (i := 0) dX9_callerNamed_10 rfl rfl rfl ?_
    refine Ex_getR 14 dX9_callerNamed_11 fX9_13 (xMs_0 hm) rfl (xMr_10 hm) rfl ?_
    refine Ex_iconst 15 (v := 2) dX9_callerNamed_14 (by decide) rfl ?_
    refine Ex_iload_n 16 (i := 1) dX9_callerNamed_15 rfl rfl rfl ?_
    refine Ex_imul 17 dX9_callerNamed_16 rfl ?_
    refine Ex_iconst 18 (v := 0) dX9_callerNamed_17 (by decide) rfl ?_
    refine Ex_iadd 19 dX9_callerNamed_18 rfl ?_
    refine Ex_aI 20 0 (I (m + 2) 0) dX9_callerNamed_19 (xMs_2 hm) (by decide) (by decide) (by decide) rfl rfl ?_
    rw [h6]
    refine Ex_iadd 21 dX9_callerNamed_20 rfl ?_
    rw [show (6 * 0 : Int32) = nI 0 from rfl, hm_addN]
    refine Ex_icmp_ge 24 51 dX9_callerNamed_21 (by decide) rfl (fun c1 => absurd c1 (nI_ge (by omega) (by omega))) (fun c1 => ?_)
    refine Ex_aload_n 25 (i := 0) dX9_callerNamed_24 rfl rfl rfl ?_
    refine Ex_getR 28 dX9_callerNamed_25 fX9_16 (xMs_0 hm) rfl (xMr_11 hm) rfl ?_
    refine Ex_iload_n 29 (i := 2) dX9_callerNamed_28 rfl rfl rfl ?_
    refine Ex_aL 30 (0 + i) (L (m + 3) (0 + i)) dX9_callerNamed_29 (xMs_3 hm) rfl (by omega) (by decide) rfl rfl ?_
    rw [hni.1]
    refine Ex_aload_n 31 (i := 0) dX9_callerNamed_30 rfl rfl rfl ?_
    refine Ex_gL 34 (L m 7) dX9_callerNamed_31 fX9_147 (xMs_0 hm) rfl rfl ?_
    rw [hv]
    refine Ex_lcmp 35 dX9_callerNamed_34 rfl ?_
    refine Ex_if_ne 38 45 dX9_callerNamed_35 (by decide) rfl (fun c2 => ?_) (fun c2 => ?_)
    · refine Ex_iinc 48 (v := (nI ((0 + i) + 1))) (ls' := [some (.ref m), some (.int 0), some (.int (nI ((0 + i) + 1)))]) dX9_callerNamed_45 rfl (xinc _) (Nat.le_of_ble_eq_true rfl) rfl rfl rfl ?_
      refine Ex_goto 5 dX9_callerNamed_48 (by decide) ?_
      refine ih (i + 1) (by omega) (fun j hj q => ?_)
      by_cases e : j = i
      · rw [e] at q
        exact c2 ((hm_weq27 hni.2 hl rfl rfl).mpr q)
      · exact hn j (by omega) q
    · refine Ex_iload_n 39 (i := 2) dX9_callerNamed_38 rfl rfl rfl ?_
      refine Ex_bipush 41 (v := 6) dX9_callerNamed_39 (by decide) rfl ?_
      refine Ex_iload_n 42 (i := 1) dX9_callerNamed_41 rfl rfl rfl ?_
      refine Ex_imul 43 dX9_callerNamed_42 rfl ?_
      refine Ex_isub 44 dX9_callerNamed_43 rfl ?_
      rw [show (6 * 0 : Int32) = nI 0 from rfl, pk_sub (by omega), show 0 + i - 0 = i by omega]
      refine Ex_iret dX9_callerNamed_44 rfl rfl (Or.inl rfl) ?_
      have h2 := (hm_weq27 hni.2 hl rfl rfl).mp c2
      have h3 := hm_idx_at (by omega) h2 hn
      have e : hmFi nms t.2.1 = nI i := by
        unfold hmFi
        rw [if_pos h3.1, h3.2]
      rw [← e]
      exact hQ
set_option maxHeartbeats 4000000 in
theorem mc_callerNamed0 {d : Nat} {sh : xSh} {R : xR} {L : xL} {I : xI} {Q : xQ} {m : Nat} {T : List Nat} {t : hmTok} {r : List hmTok} (hm : xModel sh R m) (hA : hmAm I L m T t r) (t2 : t.1 = 2) {nms : List (List Nat)} (hn6 : nms.length ≤ 6) (h6 : I (m + 2) 0 = nI nms.length) (hnm : ∀ i, i < nms.length → L (m + 3) (0 + i) = hmE27 (nms.getD i []) ∧ hmWd (nms.getD i [])) (hQ : Q (some (.int (hmFi nms t.2.1))) 0 sh R L I) : Ex d 0 0 MX9_callerNamed 0 sh R L I 0 [some (.ref m), some (.int 0), none] [] Q := by
  refine Ex_bipush 2 (v := 6) dX9_callerNamed_0 (by decide) rfl ?_
  refine Ex_iload_n 3 (i := 1) dX9_callerNamed_2 rfl rfl rfl ?_
  refine Ex_imul 4 dX9_callerNamed_3 rfl ?_
  refine Ex_istore_n 5 (i := 2) (ls' := [some (.ref m), some (.int 0), some (.int (6 * 0))]) dX9_callerNamed_4 rfl (Nat.le_of_ble_eq_true rfl) rfl rfl rfl ?_
  exact mc_callerNamed0_loop hm hA t2 hn6 h6 hnm hQ nms.length 0 (by omega) (fun j hj => absurd hj (by omega))
set_option maxHeartbeats 4000000 in
theorem mc_callerNamed1_loop {d : Nat} {sh : xSh} {R : xR} {L : xL} {I : xI} {Q : xQ} {m : Nat} {T : List Nat} {t : hmTok} {r : List hmTok} (hm : xModel sh R m) (hA : hmAm I L m T t r) (t2 : t.1 = 2) {nms : List (List Nat)} (hn6 : nms.length ≤ 6) (h6 : I (m + 2) 2 = nI nms.length) (hnm : ∀ i, i < nms.length → L (m + 3) (6 + i) = hmE27 (nms.getD i []) ∧ hmWd (nms.getD i [])) (hQ : Q (some (.int (hmFi nms t.2.1))) 0 sh R L I) : ∀ n i, n + i = nms.length → (∀ j, j < i → ¬ nms.getD j [] = t.2.1) → Ex d 0 0 MX9_callerNamed 0 sh R L I 5 [some (.ref m), some (.int 1), some (.int (nI (6 + i)))] [] Q := by
  have hv := hA.2.2.2.1 t2
  have hl : hmWd t.2.1 := ⟨(hA.sk.1 t2).1, (hA.sk.1 t2).2.1⟩
  intro n
  induction n with
  | zero =>
    intro i hi hn
    refine Ex_iload_n 6 (i := 2) dX9_callerNamed_5 rfl rfl rfl ?_
    refine Ex_bipush 8 (v := 6) dX9_callerNamed_6 (by decide) rfl ?_
    refine Ex_iload_n 9 (i := 1) dX9_callerNamed_8 rfl rfl rfl ?_
    refine Ex_imul 10 dX9_callerNamed_9 rfl ?_
    refine Ex_aload_n 11 (i := 0) dX9_callerNamed_10 rfl rfl rfl ?_
    refine Ex_getR 14 dX9_callerNamed_11 fX9_13 (xMs_0 hm) rfl (xMr_10 hm) rfl ?_
    refine Ex_iconst 15 (v := 2) dX9_callerNamed_14 (by decide) rfl ?_
    refine Ex_iload_n 16 (i := 1) dX9_callerNamed_15 rfl rfl rfl ?_
    refine Ex_imul 17 dX9_callerNamed_16 rfl ?_
    refine Ex_iconst 18 (v := 0) dX9_callerNamed_17 (by decide) rfl ?_
    refine Ex_iadd 19 dX9_callerNamed_18 rfl ?_
    refine Ex_aI 20 2 (I (m + 2) 2) dX9_callerNamed_19 (xMs_2 hm) (by decide) (by decide) (by decide) rfl rfl ?_
    rw [h6]
    refine Ex_iadd 21 dX9_callerNamed_20 rfl ?_
    rw [show (6 * 1 : Int32) = nI 6 from rfl, hm_addN]
    refine Ex_icmp_ge 24 51 dX9_callerNamed_21 (by decide) rfl (fun c1 => ?_) (fun c1 => absurd c1 (fun q => q (nI_le (by omega) (by omega))))
    refine Ex_iconst 52 (v := (-1)) dX9_callerNamed_51 (by decide) rfl ?_
    refine Ex_iret dX9_callerNamed_52 rfl rfl (Or.inl rfl) ?_
    have e : hmFi nms t.2.1 = -1 := by
      unfold hmFi
      rw [if_neg]
      intro q
      obtain ⟨j, hj, ej⟩ := List.getElem_of_mem q
      exact hn j (by omega) (by rw [List.getD_eq_getElem?_getD, List.getElem?_eq_getElem hj]; exact ej)
    rw [← e]
    exact hQ
  | succ n ih =>
    intro i hi hn
    have hni := hnm i (by omega)
    refine Ex_iload_n 6 (i := 2) dX9_callerNamed_5 rfl rfl rfl ?_
    refine Ex_bipush 8 (v := 6) dX9_callerNamed_6 (by decide) rfl ?_
    refine Ex_iload_n 9 (i := 1) dX9_callerNamed_8 rfl rfl rfl ?_
    refine Ex_imul 10 dX9_callerNamed_9 rfl ?_
    refine Ex_aload_n 11 (i := 0) dX9_callerNamed_10 rfl rfl rfl ?_
    refine Ex_getR 14 dX9_callerNamed_11 fX9_13 (xMs_0 hm) rfl (xMr_10 hm) rfl ?_
    refine Ex_iconst 15 (v := 2) dX9_callerNamed_14 (by decide) rfl ?_
    refine Ex_iload_n 16 (i := 1) dX9_callerNamed_15 rfl rfl rfl ?_
    refine Ex_imul 17 dX9_callerNamed_16 rfl ?_
    refine Ex_iconst 18 (v := 0) dX9_callerNamed_17 (by decide) rfl ?_
    refine Ex_iadd 19 dX9_callerNamed_18 rfl ?_
    refine Ex_aI 20 2 (I (m + 2) 2) dX9_callerNamed_19 (xMs_2 hm) (by decide) (by decide) (by decide) rfl rfl ?_
    rw [h6]
    refine Ex_iadd 21 dX9_callerNamed_20 rfl ?_
    rw [show (6 * 1 : Int32) = nI 6 from rfl, hm_addN]
    refine Ex_icmp_ge 24 51 dX9_callerNamed_21 (by decide) rfl (fun c1 => absurd c1 (nI_ge (by omega) (by omega))) (fun c1 => ?_)
    refine Ex_aload_n 25 (i := 0) dX9_callerNamed_24 rfl rfl rfl ?_
    refine Ex_getR 28 dX9_callerNamed_25 fX9_16 (xMs_0 hm) rfl (xMr_11 hm) rfl ?_
    refine Ex_iload_n 29 (i := 2) dX9_callerNamed_28 rfl rfl rfl ?_
    refine Ex_aL 30 (6 + i) (L (m + 3) (6 + i)) dX9_callerNamed_29 (xMs_3 hm) rfl (by omega) (by decide) rfl rfl ?_
    rw [hni.1]
    refine Ex_aload_n 31 (i := 0) dX9_callerNamed_30 rfl rfl rfl ?_
    refine Ex_gL 34 (L m 7) dX9_callerNamed_31 fX9_147 (xMs_0 hm) rfl rfl ?_
    rw [hv]
    refine Ex_lcmp 35 dX9_callerNamed_34 rfl ?_
    refine Ex_if_ne 38 45 dX9_callerNamed_35 (by decide) rfl (fun c2 => ?_) (fun c2 => ?_)
    · refine Ex_iinc 48 (v := (nI ((6 + i) + 1))) (ls' := [some (.ref m), some (.int 1), some (.int (nI ((6 + i) + 1)))]) dX9_callerNamed_45 rfl (xinc _) (Nat.le_of_ble_eq_true rfl) rfl rfl rfl ?_
      refine Ex_goto 5 dX9_callerNamed_48 (by decide) ?_
      refine ih (i + 1) (by omega) (fun j hj q => ?_)
      by_cases e : j = i
      · rw [e] at q
        exact c2 ((hm_weq27 hni.2 hl rfl rfl).mpr q)
      · exact hn j (by omega) q
    · refine Ex_iload_n 39 (i := 2) dX9_callerNamed_38 rfl rfl rfl ?_
      refine Ex_bipush 41 (v := 6) dX9_callerNamed_39 (by decide) rfl ?_
      refine Ex_iload_n 42 (i := 1) dX9_callerNamed_41 rfl rfl rfl ?_
      refine Ex_imul 43 dX9_callerNamed_42 rfl ?_
      refine Ex_isub 44 dX9_callerNamed_43 rfl ?_
      rw [show (6 * 1 : Int32) = nI 6 from rfl, pk_sub (by omega), show 6 + i - 6 = i by omega]
      refine Ex_iret dX9_callerNamed_44 rfl rfl (Or.inl rfl) ?_
      have h2 := (hm_weq27 hni.2 hl rfl rfl).mp c2
      have h3 := hm_idx_at (by omega) h2 hn
      have e : hmFi nms t.2.1 = nI i := by
        unfold hmFi
        rw [if_pos h3.1, h3.2]
      rw [← e]
      exact hQ
set_option maxHeartbeats 4000000 in
theorem mc_callerNamed1 {d : Nat} {sh : xSh} {R : xR} {L : xL} {I : xI} {Q : xQ} {m : Nat} {T : List Nat} {t : hmTok} {r : List hmTok} (hm : xModel sh R m) (hA : hmAm I L m T t r) (t2 : t.1 = 2) {nms : List (List Nat)} (hn6 : nms.length ≤ 6) (h6 : I (m + 2) 2 = nI nms.length) (hnm : ∀ i, i < nms.length → L (m + 3) (6 + i) = hmE27 (nms.getD i []) ∧ hmWd (nms.getD i [])) (hQ : Q (some (.int (hmFi nms t.2.1))) 0 sh R L I) : Ex d 0 0 MX9_callerNamed 0 sh R L I 0 [some (.ref m), some (.int 1), none] [] Q := by
  refine Ex_bipush 2 (v := 6) dX9_callerNamed_0 (by decide) rfl ?_
  refine Ex_iload_n 3 (i := 1) dX9_callerNamed_2 rfl rfl rfl ?_
  refine Ex_imul 4 dX9_callerNamed_3 rfl ?_
  refine Ex_istore_n 5 (i := 2) (ls' := [some (.ref m), some (.int 1), some (.int (6 * 1))]) dX9_callerNamed_4 rfl (Nat.le_of_ble_eq_true rfl) rfl rfl rfl ?_
  exact mc_callerNamed1_loop hm hA t2 hn6 h6 hnm hQ nms.length 0 (by omega) (fun j hj => absurd hj (by omega))
def hmKf2 (m n : Nat) (I I' : xI) : Prop := (∀ x, x ≠ m → x ≠ m + 6 → I' x = I x) ∧ (∀ k, k ≠ 4 → k ≠ 5 → k ≠ 6 → k ≠ 8 → k ≠ 9 → I' m k = I m k) ∧ ∀ j, j ≠ n → I' (m + 6) j = I (m + 6) j
theorem hmKf2.tr {m n : Nat} {I J K : xI} (h1 : hmKf2 m n I J) (h2 : hmKf2 m n J K) : hmKf2 m n I K := ⟨fun x p q => (h2.1 x p q).trans (h1.1 x p q), fun k a b c d e => (h2.2.1 k a b c d e).trans (h1.2.1 k a b c d e), fun j p => (h2.2.2 j p).trans (h1.2.2 j p)⟩
theorem hmKf2.nf {m n : Nat} {I J : xI} (h : hmNf m I J) : hmKf2 m n I J := ⟨fun x p _ => h.1 x p, fun k a b c d _ => h.2 k a b c d, fun j _ => by rw [h.1 (m + 6) (by omega)]⟩
theorem hmKf2.fl {m n : Nat} {I : xI} {v : Int32} : hmKf2 m n I (va_up I m (va_up (I m) 9 v)) := ⟨fun x p _ => va_up_ne _ _ p, fun k _ _ _ _ e => by rw [va_up_self, va_up_ne _ _ e], fun j _ => by rw [va_up_ne _ _ (by omega)]⟩
theorem hmKf2.up {m n : Nat} {I : xI} {v : Int32} : hmKf2 m n I (va_up I (m + 6) (va_up (I (m + 6)) n v)) := ⟨fun x _ p => va_up_ne _ _ p, fun k _ _ _ _ _ => by rw [va_up_ne _ _ (by omega)], fun j p => by rw [va_up_self, va_up_ne _ _ p]⟩
set_option maxHeartbeats 4000000 in
theorem mc_readsKnows_loop {d : Nat} {sh : xSh} {R : xR} {L : xL} {I : xI} {Q : xQ} {m n : Nat} {T : List Nat} (hm : xModel sh R m) (hc : ∀ x, x ∈ T → x < 127) (hn12 : n < 12) {ts : List hmTok} (hF : ∀ F I' L', hmAn ts 0 0 = .inl F → 1 ≤ F → F < 20000 → hmKf2 m n I I' → hmNl m L L' → I' m 9 = nI F → Q (some (.int 0)) 0 sh R L' I') (hQ : ∀ kn t' r' I' L', hmAn ts 0 0 = .inr (kn, t' :: r') → hmKf2 m n I I' → I' (m + 6) n = kn → hmNl m L L' → hmAm I' L' m T t' r' → Q (some (.int 1)) 0 sh R L' I') : ∀ k (many : Nat) (t : hmTok) (r : List hmTok) (kn : Int32) (J : xI) (LL : xL), k + many = 6 → hmAn ts 0 0 = hmAn (t :: r) many kn → hmS10 kn → hmKf2 m n I J → hmNl m L LL → J (m + 6) n = kn → hmAm J LL m T t r → Ex (d + 2) 0 0 MX9_readsKnows 0 sh R LL J 9 [some (.ref m), some (.int (nI n)), some (.int (nI many))] [] Q := by
  intro k
  induction k with
  | zero =>
    intro many t r kn J LL hmy he h10 gJ gL hkn hA
    have hk4 := hA.sk.2.2.2
    have hq2 := hA.tk (n := 2) (k := 3) (by decide) rfl (hmTcd_2 hk4)
    have hfl : ∀ k, 1 ≤ k → k ≤ 5 → hmAn (t :: r) many kn = .inl (hmFl k t) → Q (some (.int 0)) 0 sh R LL (va_up J m (va_up (J m) 9 (nI (hmFl k t)))) := fun k h1 h2 e => by
      have hfl := hmFl_lt (k := k) (t := t) h1 h2 hA.pl
      exact hF (hmFl k t) _ LL (he.trans e) hfl.1 hfl.2 (gJ.tr hmKf2.fl) gL (by rw [va_up_self, va_up_self])
    by_cases t3 : t.1 = 3
    · have hd4 := hA.sk.2.1 t3
      have hv8 := hA.2.2.2.2.1 t3
      refine Ex_iload_n 10 (i := 2) dX9_readsKnows_9 rfl rfl rfl ?_
      refine Ex_if_eq 13 21 dX9_readsKnows_10 (by decide) rfl (fun c1 => absurd c1 (fun q => absurd ((nI_eq (b := 0) (by omega) (by omega)).mp q) (by omega))) (fun c1 => ?_)
      refine Ex_aload_n 14 (i := 0) dX9_readsKnows_13 rfl rfl rfl ?_
      refine Ex_gI 17 (J m 6) dX9_readsKnows_14 fX9_154 (xMs_0 hm) rfl rfl rfl ?_
      refine Ex_iconst 18 (v := 2) dX9_readsKnows_17 (by decide) rfl ?_
      refine Ex_icmp_ne 21 110 dX9_readsKnows_18 (by decide) rfl (fun c2 => absurd c2 (fun q => q (hq2.mpr t3))) (fun c2 => ?_)
      refine Ex_aload_n 22 (i := 0) dX9_readsKnows_21 rfl rfl rfl ?_
      refine Ex_gI 25 (J m 6) dX9_readsKnows_22 fX9_154 (xMs_0 hm) rfl rfl rfl ?_
      refine Ex_iconst 26 (v := 2) dX9_readsKnows_25 (by decide) rfl ?_
      refine Ex_icmp_eq 29 35 dX9_readsKnows_26 (by decide) rfl (fun c3 => ?_) (fun c3 => absurd c3 (fun q => q (hq2.mpr t3)))
      refine Ex_aload_n 36 (i := 0) dX9_readsKnows_35 rfl rfl rfl ?_
      refine Ex_gI 39 (J m 8) dX9_readsKnows_36 fX9_151 (xMs_0 hm) rfl rfl rfl ?_
      rw [hv8]
      refine Ex_bipush 41 (v := 9) dX9_readsKnows_39 (by decide) rfl ?_
      refine Ex_icmp_le 44 50 dX9_readsKnows_41 (by decide) rfl (fun c4 => ?_) (fun c4 => ?_)
      · have h9 := (nI_leI (b := 9) (by omega) (by omega)).mp c4
        refine Ex_aload_n 51 (i := 0) dX9_readsKnows_50 rfl rfl rfl ?_
        refine Ex_getR 54 dX9_readsKnows_51 fX9_26 (xMs_0 hm) rfl (xMr_14 hm) rfl ?_
        refine Ex_iload_n 55 (i := 1) dX9_readsKnows_54 rfl rfl rfl ?_
        refine Ex_aI 56 n (J (m + 6) n) dX9_readsKnows_55 (xMs_6 hm) rfl (by omega) (by decide) rfl rfl ?_
        rw [hkn]
        refine Ex_aload_n 57 (i := 0) dX9_readsKnows_56 rfl rfl rfl ?_
        refine Ex_gI 60 (J m 8) dX9_readsKnows_57 fX9_151 (xMs_0 hm) rfl rfl rfl ?_
        rw [hv8]
        refine Ex_ishr 61 dX9_readsKnows_60 rfl ?_
        refine Ex_iconst 62 (v := 1) dX9_readsKnows_61 (by decide) rfl ?_
        refine Ex_iand 63 dX9_readsKnows_62 rfl ?_
        refine Ex_iconst 64 (v := 1) dX9_readsKnows_63 (by decide) rfl ?_
        refine Ex_icmp_ne 67 73 dX9_readsKnows_64 (by decide) rfl (fun c5 => ?_) (fun c5 => ?_)
        · refine Ex_iload_n 74 (i := 2) dX9_readsKnows_73 rfl rfl rfl ?_
          refine Ex_bipush 76 (v := 6) dX9_readsKnows_74 (by decide) rfl ?_
          refine Ex_icmp_ne 79 85 dX9_readsKnows_76 (by decide) rfl (fun c6 => absurd c6 (fun q => q (by rw [show many = 6 by omega]; rfl))) (fun c6 => ?_)
          refine Ex_aload_n 80 (i := 0) dX9_readsKnows_79 rfl rfl rfl ?_
          refine Ex_iconst 81 (v := 5) dX9_readsKnows_80 (by decide) rfl ?_
          refine Ex_callV (M' := MX9_fails) 84 [.int 5] (rest := []) dX9_readsKnows_81 lX9_193 mX9_fails rfl (xMs_0 hm) rfl (Nat.le_of_ble_eq_true rfl) (Nat.le_of_ble_eq_true rfl) rfl ?_
          refine mc_fails (k := 5) hm hA ?_
          simp only [Option.toList, List.nil_append, List.cons_append]
          refine Ex_iret dX9_readsKnows_84 rfl (by decide) (Or.inl rfl) ?_
          have hbit := hmBit_n c5
          exact hfl 5 (by omega) (by omega) (by rw [hmAn_c, if_pos t3, if_neg (by omega), if_neg (by rw [hbit]; decide), if_pos (by omega)])
        · refine Ex_aload_n 68 (i := 0) dX9_readsKnows_67 rfl rfl rfl ?_
          refine Ex_iconst 69 (v := 3) dX9_readsKnows_68 (by decide) rfl ?_
          refine Ex_callV (M' := MX9_fails) 72 [.int 3] (rest := []) dX9_readsKnows_69 lX9_193 mX9_fails rfl (xMs_0 hm) rfl (Nat.le_of_ble_eq_true rfl) (Nat.le_of_ble_eq_true rfl) rfl ?_
          refine mc_fails (k := 3) hm hA ?_
          simp only [Option.toList, List.nil_append, List.cons_append]
          refine Ex_iret dX9_readsKnows_72 rfl (by decide) (Or.inl rfl) ?_
          exact hfl 3 (by omega) (by omega) (by rw [hmAn_c, if_pos t3, if_neg (by omega), if_pos (hmBit_1.mpr c5)])
      · refine Ex_aload_n 45 (i := 0) dX9_readsKnows_44 rfl rfl rfl ?_
        refine Ex_iconst 46 (v := 4) dX9_readsKnows_45 (by decide) rfl ?_
        refine Ex_callV (M' := MX9_fails) 49 [.int 4] (rest := []) dX9_readsKnows_46 lX9_193 mX9_fails rfl (xMs_0 hm) rfl (Nat.le_of_ble_eq_true rfl) (Nat.le_of_ble_eq_true rfl) rfl ?_
        refine mc_fails (k := 4) hm hA ?_
        simp only [Option.toList, List.nil_append, List.cons_append]
        refine Ex_iret dX9_readsKnows_49 rfl (by decide) (Or.inl rfl) ?_
        exact hfl 4 (by omega) (by omega) (by rw [hmAn_c, if_pos t3, if_pos (by have q : ¬ hmDec t.2.1 ≤ 9 := (fun q => c4 ((nI_leI (b := 9) (by omega) (by omega)).mpr q)); omega)])
    · refine Ex_iload_n 10 (i := 2) dX9_readsKnows_9 rfl rfl rfl ?_
      refine Ex_if_eq 13 21 dX9_readsKnows_10 (by decide) rfl (fun c1 => absurd c1 (fun q => absurd ((nI_eq (b := 0) (by omega) (by omega)).mp q) (by omega))) (fun c1 => ?_)
      refine Ex_aload_n 14 (i := 0) dX9_readsKnows_13 rfl rfl rfl ?_
      refine Ex_gI 17 (J m 6) dX9_readsKnows_14 fX9_154 (xMs_0 hm) rfl rfl rfl ?_
      refine Ex_iconst 18 (v := 2) dX9_readsKnows_17 (by decide) rfl ?_
      refine Ex_icmp_ne 21 110 dX9_readsKnows_18 (by decide) rfl (fun c2 => ?_) (fun c2 => absurd c2 (fun q => t3 (hq2.mp q)))
      refine Ex_iconst 111 (v := 1) dX9_readsKnows_110 (by decide) rfl ?_
      refine Ex_iret dX9_readsKnows_111 rfl (by decide) (Or.inl rfl) ?_
      exact hQ kn t r J LL (by rw [he, hmAn_c, if_neg t3, if_neg (by omega)]) gJ hkn gL hA
  | succ k ih =>
    intro many t r kn J LL hmy he h10 gJ gL hkn hA
    have hk4 := hA.sk.2.2.2
    have hq2 := hA.tk (n := 2) (k := 3) (by decide) rfl (hmTcd_2 hk4)
    have hfl : ∀ k, 1 ≤ k → k ≤ 5 → hmAn (t :: r) many kn = .inl (hmFl k t) → Q (some (.int 0)) 0 sh R LL (va_up J m (va_up (J m) 9 (nI (hmFl k t)))) := fun k h1 h2 e => by
      have hfl := hmFl_lt (k := k) (t := t) h1 h2 hA.pl
      exact hF (hmFl k t) _ LL (he.trans e) hfl.1 hfl.2 (gJ.tr hmKf2.fl) gL (by rw [va_up_self, va_up_self])
    by_cases t3 : t.1 = 3
    · have hd4 := hA.sk.2.1 t3
      have hv8 := hA.2.2.2.2.1 t3
      by_cases hm0 : many = 0
      · refine Ex_iload_n 10 (i := 2) dX9_readsKnows_9 rfl rfl rfl ?_
        refine Ex_if_eq 13 21 dX9_readsKnows_10 (by decide) rfl (fun c1 => ?_) (fun c1 => absurd c1 (fun q => q (by rw [hm0]; rfl)))
        refine Ex_aload_n 22 (i := 0) dX9_readsKnows_21 rfl rfl rfl ?_
        refine Ex_gI 25 (J m 6) dX9_readsKnows_22 fX9_154 (xMs_0 hm) rfl rfl rfl ?_
        refine Ex_iconst 26 (v := 2) dX9_readsKnows_25 (by decide) rfl ?_
        refine Ex_icmp_eq 29 35 dX9_readsKnows_26 (by decide) rfl (fun c2 => ?_) (fun c2 => absurd c2 (fun q => q (hq2.mpr t3)))
        refine Ex_aload_n 36 (i := 0) dX9_readsKnows_35 rfl rfl rfl ?_
        refine Ex_gI 39 (J m 8) dX9_readsKnows_36 fX9_151 (xMs_0 hm) rfl rfl rfl ?_
        rw [hv8]
        refine Ex_bipush 41 (v := 9) dX9_readsKnows_39 (by decide) rfl ?_
        refine Ex_icmp_le 44 50 dX9_readsKnows_41 (by decide) rfl (fun c3 => ?_) (fun c3 => ?_)
        · have h9 := (nI_leI (b := 9) (by omega) (by omega)).mp c3
          refine Ex_aload_n 51 (i := 0) dX9_readsKnows_50 rfl rfl rfl ?_
          refine Ex_getR 54 dX9_readsKnows_51 fX9_26 (xMs_0 hm) rfl (xMr_14 hm) rfl ?_
          refine Ex_iload_n 55 (i := 1) dX9_readsKnows_54 rfl rfl rfl ?_
          refine Ex_aI 56 n (J (m + 6) n) dX9_readsKnows_55 (xMs_6 hm) rfl (by omega) (by decide) rfl rfl ?_
          rw [hkn]
          refine Ex_aload_n 57 (i := 0) dX9_readsKnows_56 rfl rfl rfl ?_
          refine Ex_gI 60 (J m 8) dX9_readsKnows_57 fX9_151 (xMs_0 hm) rfl rfl rfl ?_
          rw [hv8]
          refine Ex_ishr 61 dX9_readsKnows_60 rfl ?_
          refine Ex_iconst 62 (v := 1) dX9_readsKnows_61 (by decide) rfl ?_
          refine Ex_iand 63 dX9_readsKnows_62 rfl ?_
          refine Ex_iconst 64 (v := 1) dX9_readsKnows_63 (by decide) rfl ?_
          refine Ex_icmp_ne 67 73 dX9_readsKnows_64 (by decide) rfl (fun c4 => ?_) (fun c4 => ?_)
          · refine Ex_iload_n 74 (i := 2) dX9_readsKnows_73 rfl rfl rfl ?_
            refine Ex_bipush 76 (v := 6) dX9_readsKnows_74 (by decide) rfl ?_
            refine Ex_icmp_ne 79 85 dX9_readsKnows_76 (by decide) rfl (fun c5 => ?_) (fun c5 => absurd c5 (fun q => absurd ((nI_eq (b := 6) (by omega) (by omega)).mp q) (by omega)))
            refine Ex_aload_n 86 (i := 0) dX9_readsKnows_85 rfl rfl rfl ?_
            refine Ex_getR 89 dX9_readsKnows_86 fX9_26 (xMs_0 hm) rfl (xMr_14 hm) rfl ?_
            refine Ex_iload_n 90 (i := 1) dX9_readsKnows_89 rfl rfl rfl ?_
            refine Ex_dup2 91 dX9_readsKnows_90 rfl rfl rfl ?_
            refine Ex_aI 92 n (J (m + 6) n) dX9_readsKnows_91 (xMs_6 hm) rfl (by omega) (by decide) rfl rfl ?_
            rw [hkn]
            refine Ex_iconst 93 (v := 1) dX9_readsKnows_92 (by decide) rfl ?_
            refine Ex_aload_n 94 (i := 0) dX9_readsKnows_93 rfl rfl rfl ?_
            refine Ex_gI 97 (J m 8) dX9_readsKnows_94 fX9_151 (xMs_0 hm) rfl rfl rfl ?_
            rw [hv8]
            refine Ex_ishl 98 dX9_readsKnows_97 rfl ?_
            refine Ex_ior 99 dX9_readsKnows_98 rfl ?_
            refine Ex_sI 100 n (J (m + 6)) (va_up J (m + 6) (va_up (J (m + 6)) n (kn ||| (1 <<< ((nI (hmDec t.2.1)) &&& 31))))) dX9_readsKnows_99 (xMs_6 hm) rfl (by omega) (by decide) rfl rfl rfl ?_
            refine Ex_iinc 103 (v := (nI (many + 1))) (ls' := [some (.ref m), some (.int (nI n)), some (.int (nI (many + 1)))]) dX9_readsKnows_100 rfl (xinc _) (Nat.le_of_ble_eq_true rfl) rfl rfl rfl ?_
            have hAx : hmAm (va_up J (m + 6) (va_up (J (m + 6)) n (kn ||| (1 <<< ((nI (hmDec t.2.1)) &&& 31))))) LL m T t r := hA.kept (fun k hk => by rw [va_up_ne _ _ (by omega)]) (va_up_ne _ _ (by omega)) rfl
            refine Ex_aload_n 104 (i := 0) dX9_readsKnows_103 rfl rfl rfl ?_
            refine Ex_callV (M' := MX9_nextToken) 107 [] (rest := []) dX9_readsKnows_104 lX9_200 mX9_nextToken rfl (xMs_0 hm) rfl (Nat.le_of_ble_eq_true rfl) (Nat.le_of_ble_eq_true rfl) rfl ?_
            refine mc_nxt hm hAx hc (by omega) (fun t1 r1 I1 L1 er1 gs1 gt1 hA1 => ?_)
            simp only [Option.toList, List.nil_append, List.cons_append]
            refine Ex_goto 9 dX9_readsKnows_107 (by decide) ?_
            have hbit := hmBit_n c4
            subst er1
            refine ih (many + 1) t1 r1 (kn ||| hmOne (hmDec t.2.1)) I1 L1 (by omega) ?_ (hm_s10_or h10 (hm_s10_one _ (by omega))) ((gJ.tr hmKf2.up).tr (hmKf2.nf gs1)) (gL.tr gt1) ?_ hA1
            · rw [he, hmAn_c, if_pos t3, if_neg (by omega), if_neg (by rw [hbit]; decide), if_neg (by omega)]
            · rw [gs1.1 (m + 6) (by omega), va_up_self, va_up_self]
              rfl
          · refine Ex_aload_n 68 (i := 0) dX9_readsKnows_67 rfl rfl rfl ?_
            refine Ex_iconst 69 (v := 3) dX9_readsKnows_68 (by decide) rfl ?_
            refine Ex_callV (M' := MX9_fails) 72 [.int 3] (rest := []) dX9_readsKnows_69 lX9_193 mX9_fails rfl (xMs_0 hm) rfl (Nat.le_of_ble_eq_true rfl) (Nat.le_of_ble_eq_true rfl) rfl ?_
            refine mc_fails (k := 3) hm hA ?_
            simp only [Option.toList, List.nil_append, List.cons_append]
            refine Ex_iret dX9_readsKnows_72 rfl (by decide) (Or.inl rfl) ?_
            exact hfl 3 (by omega) (by omega) (by rw [hmAn_c, if_pos t3, if_neg (by omega), if_pos (hmBit_1.mpr c4)])
        · refine Ex_aload_n 45 (i := 0) dX9_readsKnows_44 rfl rfl rfl ?_
          refine Ex_iconst 46 (v := 4) dX9_readsKnows_45 (by decide) rfl ?_
          refine Ex_callV (M' := MX9_fails) 49 [.int 4] (rest := []) dX9_readsKnows_46 lX9_193 mX9_fails rfl (xMs_0 hm) rfl (Nat.le_of_ble_eq_true rfl) (Nat.le_of_ble_eq_true rfl) rfl ?_
          refine mc_fails (k := 4) hm hA ?_
          simp only [Option.toList, List.nil_append, List.cons_append]
          refine Ex_iret dX9_readsKnows_49 rfl (by decide) (Or.inl rfl) ?_
          exact hfl 4 (by omega) (by omega) (by rw [hmAn_c, if_pos t3, if_pos (by have q : ¬ hmDec t.2.1 ≤ 9 := (fun q => c3 ((nI_leI (b := 9) (by omega) (by omega)).mpr q)); omega)])
      · refine Ex_iload_n 10 (i := 2) dX9_readsKnows_9 rfl rfl rfl ?_
        refine Ex_if_eq 13 21 dX9_readsKnows_10 (by decide) rfl (fun c1 => absurd c1 (fun q => absurd ((nI_eq (b := 0) (by omega) (by omega)).mp q) (by omega))) (fun c1 => ?_)
        refine Ex_aload_n 14 (i := 0) dX9_readsKnows_13 rfl rfl rfl ?_
        refine Ex_gI 17 (J m 6) dX9_readsKnows_14 fX9_154 (xMs_0 hm) rfl rfl rfl ?_
        refine Ex_iconst 18 (v := 2) dX9_readsKnows_17 (by decide) rfl ?_
        refine Ex_icmp_ne 21 110 dX9_readsKnows_18 (by decide) rfl (fun c2 => absurd c2 (fun q => q (hq2.mpr t3))) (fun c2 => ?_)
        refine Ex_aload_n 22 (i := 0) dX9_readsKnows_21 rfl rfl rfl ?_
        refine Ex_gI 25 (J m 6) dX9_readsKnows_22 fX9_154 (xMs_0 hm) rfl rfl rfl ?_
        refine Ex_iconst 26 (v := 2) dX9_readsKnows_25 (by decide) rfl ?_
        refine Ex_icmp_eq 29 35 dX9_readsKnows_26 (by decide) rfl (fun c3 => ?_) (fun c3 => absurd c3 (fun q => q (hq2.mpr t3)))
        refine Ex_aload_n 36 (i := 0) dX9_readsKnows_35 rfl rfl rfl ?_
        refine Ex_gI 39 (J m 8) dX9_readsKnows_36 fX9_151 (xMs_0 hm) rfl rfl rfl ?_
        rw [hv8]
        refine Ex_bipush 41 (v := 9) dX9_readsKnows_39 (by decide) rfl ?_
        refine Ex_icmp_le 44 50 dX9_readsKnows_41 (by decide) rfl (fun c4 => ?_) (fun c4 => ?_)
        · have h9 := (nI_leI (b := 9) (by omega) (by omega)).mp c4
          refine Ex_aload_n 51 (i := 0) dX9_readsKnows_50 rfl rfl rfl ?_
          refine Ex_getR 54 dX9_readsKnows_51 fX9_26 (xMs_0 hm) rfl (xMr_14 hm) rfl ?_
          refine Ex_iload_n 55 (i := 1) dX9_readsKnows_54 rfl rfl rfl ?_
          refine Ex_aI 56 n (J (m + 6) n) dX9_readsKnows_55 (xMs_6 hm) rfl (by omega) (by decide) rfl rfl ?_
          rw [hkn]
          refine Ex_aload_n 57 (i := 0) dX9_readsKnows_56 rfl rfl rfl ?_
          refine Ex_gI 60 (J m 8) dX9_readsKnows_57 fX9_151 (xMs_0 hm) rfl rfl rfl ?_
          rw [hv8]
          refine Ex_ishr 61 dX9_readsKnows_60 rfl ?_
          refine Ex_iconst 62 (v := 1) dX9_readsKnows_61 (by decide) rfl ?_
          refine Ex_iand 63 dX9_readsKnows_62 rfl ?_
          refine Ex_iconst 64 (v := 1) dX9_readsKnows_63 (by decide) rfl ?_
          refine Ex_icmp_ne 67 73 dX9_readsKnows_64 (by decide) rfl (fun c5 => ?_) (fun c5 => ?_)
          · refine Ex_iload_n 74 (i := 2) dX9_readsKnows_73 rfl rfl rfl ?_
            refine Ex_bipush 76 (v := 6) dX9_readsKnows_74 (by decide) rfl ?_
            refine Ex_icmp_ne 79 85 dX9_readsKnows_76 (by decide) rfl (fun c6 => ?_) (fun c6 => absurd c6 (fun q => absurd ((nI_eq (b := 6) (by omega) (by omega)).mp q) (by omega)))
            refine Ex_aload_n 86 (i := 0) dX9_readsKnows_85 rfl rfl rfl ?_
            refine Ex_getR 89 dX9_readsKnows_86 fX9_26 (xMs_0 hm) rfl (xMr_14 hm) rfl ?_
            refine Ex_iload_n 90 (i := 1) dX9_readsKnows_89 rfl rfl rfl ?_
            refine Ex_dup2 91 dX9_readsKnows_90 rfl rfl rfl ?_
            refine Ex_aI 92 n (J (m + 6) n) dX9_readsKnows_91 (xMs_6 hm) rfl (by omega) (by decide) rfl rfl ?_
            rw [hkn]
            refine Ex_iconst 93 (v := 1) dX9_readsKnows_92 (by decide) rfl ?_
            refine Ex_aload_n 94 (i := 0) dX9_readsKnows_93 rfl rfl rfl ?_
            refine Ex_gI 97 (J m 8) dX9_readsKnows_94 fX9_151 (xMs_0 hm) rfl rfl rfl ?_
            rw [hv8]
            refine Ex_ishl 98 dX9_readsKnows_97 rfl ?_
            refine Ex_ior 99 dX9_readsKnows_98 rfl ?_
            refine Ex_sI 100 n (J (m + 6)) (va_up J (m + 6) (va_up (J (m + 6)) n (kn ||| (1 <<< ((nI (hmDec t.2.1)) &&& 31))))) dX9_readsKnows_99 (xMs_6 hm) rfl (by omega) (by decide) rfl rfl rfl ?_
            refine Ex_iinc 103 (v := (nI (many + 1))) (ls' := [some (.ref m), some (.int (nI n)), some (.int (nI (many + 1)))]) dX9_readsKnows_100 rfl (xinc _) (Nat.le_of_ble_eq_true rfl) rfl rfl rfl ?_
            have hAx : hmAm (va_up J (m + 6) (va_up (J (m + 6)) n (kn ||| (1 <<< ((nI (hmDec t.2.1)) &&& 31))))) LL m T t r := hA.kept (fun k hk => by rw [va_up_ne _ _ (by omega)]) (va_up_ne _ _ (by omega)) rfl
            refine Ex_aload_n 104 (i := 0) dX9_readsKnows_103 rfl rfl rfl ?_
            refine Ex_callV (M' := MX9_nextToken) 107 [] (rest := []) dX9_readsKnows_104 lX9_200 mX9_nextToken rfl (xMs_0 hm) rfl (Nat.le_of_ble_eq_true rfl) (Nat.le_of_ble_eq_true rfl) rfl ?_
            refine mc_nxt hm hAx hc (by omega) (fun t1 r1 I1 L1 er1 gs1 gt1 hA1 => ?_)
            simp only [Option.toList, List.nil_append, List.cons_append]
            refine Ex_goto 9 dX9_readsKnows_107 (by decide) ?_
            have hbit := hmBit_n c5
            subst er1
            refine ih (many + 1) t1 r1 (kn ||| hmOne (hmDec t.2.1)) I1 L1 (by omega) ?_ (hm_s10_or h10 (hm_s10_one _ (by omega))) ((gJ.tr hmKf2.up).tr (hmKf2.nf gs1)) (gL.tr gt1) ?_ hA1
            · rw [he, hmAn_c, if_pos t3, if_neg (by omega), if_neg (by rw [hbit]; decide), if_neg (by omega)]
            · rw [gs1.1 (m + 6) (by omega), va_up_self, va_up_self]
              rfl
          · refine Ex_aload_n 68 (i := 0) dX9_readsKnows_67 rfl rfl rfl ?_
            refine Ex_iconst 69 (v := 3) dX9_readsKnows_68 (by decide) rfl ?_
            refine Ex_callV (M' := MX9_fails) 72 [.int 3] (rest := []) dX9_readsKnows_69 lX9_193 mX9_fails rfl (xMs_0 hm) rfl (Nat.le_of_ble_eq_true rfl) (Nat.le_of_ble_eq_true rfl) rfl ?_
            refine mc_fails (k := 3) hm hA ?_
            simp only [Option.toList, List.nil_append, List.cons_append]
            refine Ex_iret dX9_readsKnows_72 rfl (by decide) (Or.inl rfl) ?_
            exact hfl 3 (by omega) (by omega) (by rw [hmAn_c, if_pos t3, if_neg (by omega), if_pos (hmBit_1.mpr c5)])
        · refine Ex_aload_n 45 (i := 0) dX9_readsKnows_44 rfl rfl rfl ?_
          refine Ex_iconst 46 (v := 4) dX9_readsKnows_45 (by decide) rfl ?_
          refine Ex_callV (M' := MX9_fails) 49 [.int 4] (rest := []) dX9_readsKnows_46 lX9_193 mX9_fails rfl (xMs_0 hm) rfl (Nat.le_of_ble_eq_true rfl) (Nat.le_of_ble_eq_true rfl) rfl ?_
          refine mc_fails (k := 4) hm hA ?_
          simp only [Option.toList, List.nil_append, List.cons_append]
          refine Ex_iret dX9_readsKnows_49 rfl (by decide) (Or.inl rfl) ?_
          exact hfl 4 (by omega) (by omega) (by rw [hmAn_c, if_pos t3, if_pos (by have q : ¬ hmDec t.2.1 ≤ 9 := (fun q => c4 ((nI_leI (b := 9) (by omega) (by omega)).mpr q)); omega)])
    · by_cases hm0 : many = 0
      · refine Ex_iload_n 10 (i := 2) dX9_readsKnows_9 rfl rfl rfl ?_
        refine Ex_if_eq 13 21 dX9_readsKnows_10 (by decide) rfl (fun c1 => ?_) (fun c1 => absurd c1 (fun q => q (by rw [hm0]; rfl)))
        refine Ex_aload_n 22 (i := 0) dX9_readsKnows_21 rfl rfl rfl ?_
        refine Ex_gI 25 (J m 6) dX9_readsKnows_22 fX9_154 (xMs_0 hm) rfl rfl rfl ?_
        refine Ex_iconst 26 (v := 2) dX9_readsKnows_25 (by decide) rfl ?_
        refine Ex_icmp_eq 29 35 dX9_readsKnows_26 (by decide) rfl (fun c2 => absurd c2 (fun q => t3 (hq2.mp q))) (fun c2 => ?_)
        refine Ex_aload_n 30 (i := 0) dX9_readsKnows_29 rfl rfl rfl ?_
        refine Ex_iconst 31 (v := 1) dX9_readsKnows_30 (by decide) rfl ?_
        refine Ex_callV (M' := MX9_fails) 34 [.int 1] (rest := []) dX9_readsKnows_31 lX9_193 mX9_fails rfl (xMs_0 hm) rfl (Nat.le_of_ble_eq_true rfl) (Nat.le_of_ble_eq_true rfl) rfl ?_
        refine mc_fails (k := 1) hm hA ?_
        simp only [Option.toList, List.nil_append, List.cons_append]
        refine Ex_iret dX9_readsKnows_34 rfl (by decide) (Or.inl rfl) ?_
        exact hfl 1 (by omega) (by omega) (by rw [hmAn_c, if_neg t3, if_pos (by omega)])
      · refine Ex_iload_n 10 (i := 2) dX9_readsKnows_9 rfl rfl rfl ?_
        refine Ex_if_eq 13 21 dX9_readsKnows_10 (by decide) rfl (fun c1 => absurd c1 (fun q => absurd ((nI_eq (b := 0) (by omega) (by omega)).mp q) (by omega))) (fun c1 => ?_)
        refine Ex_aload_n 14 (i := 0) dX9_readsKnows_13 rfl rfl rfl ?_
        refine Ex_gI 17 (J m 6) dX9_readsKnows_14 fX9_154 (xMs_0 hm) rfl rfl rfl ?_
        refine Ex_iconst 18 (v := 2) dX9_readsKnows_17 (by decide) rfl ?_
        refine Ex_icmp_ne 21 110 dX9_readsKnows_18 (by decide) rfl (fun c2 => ?_) (fun c2 => absurd c2 (fun q => t3 (hq2.mp q)))
        refine Ex_iconst 111 (v := 1) dX9_readsKnows_110 (by decide) rfl ?_
        refine Ex_iret dX9_readsKnows_111 rfl (by decide) (Or.inl rfl) ?_
        exact hQ kn t r J LL (by rw [he, hmAn_c, if_neg t3, if_neg (by omega)]) gJ hkn gL hA
set_option maxHeartbeats 4000000 in
theorem mc_readsKnows {d : Nat} {sh : xSh} {R : xR} {L : xL} {I : xI} {Q : xQ} {m n : Nat} {T : List Nat} (hm : xModel sh R m) (hc : ∀ x, x ∈ T → x < 127) (hn12 : n < 12) {t : hmTok} {r : List hmTok} (hA : hmAm I L m T t r) (hF : ∀ F I' L', hmAn (t :: r) 0 0 = .inl F → 1 ≤ F → F < 20000 → hmKf2 m n I I' → hmNl m L L' → I' m 9 = nI F → Q (some (.int 0)) 0 sh R L' I') (hQ : ∀ kn t' r' I' L', hmAn (t :: r) 0 0 = .inr (kn, t' :: r') → hmKf2 m n I I' → I' (m + 6) n = kn → hmNl m L L' → hmAm I' L' m T t' r' → Q (some (.int 1)) 0 sh R L' I') : Ex (d + 2) 0 0 MX9_readsKnows 0 sh R L I 0 [some (.ref m), some (.int (nI n)), none] [] Q := by
  refine Ex_iconst 1 (v := 0) dX9_readsKnows_0 (by decide) rfl ?_
  refine Ex_istore_n 2 (i := 2) (ls' := [some (.ref m), some (.int (nI n)), some (.int 0)]) dX9_readsKnows_1 rfl (Nat.le_of_ble_eq_true rfl) rfl rfl rfl ?_
  refine Ex_aload_n 3 (i := 0) dX9_readsKnows_2 rfl rfl rfl ?_
  refine Ex_getR 6 dX9_readsKnows_3 fX9_26 (xMs_0 hm) rfl (xMr_14 hm) rfl ?_
  refine Ex_iload_n 7 (i := 1) dX9_readsKnows_6 rfl rfl rfl ?_
  refine Ex_iconst 8 (v := 0) dX9_readsKnows_7 (by decide) rfl ?_
  refine Ex_sI 9 n (I (m + 6)) (va_up I (m + 6) (va_up (I (m + 6)) n 0)) dX9_readsKnows_8 (xMs_6 hm) rfl (by omega) (by decide) rfl rfl rfl ?_
  exact mc_readsKnows_loop hm hc hn12 (ts := t :: r) hF hQ 6 0 t r 0 _ L rfl rfl ⟨0, by omega, rfl⟩ hmKf2.up hmNl.rf (by rw [va_up_self, va_up_self]) (hA.kept (fun k hk => by rw [va_up_ne _ _ (by omega)]) (va_up_ne _ _ (by omega)) rfl)
