set_option maxHeartbeats 4000000 in
theorem mc_ends_loop {d : Nat} {sh : xSh} {R : xR} {L : xL} {I : xI} {Q : xQ} {m : Nat} {H : hmH} (hm : xModel sh R m) (hS : hmMr (I (m + 28)) H) {w : Nat} (hw6 : w < 6) (hw : w ∈ hmLine H) (hQ : ∀ r', hmMr r' (hmLeave H w) → Q none 0 sh R L (va_up I (m + 28) r')) : ∀ (n k : Nat) (r : Nat → Int32), n + (k + 1) = (hmLine H).length → (hmLine H).idxOf w ≤ k → (∀ x, ¬ (4 ≤ x ∧ x < 10) → r x = I (m + 28) x) → (∀ j, j < k → r (4 + j) = nI (((hmLine H).erase w).getD j 0)) → (∀ j, k + 1 ≤ j → j < (hmLine H).length → r (4 + j) = nI ((hmLine H).getD j 0)) → Ex d 0 0 MX9_ends 0 sh R L (va_up I (m + 28) r) 6 [some (.ref m), some (.int (nI w)), some (.int (nI k))] [] Q := by
  obtain ⟨s6, smin, slen, sset, stak, sline, sheld, shas, stalk⟩ := id hS
  have r1 : ∀ r : Nat → Int32, (∀ x, ¬ (4 ≤ x ∧ x < 10) → r x = I (m + 28) x) → r 1 = nI (hmLine H).length := fun r h => (h 1 (by omega)).trans slen
  intro n
  induction n with
  | zero =>
    intro k r hn hp h0 h1 h2
    refine Ex_iload_n 7 (i := 2) dX9_ends_6 rfl rfl rfl ?_
    refine Ex_iconst 8 (v := 1) dX9_ends_7 (by decide) rfl ?_
    refine Ex_iadd 9 dX9_ends_8 rfl ?_
    refine Ex_aload_n 10 (i := 0) dX9_ends_9 rfl rfl rfl ?_
    refine Ex_getR 13 dX9_ends_10 fX9_93 (xMs_0 hm) rfl (xMr_39 hm) rfl ?_
    refine Ex_iconst 14 (v := 1) dX9_ends_13 (by decide) rfl ?_
    refine Ex_aI 15 1 (r 1) dX9_ends_14 (xMs_28 hm) rfl (by decide) (by decide) (congrFun (va_up_self _ _ _) _) rfl ?_
    rw [nI_1, r1 r h0]
    refine Ex_icmp_ge 18 42 dX9_ends_15 (by decide) rfl (fun c1 => ?_) (fun c1 => absurd c1 (fun q => q (nI_le (by omega) (by omega))))
    refine Ex_aload_n 43 (i := 0) dX9_ends_42 rfl rfl rfl ?_
    refine Ex_getR 46 dX9_ends_43 fX9_93 (xMs_0 hm) rfl (xMr_39 hm) rfl ?_
    refine Ex_iconst 47 (v := 1) dX9_ends_46 (by decide) rfl ?_
    refine Ex_dup2 48 dX9_ends_47 rfl rfl rfl ?_
    refine Ex_aI 49 1 (r 1) dX9_ends_48 (xMs_28 hm) rfl (by decide) (by decide) (congrFun (va_up_self _ _ _) _) rfl ?_
    rw [r1 r h0]
    refine Ex_iconst 50 (v := 1) dX9_ends_49 (by decide) rfl ?_
    refine Ex_isub 51 dX9_ends_50 rfl ?_
    refine Ex_sI 52 1 r (va_up I (m + 28) (va_up r 1 ((nI (hmLine H).length) - 1))) dX9_ends_51 (xMs_28 hm) rfl (by decide) (by decide) (va_up_self _ _ _) (va_up_up _ _ _ _) rfl ?_
    refine Ex_aload_n 53 (i := 0) dX9_ends_52 rfl rfl rfl ?_
    refine Ex_getR 56 dX9_ends_53 fX9_93 (xMs_0 hm) rfl (xMr_39 hm) rfl ?_
    refine Ex_bipush 58 (v := 10) dX9_ends_56 (by decide) rfl ?_
    refine Ex_iload_n 59 (i := 1) dX9_ends_58 rfl rfl rfl ?_
    refine Ex_iadd 60 dX9_ends_59 rfl ?_
    refine Ex_iconst 61 (v := 0) dX9_ends_60 (by decide) rfl ?_
    refine Ex_sI 62 (10 + w) (va_up r 1 ((nI (hmLine H).length) - 1)) (va_up I (m + 28) (va_up (va_up r 1 ((nI (hmLine H).length) - 1)) (10 + w) 0)) dX9_ends_61 (xMs_28 hm) (hm_ad rfl rfl) (by omega) (by decide) (va_up_self _ _ _) (va_up_up _ _ _ _) rfl ?_
    refine Ex_ret0 dX9_ends_62 rfl (Or.inl rfl) ?_
    refine hQ _ ?_
    have hle : ((hmLine H).erase w).length = (hmLine H).length - 1 := List.length_erase_of_mem hw
    have hpos : 0 < (hmLine H).length := List.length_pos_of_mem hw
    unfold hmLeave
    rw [if_pos hw]
    refine ⟨by show ((hmLine H).erase w).length ≤ 6; omega, ?_, ?_, ?_, ?_, fun i hi => ?_, fun x hx => ?_, fun x hx => ?_, fun x hx y hy => ?_⟩
    · rw [va_up_ne _ _ (by omega), va_up_ne _ _ (by omega), h0 _ (by omega)]; exact smin
    · rw [va_up_ne _ _ (by omega), va_up_self]
      show _ = nI ((hmLine H).erase w).length
      rw [hle]
      obtain ⟨q, hq⟩ : ∃ q, (hmLine H).length = q + 1 := ⟨(hmLine H).length - 1, by omega⟩
      rw [hq, nI_pred]
      rfl
    · rw [va_up_ne _ _ (by omega), va_up_ne _ _ (by omega), h0 _ (by omega)]; exact sset
    · rw [va_up_ne _ _ (by omega), va_up_ne _ _ (by omega), h0 _ (by omega)]; exact stak
    · have hi2 : i < ((hmLine H).erase w).length := hi
      rw [va_up_ne _ _ (by omega), va_up_ne _ _ (by omega)]
      exact h1 i (by omega)
    · show _ = nI (va_up (hmHeld H) w 0 x)
      by_cases h : x = w
      · subst h
        rw [va_up_self, va_up_self]
        rfl
      · rw [va_up_ne _ _ (by omega), va_up_ne _ _ (by omega), va_up_ne _ _ h, h0 _ (by omega)]
        exact sheld x hx
    · rw [va_up_ne _ _ (by omega), va_up_ne _ _ (by omega), h0 _ (by omega)]; exact shas x hx
    · rw [va_up_ne _ _ (by omega), va_up_ne _ _ (by omega), h0 _ (by omega)]; exact stalk x hx y hy
  | succ n ih =>
    intro k r hn hp h0 h1 h2
    refine Ex_iload_n 7 (i := 2) dX9_ends_6 rfl rfl rfl ?_
    refine Ex_iconst 8 (v := 1) dX9_ends_7 (by decide) rfl ?_
    refine Ex_iadd 9 dX9_ends_8 rfl ?_
    refine Ex_aload_n 10 (i := 0) dX9_ends_9 rfl rfl rfl ?_
    refine Ex_getR 13 dX9_ends_10 fX9_93 (xMs_0 hm) rfl (xMr_39 hm) rfl ?_
    refine Ex_iconst 14 (v := 1) dX9_ends_13 (by decide) rfl ?_
    refine Ex_aI 15 1 (r 1) dX9_ends_14 (xMs_28 hm) rfl (by decide) (by decide) (congrFun (va_up_self _ _ _) _) rfl ?_
    rw [nI_1, r1 r h0]
    refine Ex_icmp_ge 18 42 dX9_ends_15 (by decide) rfl (fun c1 => absurd c1 (nI_ge (by omega) (by omega))) (fun c1 => ?_)
    refine Ex_aload_n 19 (i := 0) dX9_ends_18 rfl rfl rfl ?_
    refine Ex_getR 22 dX9_ends_19 fX9_93 (xMs_0 hm) rfl (xMr_39 hm) rfl ?_
    refine Ex_iconst 23 (v := 4) dX9_ends_22 (by decide) rfl ?_
    refine Ex_iload_n 24 (i := 2) dX9_ends_23 rfl rfl rfl ?_
    refine Ex_iadd 25 dX9_ends_24 rfl ?_
    refine Ex_aload_n 26 (i := 0) dX9_ends_25 rfl rfl rfl ?_
    refine Ex_getR 29 dX9_ends_26 fX9_93 (xMs_0 hm) rfl (xMr_39 hm) rfl ?_
    refine Ex_iconst 30 (v := 4) dX9_ends_29 (by decide) rfl ?_
    refine Ex_iload_n 31 (i := 2) dX9_ends_30 rfl rfl rfl ?_
    refine Ex_iadd 32 dX9_ends_31 rfl ?_
    refine Ex_iconst 33 (v := 1) dX9_ends_32 (by decide) rfl ?_
    refine Ex_iadd 34 dX9_ends_33 rfl ?_
    refine Ex_aI 35 ((4 + k) + 1) (r ((4 + k) + 1)) dX9_ends_34 (xMs_28 hm) (hm_ad (hm_ad rfl rfl) rfl) (by omega) (by decide) (congrFun (va_up_self _ _ _) _) rfl ?_
    refine Ex_sI 36 (4 + k) r (va_up I (m + 28) (va_up r (4 + k) (r ((4 + k) + 1)))) dX9_ends_35 (xMs_28 hm) (hm_ad rfl rfl) (by omega) (by decide) (va_up_self _ _ _) (va_up_up _ _ _ _) rfl ?_
    refine Ex_iinc 39 (v := (nI (k + 1))) (ls' := [some (.ref m), some (.int (nI w)), some (.int (nI (k + 1)))]) dX9_ends_36 rfl (xinc _) (Nat.le_of_ble_eq_true rfl) rfl rfl rfl ?_
    refine Ex_goto 6 dX9_ends_39 (by decide) ?_
    refine ih (k + 1) _ (by omega) (by omega) (fun x hx => ?_) (fun j hj => ?_) (fun j hj1 hj2 => ?_)
    · rw [va_up_ne _ _ (by omega)]; exact h0 x hx
    · by_cases h : j = k
      · subst h
        have e : 4 + j + 1 = 4 + (j + 1) := by omega
        rw [va_up_self, e, h2 (j + 1) (by omega) (by omega), hm_erase_at hw (by omega), if_neg (by omega)]
      · rw [va_up_ne _ _ (by omega)]
        exact h1 j (by omega)
    · rw [va_up_ne _ _ (by omega)]
      exact h2 j (by omega) hj2
set_option maxHeartbeats 4000000 in
theorem mc_ends {d : Nat} {sh : xSh} {R : xR} {L : xL} {I : xI} {Q : xQ} {m : Nat} {H : hmH} (hm : xModel sh R m) (hS : hmMr (I (m + 28)) H) {w : Nat} (hw : w ∈ hmLine H) (hln : ∀ x ∈ hmLine H, x < 6) (hQ : ∀ r', hmMr r' (hmLeave H w) → Q none 0 sh R L (va_up I (m + 28) r')) : Ex (d + 1) 0 0 MX9_ends 0 sh R L I 0 [some (.ref m), some (.int (nI w)), none] [] Q := by
  have hw6 := hln w hw
  obtain ⟨s6, smin, slen, sset, stak, sline, sheld, shas, stalk⟩ := id hS
  have hidx := List.idxOf_lt_length_of_mem hw
  have hpl : hmPlc (hmLine H) w = nI ((hmLine H).idxOf w) := by simp [hmPlc, hw]
  refine Ex_aload_n 1 (i := 0) dX9_ends_0 rfl rfl rfl ?_
  refine Ex_iload_n 2 (i := 1) dX9_ends_1 rfl rfl rfl ?_
  refine Ex_callV (M' := MX9_placeOf) 5 [.int (nI w)] (rest := []) dX9_ends_2 lX9_319 mX9_placeOf rfl (xMs_0 hm) rfl (Nat.le_of_ble_eq_true rfl) (Nat.le_of_ble_eq_true rfl) rfl ?_
  refine mc_placeOf hm hS (by omega) (fun x hx => by have := hln x hx; omega) ?_
  simp only [Option.toList, List.cons_append, List.nil_append]
  rw [hpl]
  refine Ex_istore_n 6 (i := 2) (ls' := [some (.ref m), some (.int (nI w)), some (.int (nI ((hmLine H).idxOf w)))]) dX9_ends_5 rfl (Nat.le_of_ble_eq_true rfl) rfl rfl rfl ?_
  refine Ex_I (va_up_id I (m + 28)).symm ?_
  refine mc_ends_loop hm hS hw6 hw hQ ((hmLine H).length - ((hmLine H).idxOf w + 1)) ((hmLine H).idxOf w) _ (by omega) (Nat.le_refl _) (fun _ _ => rfl) (fun j hj => ?_) (fun j hj1 hj2 => sline j hj2)
  rw [sline j (by omega), hm_erase_at hw (by omega), if_pos hj]
set_option maxHeartbeats 4000000 in
theorem mc_swaps {d : Nat} {sh : xSh} {R : xR} {L : xL} {I : xI} {Q : xQ} {m : Nat} {H : hmH} (hm : xModel sh R m) (hS : hmMr (I (m + 28)) H) {w v : Nat} (hmw : w ∈ hmLine H) (hmv : v ∈ hmLine H) (hln : ∀ x ∈ hmLine H, x < 6) (hnd : (hmLine H).Nodup) (hQ : ∀ r', hmMr r' (hmSwap H w v) → Q none 0 sh R L (va_up I (m + 28) r')) : Ex (d + 1) 0 0 MX9_swaps 0 sh R L I 0 [some (.ref m), some (.int (nI w)), some (.int (nI v)), none, none] [] Q := by
  obtain ⟨s6, smin, slen, sset, stak, sline, sheld, shas, stalk⟩ := id hS
  have hw6 := hln w hmw
  have hv6 := hln v hmv
  have hpw : hmPlc (hmLine H) w = nI ((hmLine H).idxOf w) := by simp [hmPlc, hmw]
  have hpv : hmPlc (hmLine H) v = nI ((hmLine H).idxOf v) := by simp [hmPlc, hmv]
  have hiw := List.idxOf_lt_length_of_mem hmw
  have hiv := List.idxOf_lt_length_of_mem hmv
  refine Ex_aload_n 1 (i := 0) dX9_swaps_0 rfl rfl rfl ?_
  refine Ex_iload_n 2 (i := 1) dX9_swaps_1 rfl rfl rfl ?_
  refine Ex_callV (M' := MX9_placeOf) 5 [.int (nI w)] (rest := []) dX9_swaps_2 lX9_319 mX9_placeOf rfl (xMs_0 hm) rfl (Nat.le_of_ble_eq_true rfl) (Nat.le_of_ble_eq_true rfl) rfl ?_
  refine mc_placeOf hm hS (by omega) (fun x hx => by have := hln x hx; omega) ?_
  simp only [Option.toList, List.cons_append, List.nil_append]
  rw [hpw]
  refine Ex_istore_n 6 (i := 3) (ls' := [some (.ref m), some (.int (nI w)), some (.int (nI v)), some (.int (nI ((hmLine H).idxOf w))), none]) dX9_swaps_5 rfl (Nat.le_of_ble_eq_true rfl) rfl rfl rfl ?_
  refine Ex_aload_n 7 (i := 0) dX9_swaps_6 rfl rfl rfl ?_
  refine Ex_iload_n 8 (i := 2) dX9_swaps_7 rfl rfl rfl ?_
  refine Ex_callV (M' := MX9_placeOf) 11 [.int (nI v)] (rest := []) dX9_swaps_8 lX9_319 mX9_placeOf rfl (xMs_0 hm) rfl (Nat.le_of_ble_eq_true rfl) (Nat.le_of_ble_eq_true rfl) rfl ?_
  refine mc_placeOf hm hS (by omega) (fun x hx => by have := hln x hx; omega) ?_
  simp only [Option.toList, List.cons_append, List.nil_append]
  rw [hpv]
  refine Ex_istore 13 (ls' := [some (.ref m), some (.int (nI w)), some (.int (nI v)), some (.int (nI ((hmLine H).idxOf w))), some (.int (nI ((hmLine H).idxOf v)))]) dX9_swaps_11 (Nat.le_of_ble_eq_true rfl) rfl rfl rfl ?_
  refine Ex_aload_n 14 (i := 0) dX9_swaps_13 rfl rfl rfl ?_
  refine Ex_getR 17 dX9_swaps_14 fX9_93 (xMs_0 hm) rfl (xMr_39 hm) rfl ?_
  refine Ex_iconst 18 (v := 4) dX9_swaps_17 (by decide) rfl ?_
  refine Ex_iload_n 19 (i := 3) dX9_swaps_18 rfl rfl rfl ?_
  refine Ex_iadd 20 dX9_swaps_19 rfl ?_
  refine Ex_iload_n 21 (i := 2) dX9_swaps_20 rfl rfl rfl ?_
  refine Ex_sI 22 (4 + ((hmLine H).idxOf w)) (I (m + 28)) (va_up I (m + 28) (va_up (I (m + 28)) (4 + ((hmLine H).idxOf w)) (nI v))) dX9_swaps_21 (xMs_28 hm) (hm_ad rfl rfl) (by omega) (by decide) rfl rfl rfl ?_
  refine Ex_aload_n 23 (i := 0) dX9_swaps_22 rfl rfl rfl ?_
  refine Ex_getR 26 dX9_swaps_23 fX9_93 (xMs_0 hm) rfl (xMr_39 hm) rfl ?_
  refine Ex_iconst 27 (v := 4) dX9_swaps_26 (by decide) rfl ?_
  refine Ex_iload 29 dX9_swaps_27 rfl rfl ?_
  refine Ex_iadd 30 dX9_swaps_29 rfl ?_
  refine Ex_iload_n 31 (i := 1) dX9_swaps_30 rfl rfl rfl ?_
  refine Ex_sI 32 (4 + ((hmLine H).idxOf v)) (va_up (I (m + 28)) (4 + ((hmLine H).idxOf w)) (nI v)) (va_up I (m + 28) (va_up (va_up (I (m + 28)) (4 + ((hmLine H).idxOf w)) (nI v)) (4 + ((hmLine H).idxOf v)) (nI w))) dX9_swaps_31 (xMs_28 hm) (hm_ad rfl rfl) (by omega) (by decide) (va_up_self _ _ _) (va_up_up _ _ _ _) rfl ?_
  refine Ex_ret0 dX9_swaps_32 rfl (Or.inl rfl) ?_
  refine hQ _ ?_
  unfold hmSwap
  rw [if_pos ⟨hmw, hmv⟩]
  refine ⟨by simpa [hmLine] using s6, ?_, ?_, ?_, ?_, fun i hi => ?_, fun x hx => ?_, fun x hx => ?_, fun x hx y hy => ?_⟩
  · rw [va_up_ne _ _ (by omega), va_up_ne _ _ (by omega)]; exact smin
  · rw [va_up_ne _ _ (by omega), va_up_ne _ _ (by omega)]; simpa [hmLine] using slen
  · rw [va_up_ne _ _ (by omega), va_up_ne _ _ (by omega)]; exact sset
  · rw [va_up_ne _ _ (by omega), va_up_ne _ _ (by omega)]; exact stak
  · have hi2 : i < (hmLine H).length := by simpa [hmLine] using hi
    show _ = nI (((hmLine H).map (hmSw w v)).getD i 0)
    rw [hm_sw_at hnd hmw hmv hi2]
    by_cases e1 : i = (hmLine H).idxOf v
    · rw [if_pos e1, e1, va_up_self]
    · rw [if_neg e1, va_up_ne _ _ (by omega)]
      by_cases e2 : i = (hmLine H).idxOf w
      · rw [if_pos e2, e2, va_up_self]
      · rw [if_neg e2, va_up_ne _ _ (by omega)]
        exact sline i hi2
  · rw [va_up_ne _ _ (by omega), va_up_ne _ _ (by omega)]; exact sheld x hx
  · rw [va_up_ne _ _ (by omega), va_up_ne _ _ (by omega)]; exact shas x hx
  · rw [va_up_ne _ _ (by omega), va_up_ne _ _ (by omega)]; exact stalk x hx y hy
set_option maxHeartbeats 4000000 in
theorem mc_isHelped {d : Nat} {sh : xSh} {R : xR} {L : xL} {I : xI} {Q : xQ} {m : Nat} {H : hmH} (hm : xModel sh R m) (hS : hmMr (I (m + 28)) H) {O : hmO} {w : Nat} (hw : w < 6) (htr : I (m + 5) w = nI (hmTr O w)) (hQ : Q (some (.int (hmB (hmHelped O (hmHas H) w)))) 0 sh R L I) : Ex d 0 0 MX9_isHelped 0 sh R L I 0 [some (.ref m), some (.int (nI w))] [] Q := by
  obtain ⟨s6, smin, slen, sset, stak, sline, sheld, shas, stalk⟩ := id hS
  refine Ex_aload_n 1 (i := 0) dX9_isHelped_0 rfl rfl rfl ?_
  refine Ex_getR 4 dX9_isHelped_1 fX9_93 (xMs_0 hm) rfl (xMr_39 hm) rfl ?_
  refine Ex_bipush 6 (v := 16) dX9_isHelped_4 (by decide) rfl ?_
  refine Ex_iload_n 7 (i := 1) dX9_isHelped_6 rfl rfl rfl ?_
  refine Ex_iadd 8 dX9_isHelped_7 rfl ?_
  refine Ex_aI 9 (16 + w) (I (m + 28) (16 + w)) dX9_isHelped_8 (xMs_28 hm) (hm_ad rfl rfl) (by omega) (by decide) rfl rfl ?_
  rw [shas w (by omega)]
  refine Ex_aload_n 10 (i := 0) dX9_isHelped_9 rfl rfl rfl ?_
  refine Ex_getR 13 dX9_isHelped_10 fX9_23 (xMs_0 hm) rfl (xMr_13 hm) rfl ?_
  refine Ex_iload_n 14 (i := 1) dX9_isHelped_13 rfl rfl rfl ?_
  refine Ex_aI 15 w (I (m + 5) w) dX9_isHelped_14 (xMs_5 hm) rfl (by omega) (by decide) rfl rfl ?_
  rw [htr]
  refine Ex_ishr 16 dX9_isHelped_15 rfl ?_
  refine Ex_iconst 17 (v := 1) dX9_isHelped_16 (by decide) rfl ?_
  refine Ex_iand 18 dX9_isHelped_17 rfl ?_
  refine Ex_iconst 19 (v := 1) dX9_isHelped_18 (by decide) rfl ?_
  refine Ex_icmp_ne 22 26 dX9_isHelped_19 (by decide) rfl (fun c1 => ?_) (fun c1 => ?_)
  · refine Ex_iconst 27 (v := 0) dX9_isHelped_26 (by decide) rfl ?_
    refine Ex_iret dX9_isHelped_27 rfl (by decide) (Or.inl rfl) ?_
    have e : hmB (hmHelped O (hmHas H) w) = 0 := by
      rw [hmB_0]
      cases hb : hmHelped O (hmHas H) w with
      | false => rfl
      | true => exact absurd (hmBit_1.mp hb) c1
    rw [← e]
    exact hQ
  · refine Ex_iconst 23 (v := 1) dX9_isHelped_22 (by decide) rfl ?_
    refine Ex_goto 27 dX9_isHelped_23 (by decide) ?_
    refine Ex_iret dX9_isHelped_27 rfl (by decide) (Or.inl rfl) ?_
    have e : hmB (hmHelped O (hmHas H) w) = 1 := by
      rw [hmB_1]
      exact hmBit_1.mpr c1
    rw [← e]
    exact hQ
set_option maxHeartbeats 4000000 in
theorem mc_settles {d : Nat} {sh : xSh} {R : xR} {L : xL} {I : xI} {Q : xQ} {m : Nat} {H : hmH} (hm : xModel sh R m) (hS : hmMr (I (m + 28)) H) {w : Nat} (hw : w ∈ hmLine H) (hln : ∀ x ∈ hmLine H, x < 6) (hQ : ∀ r', hmMr r' ((hmLine H).erase w, hmHas H, va_up (hmHeld H) w 0, hmTalk H, hmSet H ||| hmOne w, hmTak H, hmMin H) → Q none 0 sh R L (va_up I (m + 28) r')) : Ex (d + 2) 0 0 MX9_settles 0 sh R L I 0 [some (.ref m), some (.int (nI w))] [] Q := by
  obtain ⟨s6, smin, slen, sset, stak, sline, sheld, shas, stalk⟩ := id hS
  have hw6 := hln w hw
  refine Ex_aload_n 1 (i := 0) dX9_settles_0 rfl rfl rfl ?_
  refine Ex_getR 4 dX9_settles_1 fX9_93 (xMs_0 hm) rfl (xMr_39 hm) rfl ?_
  refine Ex_iconst 5 (v := 2) dX9_settles_4 (by decide) rfl ?_
  refine Ex_dup2 6 dX9_settles_5 rfl rfl rfl ?_
  refine Ex_aI 7 2 (I (m + 28) 2) dX9_settles_6 (xMs_28 hm) rfl (by decide) (by decide) rfl rfl ?_
  rw [sset]
  refine Ex_iconst 8 (v := 1) dX9_settles_7 (by decide) rfl ?_
  refine Ex_iload_n 9 (i := 1) dX9_settles_8 rfl rfl rfl ?_
  refine Ex_ishl 10 dX9_settles_9 rfl ?_
  refine Ex_ior 11 dX9_settles_10 rfl ?_
  refine Ex_sI 12 2 (I (m + 28)) (va_up I (m + 28) (va_up (I (m + 28)) 2 ((hmSet H) ||| (1 <<< ((nI w) &&& 31))))) dX9_settles_11 (xMs_28 hm) rfl (by decide) (by decide) rfl rfl rfl ?_
  change Ex _ _ _ _ _ _ _ _ (va_up I (m + 28) (va_up (I (m + 28)) 2 (hmSet H ||| hmOne w))) _ _ _ _
  refine Ex_aload_n 13 (i := 0) dX9_settles_12 rfl rfl rfl ?_
  refine Ex_iload_n 14 (i := 1) dX9_settles_13 rfl rfl rfl ?_
  refine Ex_callV (M' := MX9_ends) 17 [.int (nI w)] (rest := []) dX9_settles_14 lX9_335 mX9_ends rfl (xMs_0 hm) rfl (Nat.le_of_ble_eq_true rfl) (Nat.le_of_ble_eq_true rfl) rfl ?_
  have hS1 : hmMr (va_up (I (m + 28)) 2 (hmSet H ||| hmOne w)) (hmLine H, hmHas H, hmHeld H, hmTalk H, hmSet H ||| hmOne w, hmTak H, hmMin H) := by
    refine ⟨s6, ?_, ?_, rfl, ?_, fun i hi => ?_, fun x hx => ?_, fun x hx => ?_, fun x hx y hy => ?_⟩
    · exact smin
    · exact slen
    · exact stak
    · rw [va_up_ne _ _ (by omega)]; exact sline i hi
    · rw [va_up_ne _ _ (by omega)]; exact sheld x hx
    · rw [va_up_ne _ _ (by omega)]; exact shas x hx
    · rw [va_up_ne _ _ (by omega)]; exact stalk x hx y hy
  refine mc_ends (H := (hmLine H, hmHas H, hmHeld H, hmTalk H, hmSet H ||| hmOne w, hmTak H, hmMin H)) (I := va_up I (m + 28) (va_up (I (m + 28)) 2 (hmSet H ||| hmOne w))) hm (by rw [va_up_self]; exact hS1) hw hln (fun r' hr' => ?_)
  simp only [Option.toList, List.nil_append]
  refine Ex_ret0 dX9_settles_17 rfl (Or.inl rfl) ?_
  rw [va_up_up]
  refine hQ r' ?_
  have e : hmLeave (hmLine H, hmHas H, hmHeld H, hmTalk H, hmSet H ||| hmOne w, hmTak H, hmMin H) w = ((hmLine H).erase w, hmHas H, va_up (hmHeld H) w 0, hmTalk H, hmSet H ||| hmOne w, hmTak H, hmMin H) := by
    unfold hmLeave
    exact if_pos hw
  rw [e] at hr'
  exact hr'
theorem hm_cpy_s {f g : Nat → Int32} {a b k : Nat} : va_up (va_cpy f g a b k) (b + k) (f (a + k)) = va_cpy f g a b (k + 1) := by
  funext j
  by_cases h : j = b + k
  · subst h
    rw [va_up_self, pk_cpy_in (by omega) (by omega)]
    congr 1
    omega
  · rw [va_up_ne _ _ h]
    by_cases h2 : b ≤ j ∧ j < b + k
    · rw [pk_cpy_in h2.1 h2.2, pk_cpy_in h2.1 (by omega)]
    · rw [pk_cpy_out (by omega), pk_cpy_out (by omega)]
theorem hm_cpy_0 {f g : Nat → Int32} {a b : Nat} : va_cpy f g a b 0 = g := by
  funext j
  exact pk_cpy_out (by omega)
set_option maxHeartbeats 4000000 in
theorem mc_copies_loop {d : Nat} {sh : xSh} {R : xR} {L : xL} {I : xI} {Q : xQ} {p q a b np nq : Nat} (hp : sh p = some (.inr (.int, np))) (hq : sh q = some (.inr (.int, nq))) (hpq : p ≠ q) (ha : a + 58 ≤ np) (hb : b + 58 ≤ nq) (hnp : np < 100000) (hnq : nq < 100000) (hQ : Q none 0 sh R L (va_up I q (va_cpy (I p) (I q) a b 58))) : ∀ n k, n + k = 58 → Ex d 0 0 MX9_copies 0 sh R L (va_up I q (va_cpy (I p) (I q) a b k)) 3 [some (.ref p), some (.int (nI a)), some (.ref q), some (.int (nI b)), some (.int (nI k))] [] Q := by
  intro n
  induction n with
  | zero =>
    intro k hk
    refine Ex_iload 5 dX9_copies_3 rfl rfl ?_
    refine Ex_bipush 7 (v := 58) dX9_copies_5 (by decide) rfl ?_
    refine Ex_icmp_ge 10 28 dX9_copies_7 (by decide) rfl (fun c1 => ?_) (fun c1 => absurd c1 (fun z => z (nI_le (a := 58) (by omega) (by omega))))
    refine Ex_ret0 dX9_copies_28 rfl (Or.inl rfl) ?_
    rw [show k = 58 by omega]
    exact hQ
  | succ n ih =>
    intro k hk
    refine Ex_iload 5 dX9_copies_3 rfl rfl ?_
    refine Ex_bipush 7 (v := 58) dX9_copies_5 (by decide) rfl ?_
    refine Ex_icmp_ge 10 28 dX9_copies_7 (by decide) rfl (fun c1 => absurd c1 (nI_ge (b := 58) (by omega) (by decide))) (fun c1 => ?_)
    refine Ex_aload_n 11 (i := 2) dX9_copies_10 rfl rfl rfl ?_
    refine Ex_iload_n 12 (i := 3) dX9_copies_11 rfl rfl rfl ?_
    refine Ex_iload 14 dX9_copies_12 rfl rfl ?_
    refine Ex_iadd 15 dX9_copies_14 rfl ?_
    refine Ex_aload_n 16 (i := 0) dX9_copies_15 rfl rfl rfl ?_
    refine Ex_iload_n 17 (i := 1) dX9_copies_16 rfl rfl rfl ?_
    refine Ex_iload 19 dX9_copies_17 rfl rfl ?_
    refine Ex_iadd 20 dX9_copies_19 rfl ?_
    refine Ex_aI 21 (a + k) (I p (a + k)) dX9_copies_20 hp (hm_ad rfl rfl) (by omega) (by omega) (congrFun (va_up_ne _ _ (by omega)) _) rfl ?_
    refine Ex_sI 22 (b + k) (va_cpy (I p) (I q) a b k) (va_up I q (va_up (va_cpy (I p) (I q) a b k) (b + k) (I p (a + k)))) dX9_copies_21 hq (hm_ad rfl rfl) (by omega) (by omega) (va_up_self _ _ _) (va_up_up _ _ _ _) rfl ?_
    refine Ex_iinc 25 (v := (nI (k + 1))) (ls' := [some (.ref p), some (.int (nI a)), some (.ref q), some (.int (nI b)), some (.int (nI (k + 1)))]) dX9_copies_22 rfl (xinc _) (Nat.le_of_ble_eq_true rfl) rfl rfl rfl ?_
    refine Ex_goto 3 dX9_copies_25 (by decide) ?_
    rw [hm_cpy_s]
    exact ih (k + 1) (by omega)
set_option maxHeartbeats 4000000 in
theorem mc_copies {d : Nat} {sh : xSh} {R : xR} {L : xL} {I : xI} {Q : xQ} {p q a b np nq : Nat} (hp : sh p = some (.inr (.int, np))) (hq : sh q = some (.inr (.int, nq))) (hpq : p ≠ q) (ha : a + 58 ≤ np) (hb : b + 58 ≤ nq) (hnp : np < 100000) (hnq : nq < 100000) (hQ : Q none 0 sh R L (va_up I q (va_cpy (I p) (I q) a b 58))) : Ex d 0 0 MX9_copies 0 sh R L I 0 [some (.ref p), some (.int (nI a)), some (.ref q), some (.int (nI b)), none] [] Q := by
  refine Ex_iconst 1 (v := 0) dX9_copies_0 (by decide) rfl ?_
  refine Ex_istore 3 (ls' := [some (.ref p), some (.int (nI a)), some (.ref q), some (.int (nI b)), some (.int 0)]) dX9_copies_1 (Nat.le_of_ble_eq_true rfl) rfl rfl rfl ?_
  have h0 := mc_copies_loop (d := d) hp hq hpq ha hb hnp hnq hQ 58 0 rfl
  rw [hm_cpy_0, va_up_id] at h0
  exact h0
