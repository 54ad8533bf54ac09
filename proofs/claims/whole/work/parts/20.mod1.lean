set_option maxHeartbeats 4000000 in
theorem mc_within {d : Nat} {sh : xSh} {R : xR} {L : xL} {I : xI} {Q : xQ} {v lo hi : Int32} (hQ : Q (some (.int (hmB (hmWith v lo hi)))) 0 sh R L I) : Ex d 0 0 MX9_within 0 sh R L I 0 [some (.int v), some (.int lo), some (.int hi)] [] Q := by
  refine Ex_iload_n 1 (i := 0) dX9_within_0 rfl rfl rfl ?_
  refine Ex_iload_n 2 (i := 1) dX9_within_1 rfl rfl rfl ?_
  refine Ex_icmp_lt 5 14 dX9_within_2 (by decide) rfl (fun c1 => ?_) (fun c1 => ?_)
  · refine Ex_iconst 15 (v := 0) dX9_within_14 (by decide) rfl ?_
    refine Ex_iret dX9_within_15 rfl (by decide) (Or.inl rfl) ?_
    have e : hmB (hmWith v lo hi) = 0 := by
      rw [hmB_0]; simp only [hmWith, decide_eq_false_iff_not]; exact fun q => q.1 c1
    rw [← e]
    exact hQ
  · refine Ex_iload_n 6 (i := 0) dX9_within_5 rfl rfl rfl ?_
    refine Ex_iload_n 7 (i := 2) dX9_within_6 rfl rfl rfl ?_
    refine Ex_icmp_gt 10 14 dX9_within_7 (by decide) rfl (fun c2 => ?_) (fun c2 => ?_)
    · refine Ex_iconst 15 (v := 0) dX9_within_14 (by decide) rfl ?_
      refine Ex_iret dX9_within_15 rfl (by decide) (Or.inl rfl) ?_
      have e : hmB (hmWith v lo hi) = 0 := by
        rw [hmB_0]; simp only [hmWith, decide_eq_false_iff_not]; exact fun q => q.2 c2
      rw [← e]
      exact hQ
    · refine Ex_iconst 11 (v := 1) dX9_within_10 (by decide) rfl ?_
      refine Ex_goto 15 dX9_within_11 (by decide) ?_
      refine Ex_iret dX9_within_15 rfl (by decide) (Or.inl rfl) ?_
      have e : hmB (hmWith v lo hi) = 1 := by
        rw [hmB_1]; simp only [hmWith, decide_eq_true_eq]; exact ⟨c1, c2⟩
      rw [← e]
      exact hQ
set_option maxHeartbeats 4000000 in
theorem mc_bits_loop {d : Nat} {sh : xSh} {R : xR} {L : xL} {I : xI} {Q : xQ} {x : Int32} (hQ : Q (some (.int (hmCnt x))) 0 sh R L I) : ∀ n k, n + k = 10 → Ex d 0 0 MX9_bits 0 sh R L I 4 [some (.int x), some (.int (hmCntF x k)), some (.int (nI k))] [] Q := by
  intro n
  induction n with
  | zero =>
    intro k hk
    refine Ex_iload_n 5 (i := 2) dX9_bits_4 rfl rfl rfl ?_
    refine Ex_bipush 7 (v := 10) dX9_bits_5 (by decide) rfl ?_
    refine Ex_icmp_ge 10 24 dX9_bits_7 (by decide) rfl (fun c1 => ?_) (fun c1 => absurd c1 (fun q => q (nI_le (a := 10) (by omega) (by omega))))
    refine Ex_iload_n 25 (i := 1) dX9_bits_24 rfl rfl rfl ?_
    refine Ex_iret dX9_bits_25 rfl rfl (Or.inl rfl) ?_
    rw [show k = 10 by omega]
    exact hQ
  | succ n ih =>
    intro k hk
    refine Ex_iload_n 5 (i := 2) dX9_bits_4 rfl rfl rfl ?_
    refine Ex_bipush 7 (v := 10) dX9_bits_5 (by decide) rfl ?_
    refine Ex_icmp_ge 10 24 dX9_bits_7 (by decide) rfl (fun c1 => absurd c1 (nI_ge (b := 10) (by omega) (by decide))) (fun c1 => ?_)
    refine Ex_iload_n 11 (i := 1) dX9_bits_10 rfl rfl rfl ?_
    refine Ex_iload_n 12 (i := 0) dX9_bits_11 rfl rfl rfl ?_
    refine Ex_iload_n 13 (i := 2) dX9_bits_12 rfl rfl rfl ?_
    refine Ex_ishr 14 dX9_bits_13 rfl ?_
    refine Ex_iconst 15 (v := 1) dX9_bits_14 (by decide) rfl ?_
    refine Ex_iand 16 dX9_bits_15 rfl ?_
    refine Ex_iadd 17 dX9_bits_16 rfl ?_
    refine Ex_istore_n 18 (i := 1) (ls' := [some (.int x), some (.int ((hmCntF x k) + ((x >>> ((nI k) &&& 31)) &&& 1))), some (.int (nI k))]) dX9_bits_17 rfl (Nat.le_of_ble_eq_true rfl) rfl rfl rfl ?_
    refine Ex_iinc 21 (v := (nI (k + 1))) (ls' := [some (.int x), some (.int ((hmCntF x k) + ((x >>> ((nI k) &&& 31)) &&& 1))), some (.int (nI (k + 1)))]) dX9_bits_18 rfl (xinc _) (Nat.le_of_ble_eq_true rfl) rfl rfl rfl ?_
    refine Ex_goto 4 dX9_bits_21 (by decide) ?_
    exact ih (k + 1) (by omega)
set_option maxHeartbeats 4000000 in
theorem mc_bits {d : Nat} {sh : xSh} {R : xR} {L : xL} {I : xI} {Q : xQ} {x : Int32} (hQ : Q (some (.int (hmCnt x))) 0 sh R L I) : Ex d 0 0 MX9_bits 0 sh R L I 0 [some (.int x), none, none] [] Q := by
  refine Ex_iconst 1 (v := 0) dX9_bits_0 (by decide) rfl ?_
  refine Ex_istore_n 2 (i := 1) (ls' := [some (.int x), some (.int 0), none]) dX9_bits_1 rfl (Nat.le_of_ble_eq_true rfl) rfl rfl rfl ?_
  refine Ex_iconst 3 (v := 0) dX9_bits_2 (by decide) rfl ?_
  refine Ex_istore_n 4 (i := 2) (ls' := [some (.int x), some (.int 0), some (.int 0)]) dX9_bits_3 rfl (Nat.le_of_ble_eq_true rfl) rfl rfl rfl ?_
  exact mc_bits_loop hQ 10 0 rfl
set_option maxHeartbeats 4000000 in
theorem mc_isCaller {d : Nat} {sh : xSh} {R : xR} {L : xL} {I : xI} {Q : xQ} {m n : Nat} {v : Int32} (hm : xModel sh R m) (hn : I (m + 2) 0 = nI n) (hn6 : n ≤ 6) (hQ : Q (some (.int (hmB (hmCal n v)))) 0 sh R L I) : Ex d 0 0 MX9_isCaller 0 sh R L I 0 [some (.ref m), some (.int v)] [] Q := by
  refine Ex_iload_n 1 (i := 1) dX9_isCaller_0 rfl rfl rfl ?_
  refine Ex_if_lt 4 18 dX9_isCaller_1 (by decide) rfl (fun c1 => ?_) (fun c1 => ?_)
  · refine Ex_iconst 19 (v := 0) dX9_isCaller_18 (by decide) rfl ?_
    refine Ex_iret dX9_isCaller_19 rfl (by decide) (Or.inl rfl) ?_
    have e : hmB (hmCal n v) = 0 := by
      rw [hmB_0]; simp only [hmCal, decide_eq_false_iff_not]; exact fun q => absurd (hm_lt0.mp c1) (by omega)
    rw [← e]
    exact hQ
  · refine Ex_iload_n 5 (i := 1) dX9_isCaller_4 rfl rfl rfl ?_
    refine Ex_aload_n 6 (i := 0) dX9_isCaller_5 rfl rfl rfl ?_
    refine Ex_getR 9 dX9_isCaller_6 fX9_13 (xMs_0 hm) rfl (xMr_10 hm) rfl ?_
    refine Ex_iconst 10 (v := 0) dX9_isCaller_9 (by decide) rfl ?_
    refine Ex_aI 11 0 (I (m + 2) 0) dX9_isCaller_10 (xMs_2 hm) rfl (by decide) (by decide) rfl rfl ?_
    rw [hn]
    refine Ex_icmp_ge 14 18 dX9_isCaller_11 (by decide) rfl (fun c2 => ?_) (fun c2 => ?_)
    · refine Ex_iconst 19 (v := 0) dX9_isCaller_18 (by decide) rfl ?_
      refine Ex_iret dX9_isCaller_19 rfl (by decide) (Or.inl rfl) ?_
      have e : hmB (hmCal n v) = 0 := by
        rw [hmB_0]; simp only [hmCal, decide_eq_false_iff_not]; exact fun q => absurd ((hm_leN (by omega)).mp c2) (by omega)
      rw [← e]
      exact hQ
    · refine Ex_iconst 15 (v := 1) dX9_isCaller_14 (by decide) rfl ?_
      refine Ex_goto 19 dX9_isCaller_15 (by decide) ?_
      refine Ex_iret dX9_isCaller_19 rfl (by decide) (Or.inl rfl) ?_
      have e : hmB (hmCal n v) = 1 := by
        rw [hmB_1]; simp only [hmCal, decide_eq_true_eq]
        have h1 : ¬ v.toInt < 0 := fun q => c1 (hm_lt0.mpr q)
        have h2 : ¬ (n : Int) ≤ v.toInt := fun q => c2 ((hm_leN (by omega)).mpr q)
        omega
      rw [← e]
      exact hQ
set_option maxHeartbeats 4000000 in
theorem mc_placeOf_loop {d : Nat} {sh : xSh} {R : xR} {L : xL} {I : xI} {Q : xQ} {m : Nat} {H : hmH} (hm : xModel sh R m) (hS : hmMr (I (m + 28)) H) {w : Nat} (hw : w < 100) (hln : ∀ x ∈ hmLine H, x < 100) (hQ : Q (some (.int (hmPlc (hmLine H) w))) 0 sh R L I) : ∀ n i, n + i = (hmLine H).length → (∀ j, j < i → (hmLine H).getD j 0 ≠ w) → Ex d 0 0 MX9_placeOf 0 sh R L I 2 [some (.ref m), some (.int (nI w)), some (.int (nI i))] [] Q := by
  obtain ⟨s6, smin, slen, sset, stak, sline, sheld, shas, stalk⟩ := id hS
  intro n
  induction n with
  | zero =>
    intro i hi hno
    refine Ex_iload_n 3 (i := 2) dX9_placeOf_2 rfl rfl rfl ?_
    refine Ex_aload_n 4 (i := 0) dX9_placeOf_3 rfl rfl rfl ?_
    refine Ex_getR 7 dX9_placeOf_4 fX9_93 (xMs_0 hm) rfl (xMr_39 hm) rfl ?_
    refine Ex_iconst 8 (v := 1) dX9_placeOf_7 (by decide) rfl ?_
    refine Ex_aI 9 1 (I (m + 28) 1) dX9_placeOf_8 (xMs_28 hm) rfl (by decide) (by decide) rfl rfl ?_
    rw [slen]
    refine Ex_icmp_ge 12 32 dX9_placeOf_9 (by decide) rfl (fun c1 => ?_) (fun c1 => absurd c1 (fun q => q (nI_le (by omega) (by omega))))
    refine Ex_iconst 33 (v := (-1)) dX9_placeOf_32 (by decide) rfl ?_
    refine Ex_iret dX9_placeOf_33 rfl rfl (Or.inl rfl) ?_
    have hnot : w ∉ hmLine H := fun hmm => by
      obtain ⟨j, hj, he⟩ := List.getElem_of_mem hmm
      exact hno j (by omega) (by simp [hj, he])
    have e : hmPlc (hmLine H) w = -1 := by simp [hmPlc, hnot]
    rw [← e]
    exact hQ
  | succ n ih =>
    intro i hi hno
    refine Ex_iload_n 3 (i := 2) dX9_placeOf_2 rfl rfl rfl ?_
    refine Ex_aload_n 4 (i := 0) dX9_placeOf_3 rfl rfl rfl ?_
    refine Ex_getR 7 dX9_placeOf_4 fX9_93 (xMs_0 hm) rfl (xMr_39 hm) rfl ?_
    refine Ex_iconst 8 (v := 1) dX9_placeOf_7 (by decide) rfl ?_
    refine Ex_aI 9 1 (I (m + 28) 1) dX9_placeOf_8 (xMs_28 hm) rfl (by decide) (by decide) rfl rfl ?_
    rw [slen]
    refine Ex_icmp_ge 12 32 dX9_placeOf_9 (by decide) rfl (fun c1 => absurd c1 (nI_ge (by omega) (by omega))) (fun c1 => ?_)
    refine Ex_aload_n 13 (i := 0) dX9_placeOf_12 rfl rfl rfl ?_
    refine Ex_getR 16 dX9_placeOf_13 fX9_93 (xMs_0 hm) rfl (xMr_39 hm) rfl ?_
    refine Ex_iconst 17 (v := 4) dX9_placeOf_16 (by decide) rfl ?_
    refine Ex_iload_n 18 (i := 2) dX9_placeOf_17 rfl rfl rfl ?_
    refine Ex_iadd 19 dX9_placeOf_18 rfl ?_
    refine Ex_aI 20 (4 + i) (I (m + 28) (4 + i)) dX9_placeOf_19 (xMs_28 hm) (hm_ad rfl rfl) (by omega) (by decide) rfl rfl ?_
    rw [sline i (by omega)]
    refine Ex_iload_n 21 (i := 1) dX9_placeOf_20 rfl rfl rfl ?_
    refine Ex_icmp_ne 24 26 dX9_placeOf_21 (by decide) rfl (fun c2 => ?_) (fun c2 => ?_)
    · refine Ex_iinc 29 (v := (nI (i + 1))) (ls' := [some (.ref m), some (.int (nI w)), some (.int (nI (i + 1)))]) dX9_placeOf_26 rfl (xinc _) (Nat.le_of_ble_eq_true rfl) rfl rfl rfl ?_
      refine Ex_goto 2 dX9_placeOf_29 (by decide) ?_
      refine ih (i + 1) (by omega) (fun j hj => ?_)
      rcases Nat.lt_succ_iff_lt_or_eq.mp hj with h | h
      · exact hno j h
      · subst h
        exact fun q => c2 (by rw [q])
    · refine Ex_iload_n 25 (i := 2) dX9_placeOf_24 rfl rfl rfl ?_
      refine Ex_iret dX9_placeOf_25 rfl rfl (Or.inl rfl) ?_
      have hil : i < (hmLine H).length := by omega
      have hg : (hmLine H)[i] = w := by
        have h1 := (nI_eq (by have := hln _ (List.getElem_mem hil); simp [hil]; omega) (by omega)).mp c2
        simpa [hil] using h1
      have hmm : w ∈ hmLine H := hg ▸ List.getElem_mem hil
      have hix : (hmLine H).idxOf w = i := by
        have h2 : (hmLine H).idxOf w < (hmLine H).length := List.idxOf_lt_length_of_mem hmm
        have h3 : (hmLine H)[(hmLine H).idxOf w] = w := List.getElem_idxOf h2
        by_cases h4 : (hmLine H).idxOf w < i
        · exact absurd (by simp [h2, h3]) (hno _ h4)
        · by_cases h5 : i < (hmLine H).idxOf w
          · have h6 := List.not_of_lt_findIdx h5
            exact absurd hg (by simpa using h6)
          · omega
      have e : hmPlc (hmLine H) w = nI i := by simp [hmPlc, hmm, hix]
      rw [← e]
      exact hQ
set_option maxHeartbeats 4000000 in
theorem mc_placeOf {d : Nat} {sh : xSh} {R : xR} {L : xL} {I : xI} {Q : xQ} {m : Nat} {H : hmH} (hm : xModel sh R m) (hS : hmMr (I (m + 28)) H) {w : Nat} (hw : w < 100) (hln : ∀ x ∈ hmLine H, x < 100) (hQ : Q (some (.int (hmPlc (hmLine H) w))) 0 sh R L I) : Ex d 0 0 MX9_placeOf 0 sh R L I 0 [some (.ref m), some (.int (nI w)), none] [] Q := by
  refine Ex_iconst 1 (v := 0) dX9_placeOf_0 (by decide) rfl ?_
  refine Ex_istore_n 2 (i := 2) (ls' := [some (.ref m), some (.int (nI w)), some (.int 0)]) dX9_placeOf_1 rfl (Nat.le_of_ble_eq_true rfl) rfl rfl rfl ?_
  exact mc_placeOf_loop hm hS hw hln hQ (hmLine H).length 0 (by omega) (fun j hj => absurd hj (by omega))
set_option maxHeartbeats 4000000 in
theorem mc_isSettled {d : Nat} {sh : xSh} {R : xR} {L : xL} {I : xI} {Q : xQ} {m : Nat} {H : hmH} (hm : xModel sh R m) (hS : hmMr (I (m + 28)) H) {w : Nat} (hQ : Q (some (.int (hmB (hmBit (hmSet H) w)))) 0 sh R L I) : Ex d 0 0 MX9_isSettled 0 sh R L I 0 [some (.ref m), some (.int (nI w))] [] Q := by
  obtain ⟨s6, smin, slen, sset, stak, sline, sheld, shas, stalk⟩ := id hS
  refine Ex_aload_n 1 (i := 0) dX9_isSettled_0 rfl rfl rfl ?_
  refine Ex_getR 4 dX9_isSettled_1 fX9_93 (xMs_0 hm) rfl (xMr_39 hm) rfl ?_
  refine Ex_iconst 5 (v := 2) dX9_isSettled_4 (by decide) rfl ?_
  refine Ex_aI 6 2 (I (m + 28) 2) dX9_isSettled_5 (xMs_28 hm) rfl (by decide) (by decide) rfl rfl ?_
  rw [sset]
  refine Ex_iload_n 7 (i := 1) dX9_isSettled_6 rfl rfl rfl ?_
  refine Ex_ishr 8 dX9_isSettled_7 rfl ?_
  refine Ex_iconst 9 (v := 1) dX9_isSettled_8 (by decide) rfl ?_
  refine Ex_iand 10 dX9_isSettled_9 rfl ?_
  refine Ex_iconst 11 (v := 1) dX9_isSettled_10 (by decide) rfl ?_
  refine Ex_icmp_ne 14 18 dX9_isSettled_11 (by decide) rfl (fun c1 => ?_) (fun c1 => ?_)
  · refine Ex_iconst 19 (v := 0) dX9_isSettled_18 (by decide) rfl ?_
    refine Ex_iret dX9_isSettled_19 rfl (by decide) (Or.inl rfl) ?_
    have e : hmB (hmBit (hmSet H) w) = 0 := by
      rw [hmB_0]
      cases hb : hmBit (hmSet H) w with
      | false => rfl
      | true => exact absurd (hmBit_1.mp hb) c1
    rw [← e]
    exact hQ
  · refine Ex_iconst 15 (v := 1) dX9_isSettled_14 (by decide) rfl ?_
    refine Ex_goto 19 dX9_isSettled_15 (by decide) ?_
    refine Ex_iret dX9_isSettled_19 rfl (by decide) (Or.inl rfl) ?_
    have e : hmB (hmBit (hmSet H) w) = 1 := by
      rw [hmB_1, hmBit_1]
      exact c1
    rw [← e]
    exact hQ
set_option maxHeartbeats 4000000 in
theorem mc_canRing {d : Nat} {sh : xSh} {R : xR} {L : xL} {I : xI} {Q : xQ} {m : Nat} {H : hmH} (hm : xModel sh R m) (hS : hmMr (I (m + 28)) H) {w : Nat} (hw : w < 100) (hln : ∀ x ∈ hmLine H, x < 100) (hQ : Q (some (.int (hmB (hmCanRing H w)))) 0 sh R L I) : Ex (d + 1) 0 0 MX9_canRing 0 sh R L I 0 [some (.ref m), some (.int (nI w))] [] Q := by
  obtain ⟨s6, smin, slen, sset, stak, sline, sheld, shas, stalk⟩ := id hS
  refine Ex_aload_n 1 (i := 0) dX9_canRing_0 rfl rfl rfl ?_
  refine Ex_iload_n 2 (i := 1) dX9_canRing_1 rfl rfl rfl ?_
  refine Ex_callV (M' := MX9_isSettled) 5 [.int (nI w)] (rest := []) dX9_canRing_2 lX9_316 mX9_isSettled rfl (xMs_0 hm) rfl (Nat.le_of_ble_eq_true rfl) (Nat.le_of_ble_eq_true rfl) rfl ?_
  refine mc_isSettled hm hS ?_
  simp only [Option.toList, List.cons_append, List.nil_append]
  refine Ex_if_ne 8 20 dX9_canRing_5 (by decide) rfl (fun c1 => ?_) (fun c1 => ?_)
  · refine Ex_iconst 21 (v := 0) dX9_canRing_20 (by decide) rfl ?_
    refine Ex_iret dX9_canRing_21 rfl (by decide) (Or.inl rfl) ?_
    have e : hmB (hmCanRing H w) = 0 := by
      rw [hmB_0]
      cases hb : hmBit (hmSet H) w with
      | false => exact absurd (by rw [hb]; rfl) c1
      | true => simp [hmCanRing, hb]
    rw [← e]
    exact hQ
  · refine Ex_aload_n 9 (i := 0) dX9_canRing_8 rfl rfl rfl ?_
    refine Ex_iload_n 10 (i := 1) dX9_canRing_9 rfl rfl rfl ?_
    refine Ex_callV (M' := MX9_placeOf) 13 [.int (nI w)] (rest := []) dX9_canRing_10 lX9_319 mX9_placeOf rfl (xMs_0 hm) rfl (Nat.le_of_ble_eq_true rfl) (Nat.le_of_ble_eq_true rfl) rfl ?_
    refine mc_placeOf hm hS hw hln ?_
    simp only [Option.toList, List.cons_append, List.nil_append]
    refine Ex_if_ge 16 20 dX9_canRing_13 (by decide) rfl (fun c2 => ?_) (fun c2 => ?_)
    · refine Ex_iconst 21 (v := 0) dX9_canRing_20 (by decide) rfl ?_
      refine Ex_iret dX9_canRing_21 rfl (by decide) (Or.inl rfl) ?_
      have e : hmB (hmCanRing H w) = 0 := by
        rw [hmB_0]
        have h1 : w ∈ hmLine H := by
          by_cases h : w ∈ hmLine H
          · exact h
          · exact absurd ((hmPlc_lt (by omega)).mpr h) (Int32.not_lt.mpr c2)
        simp [hmCanRing, h1]
      rw [← e]
      exact hQ
    · refine Ex_iconst 17 (v := 1) dX9_canRing_16 (by decide) rfl ?_
      refine Ex_goto 21 dX9_canRing_17 (by decide) ?_
      refine Ex_iret dX9_canRing_21 rfl (by decide) (Or.inl rfl) ?_
      have e : hmB (hmCanRing H w) = 1 := by
        rw [hmB_1]
        have h1 : w ∉ hmLine H := (hmPlc_lt (by omega)).mp (Int32.not_le.mp c2)
        have h2 : hmBit (hmSet H) w = false := (hmB_0 _).mp c1
        simp [hmCanRing, h1, h2]
      rw [← e]
      exact hQ
set_option maxHeartbeats 4000000 in
theorem mc_rings {d : Nat} {sh : xSh} {R : xR} {L : xL} {I : xI} {Q : xQ} {m : Nat} {H : hmH} (hm : xModel sh R m) (hS : hmMr (I (m + 28)) H) {w : Nat} (hw : w < 6) (hl6 : (hmLine H).length < 6) (hQ : ∀ r', hmMr r' (hmCome H w) → Q none 0 sh R L (va_up I (m + 28) r')) : Ex d 0 0 MX9_rings 0 sh R L I 0 [some (.ref m), some (.int (nI w))] [] Q := by
  obtain ⟨s6, smin, slen, sset, stak, sline, sheld, shas, stalk⟩ := id hS
  refine Ex_aload_n 1 (i := 0) dX9_rings_0 rfl rfl rfl ?_
  refine Ex_getR 4 dX9_rings_1 fX9_93 (xMs_0 hm) rfl (xMr_39 hm) rfl ?_
  refine Ex_iconst 5 (v := 4) dX9_rings_4 (by decide) rfl ?_
  refine Ex_aload_n 6 (i := 0) dX9_rings_5 rfl rfl rfl ?_
  refine Ex_getR 9 dX9_rings_6 fX9_93 (xMs_0 hm) rfl (xMr_39 hm) rfl ?_
  refine Ex_iconst 10 (v := 1) dX9_rings_9 (by decide) rfl ?_
  refine Ex_aI 11 1 (I (m + 28) 1) dX9_rings_10 (xMs_28 hm) rfl (by decide) (by decide) rfl rfl ?_
  rw [slen]
  refine Ex_iadd 12 dX9_rings_11 rfl ?_
  refine Ex_iload_n 13 (i := 1) dX9_rings_12 rfl rfl rfl ?_
  refine Ex_sI 14 (4 + ((hmLine H).length)) (I (m + 28)) (va_up I (m + 28) (va_up (I (m + 28)) (4 + ((hmLine H).length)) (nI w))) dX9_rings_13 (xMs_28 hm) (hm_ad rfl rfl) (by omega) (by decide) rfl rfl rfl ?_
  refine Ex_aload_n 15 (i := 0) dX9_rings_14 rfl rfl rfl ?_
  refine Ex_getR 18 dX9_rings_15 fX9_93 (xMs_0 hm) rfl (xMr_39 hm) rfl ?_
  refine Ex_bipush 20 (v := 10) dX9_rings_18 (by decide) rfl ?_
  refine Ex_iload_n 21 (i := 1) dX9_rings_20 rfl rfl rfl ?_
  refine Ex_iadd 22 dX9_rings_21 rfl ?_
  refine Ex_iconst 23 (v := 0) dX9_rings_22 (by decide) rfl ?_
  refine Ex_sI 24 (10 + w) (va_up (I (m + 28)) (4 + ((hmLine H).length)) (nI w)) (va_up I (m + 28) (va_up (va_up (I (m + 28)) (4 + ((hmLine H).length)) (nI w)) (10 + w) 0)) dX9_rings_23 (xMs_28 hm) (hm_ad rfl rfl) (by omega) (by decide) (va_up_self _ _ _) (va_up_up _ _ _ _) rfl ?_
  refine Ex_aload_n 25 (i := 0) dX9_rings_24 rfl rfl rfl ?_
  refine Ex_getR 28 dX9_rings_25 fX9_93 (xMs_0 hm) rfl (xMr_39 hm) rfl ?_
  refine Ex_iconst 29 (v := 1) dX9_rings_28 (by decide) rfl ?_
  refine Ex_dup2 30 dX9_rings_29 rfl rfl rfl ?_
  refine Ex_aI 31 1 ((va_up (va_up (I (m + 28)) (4 + ((hmLine H).length)) (nI w)) (10 + w) 0) 1) dX9_rings_30 (xMs_28 hm) rfl (by decide) (by decide) (congrFun (va_up_self _ _ _) _) rfl ?_
  rw [va_up_ne _ _ (by omega), va_up_ne _ _ (by omega), slen]
  refine Ex_iconst 32 (v := 1) dX9_rings_31 (by decide) rfl ?_
  refine Ex_iadd 33 dX9_rings_32 rfl ?_
  refine Ex_sI 34 1 (va_up (va_up (I (m + 28)) (4 + ((hmLine H).length)) (nI w)) (10 + w) 0) (va_up I (m + 28) (va_up (va_up (va_up (I (m + 28)) (4 + ((hmLine H).length)) (nI w)) (10 + w) 0) 1 ((nI (hmLine H).length) + 1))) dX9_rings_33 (xMs_28 hm) rfl (by decide) (by decide) (va_up_self _ _ _) (va_up_up _ _ _ _) rfl ?_
  refine Ex_ret0 dX9_rings_34 rfl (Or.inl rfl) ?_
  refine hQ _ ?_
  refine ⟨by simp only [hmCome, hmLine, List.length_append, List.length_singleton] at *; omega, ?_, ?_, ?_, ?_, fun i hi => ?_, fun x hx => ?_, fun x hx => ?_, fun x hx y hy => ?_⟩
  · rw [va_up_ne _ _ (by omega), va_up_ne _ _ (by omega), va_up_ne _ _ (by omega)]; exact smin
  · rw [va_up_self, nI_1]; simp [hmCome, hmLine]
  · rw [va_up_ne _ _ (by omega), va_up_ne _ _ (by omega), va_up_ne _ _ (by omega)]; exact sset
  · rw [va_up_ne _ _ (by omega), va_up_ne _ _ (by omega), va_up_ne _ _ (by omega)]; exact stak
  · have hi2 : i < (hmLine H).length + 1 := by simpa [hmCome, hmLine] using hi
    show _ = nI ((hmLine H ++ [w]).getD i 0)
    rw [va_up_ne _ _ (by omega), va_up_ne _ _ (by omega)]
    by_cases h : i = (hmLine H).length
    · subst h
      rw [va_up_self]
      simp
    · rw [va_up_ne _ _ (by omega), sline i (by omega)]
      simp [List.getElem?_append_left (show i < (hmLine H).length by omega)]
  · show _ = nI (va_up (hmHeld H) w 0 x)
    rw [va_up_ne _ _ (by omega)]
    by_cases h : x = w
    · subst h
      rw [va_up_self, va_up_self]
      rfl
    · rw [va_up_ne _ _ (by omega), va_up_ne _ _ (by omega), va_up_ne _ _ h]
      exact sheld x hx
  · rw [va_up_ne _ _ (by omega), va_up_ne _ _ (by omega), va_up_ne _ _ (by omega)]; exact shas x hx
  · rw [va_up_ne _ _ (by omega), va_up_ne _ _ (by omega), va_up_ne _ _ (by omega)]; exact stalk x hx y hy
set_option maxHeartbeats 4000000 in
theorem mc_onLine_loop {d : Nat} {sh : xSh} {R : xR} {L : xL} {I : xI} {Q : xQ} {m : Nat} {H : hmH} (hm : xModel sh R m) (hS : hmMr (I (m + 28)) H) (hQ : Q (some (.int (hmBits (hmLine H)))) 0 sh R L I) : ∀ n i, n + i = (hmLine H).length → Ex d 0 0 MX9_onLine 0 sh R L I 4 [some (.ref m), some (.int (hmBits ((hmLine H).take i))), some (.int (nI i))] [] Q := by
  obtain ⟨s6, smin, slen, sset, stak, sline, sheld, shas, stalk⟩ := id hS
  intro n
  induction n with
  | zero =>
    intro i hi
    refine Ex_iload_n 5 (i := 2) dX9_onLine_4 rfl rfl rfl ?_
    refine Ex_aload_n 6 (i := 0) dX9_onLine_5 rfl rfl rfl ?_
    refine Ex_getR 9 dX9_onLine_6 fX9_93 (xMs_0 hm) rfl (xMr_39 hm) rfl ?_
    refine Ex_iconst 10 (v := 1) dX9_onLine_9 (by decide) rfl ?_
    refine Ex_aI 11 1 (I (m + 28) 1) dX9_onLine_10 (xMs_28 hm) rfl (by decide) (by decide) rfl rfl ?_
    rw [slen]
    refine Ex_icmp_ge 14 33 dX9_onLine_11 (by decide) rfl (fun c1 => ?_) (fun c1 => absurd c1 (fun q => q (nI_le (by omega) (by omega))))
    refine Ex_iload_n 34 (i := 1) dX9_onLine_33 rfl rfl rfl ?_
    refine Ex_iret dX9_onLine_34 rfl rfl (Or.inl rfl) ?_
    rw [List.take_of_length_le (by omega)]
    exact hQ
  | succ n ih =>
    intro i hi
    refine Ex_iload_n 5 (i := 2) dX9_onLine_4 rfl rfl rfl ?_
    refine Ex_aload_n 6 (i := 0) dX9_onLine_5 rfl rfl rfl ?_
    refine Ex_getR 9 dX9_onLine_6 fX9_93 (xMs_0 hm) rfl (xMr_39 hm) rfl ?_
    refine Ex_iconst 10 (v := 1) dX9_onLine_9 (by decide) rfl ?_
    refine Ex_aI 11 1 (I (m + 28) 1) dX9_onLine_10 (xMs_28 hm) rfl (by decide) (by decide) rfl rfl ?_
    rw [slen]
    refine Ex_icmp_ge 14 33 dX9_onLine_11 (by decide) rfl (fun c1 => absurd c1 (nI_ge (by omega) (by omega))) (fun c1 => ?_)
    refine Ex_iload_n 15 (i := 1) dX9_onLine_14 rfl rfl rfl ?_
    refine Ex_iconst 16 (v := 1) dX9_onLine_15 (by decide) rfl ?_
    refine Ex_aload_n 17 (i := 0) dX9_onLine_16 rfl rfl rfl ?_
    refine Ex_getR 20 dX9_onLine_17 fX9_93 (xMs_0 hm) rfl (xMr_39 hm) rfl ?_
    refine Ex_iconst 21 (v := 4) dX9_onLine_20 (by decide) rfl ?_
    refine Ex_iload_n 22 (i := 2) dX9_onLine_21 rfl rfl rfl ?_
    refine Ex_iadd 23 dX9_onLine_22 rfl ?_
    refine Ex_aI 24 (4 + i) (I (m + 28) (4 + i)) dX9_onLine_23 (xMs_28 hm) (hm_ad rfl rfl) (by omega) (by decide) rfl rfl ?_
    rw [sline i (by omega)]
    refine Ex_ishl 25 dX9_onLine_24 rfl ?_
    refine Ex_ior 26 dX9_onLine_25 rfl ?_
    refine Ex_istore_n 27 (i := 1) (ls' := [some (.ref m), some (.int ((hmBits ((hmLine H).take i)) ||| (1 <<< ((nI ((hmLine H).getD i 0)) &&& 31)))), some (.int (nI i))]) dX9_onLine_26 rfl (Nat.le_of_ble_eq_true rfl) rfl rfl rfl ?_
    refine Ex_iinc 30 (v := (nI (i + 1))) (ls' := [some (.ref m), some (.int ((hmBits ((hmLine H).take i)) ||| (1 <<< ((nI ((hmLine H).getD i 0)) &&& 31)))), some (.int (nI (i + 1)))]) dX9_onLine_27 rfl (xinc _) (Nat.le_of_ble_eq_true rfl) rfl rfl rfl ?_
    refine Ex_goto 4 dX9_onLine_30 (by decide) ?_
    have e : (hmBits ((hmLine H).take i) ||| (1 <<< (nI ((hmLine H).getD i 0) &&& 31))) = hmBits ((hmLine H).take (i + 1)) := by
      rw [List.take_succ_eq_append_getElem (by omega), hmBits, hmBits, List.foldl_append]
      simp [hmOne, show i < (hmLine H).length by omega]
    rw [e]
    exact ih (i + 1) (by omega)
set_option maxHeartbeats 4000000 in
theorem mc_onLine {d : Nat} {sh : xSh} {R : xR} {L : xL} {I : xI} {Q : xQ} {m : Nat} {H : hmH} (hm : xModel sh R m) (hS : hmMr (I (m + 28)) H) (hQ : Q (some (.int (hmBits (hmLine H)))) 0 sh R L I) : Ex d 0 0 MX9_onLine 0 sh R L I 0 [some (.ref m), none, none] [] Q := by
  refine Ex_iconst 1 (v := 0) dX9_onLine_0 (by decide) rfl ?_
  refine Ex_istore_n 2 (i := 1) (ls' := [some (.ref m), some (.int 0), none]) dX9_onLine_1 rfl (Nat.le_of_ble_eq_true rfl) rfl rfl rfl ?_
  refine Ex_iconst 3 (v := 0) dX9_onLine_2 (by decide) rfl ?_
  refine Ex_istore_n 4 (i := 2) (ls' := [some (.ref m), some (.int 0), some (.int 0)]) dX9_onLine_3 rfl (Nat.le_of_ble_eq_true rfl) rfl rfl rfl ?_
  exact mc_onLine_loop hm hS hQ (hmLine H).length 0 (by omega)
