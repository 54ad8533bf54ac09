set_option maxHeartbeats 4000000 in
theorem c_placeOf_loop {d : Nat} {sh : xSh} {R : xR} {L : xL} {I : xI} {Q : xQ} {a w : Nat} {H : hmH} (hh : xHall sh R a) (hH : hmR I a H) (hw : w < 100) (hln : ∀ x ∈ hmLine H, x < 100) (hQ : Q (some (.int (hmPlc (hmLine H) w))) 0 sh R L I) : ∀ n i, n + i = (hmLine H).length → (∀ j, j < i → (hmLine H).getD j 0 ≠ w) → Ex d 0 0 MX1_placeOf 0 sh R L I 2 [some (.ref a), some (.int (nI w)), some (.int (nI i))] [] Q := by
  obtain ⟨h6, hlen, hset, htak, hmin, hline, hhas, hheld, htalk⟩ := id hH
  intro n
  induction n with
  | zero =>
    intro i hi hno
    refine Ex_iload_n 3 (i := 2) dX1_placeOf_2 rfl rfl rfl ?_
    refine Ex_aload_n 4 (i := 0) dX1_placeOf_3 rfl rfl rfl ?_
    refine Ex_gI 7 (I a 4) dX1_placeOf_4 fX1_33 hh.1 rfl rfl rfl ?_
    rw [hlen]
    refine Ex_icmp_ge 10 28 dX1_placeOf_7 (by decide) rfl (fun c1 => ?_) (fun c1 => absurd c1 (fun q => q (nI_le (by omega) (by omega))))
    refine Ex_iconst 29 (v := (-1)) dX1_placeOf_28 (by decide) rfl ?_
    refine Ex_iret dX1_placeOf_29 rfl rfl (Or.inl rfl) ?_
    have hnot : w ∉ hmLine H := fun hm => by
      obtain ⟨j, hj, he⟩ := List.getElem_of_mem hm
      exact hno j (by omega) (by simp [hj, he])
    have e : hmPlc (hmLine H) w = -1 := by simp [hmPlc, hnot]
    rw [← e]
    exact hQ
  | succ n ih =>
    intro i hi hno
    refine Ex_iload_n 3 (i := 2) dX1_placeOf_2 rfl rfl rfl ?_
    refine Ex_aload_n 4 (i := 0) dX1_placeOf_3 rfl rfl rfl ?_
    refine Ex_gI 7 (I a 4) dX1_placeOf_4 fX1_33 hh.1 rfl rfl rfl ?_
    rw [hlen]
    refine Ex_icmp_ge 10 28 dX1_placeOf_7 (by decide) rfl (fun c1 => absurd c1 (nI_ge (by omega) (by omega))) (fun c1 => ?_)
    refine Ex_aload_n 11 (i := 0) dX1_placeOf_10 rfl rfl rfl ?_
    refine Ex_getR 14 dX1_placeOf_11 fX1_18 hh.1 rfl hh.2.2.2.2.2.2.2.1 rfl ?_
    refine Ex_iload_n 15 (i := 2) dX1_placeOf_14 rfl rfl rfl ?_
    refine Ex_aI 16 i (I (a + 3) i) dX1_placeOf_15 hh.2.2.2.1 rfl (by omega) (by decide) rfl rfl ?_
    refine Ex_iload_n 17 (i := 1) dX1_placeOf_16 rfl rfl rfl ?_
    rw [hline i (by omega)]
    refine Ex_icmp_ne 20 22 dX1_placeOf_17 (by decide) rfl (fun c2 => ?_) (fun c2 => ?_)
    · refine Ex_iinc 25 (v := (nI (i + 1))) (ls' := [some (.ref a), some (.int (nI w)), some (.int (nI (i + 1)))]) dX1_placeOf_22 rfl (xinc _) (Nat.le_of_ble_eq_true rfl) rfl rfl rfl ?_
      refine Ex_goto 2 dX1_placeOf_25 (by decide) ?_
      refine ih (i + 1) (by omega) (fun j hj => ?_)
      rcases Nat.lt_succ_iff_lt_or_eq.mp hj with h | h
      · exact hno j h
      · subst h
        exact fun q => c2 (by rw [q])
    · refine Ex_iload_n 21 (i := 2) dX1_placeOf_20 rfl rfl rfl ?_
      refine Ex_iret dX1_placeOf_21 rfl rfl (Or.inl rfl) ?_
      have hil : i < (hmLine H).length := by omega
      have hg : (hmLine H)[i] = w := by
        have h1 := (nI_eq (by have := hln _ (List.getElem_mem hil); simp [hil]; omega) (by omega)).mp c2
        simpa [hil] using h1
      have hm : w ∈ hmLine H := hg ▸ List.getElem_mem hil
      have hix : (hmLine H).idxOf w = i := by
        have h2 : (hmLine H).idxOf w < (hmLine H).length := List.idxOf_lt_length_of_mem hm
        have h3 : (hmLine H)[(hmLine H).idxOf w] = w := List.getElem_idxOf h2
        by_cases h4 : (hmLine H).idxOf w < i
        · exact absurd (by simp [h2, h3]) (hno _ h4)
        · by_cases h5 : i < (hmLine H).idxOf w
          · have h6 := List.not_of_lt_findIdx h5
            exact absurd hg (by simpa using h6)
          · omega
      have e : hmPlc (hmLine H) w = nI i := by simp [hmPlc, hm, hix]
      rw [← e]
      exact hQ
set_option maxHeartbeats 4000000 in
theorem c_placeOf {d : Nat} {sh : xSh} {R : xR} {L : xL} {I : xI} {Q : xQ} {a w : Nat} {H : hmH} (hh : xHall sh R a) (hH : hmR I a H) (hw : w < 100) (hln : ∀ x ∈ hmLine H, x < 100) (hQ : Q (some (.int (hmPlc (hmLine H) w))) 0 sh R L I) : Ex d 0 0 MX1_placeOf 0 sh R L I 0 [some (.ref a), some (.int (nI w)), none] [] Q := by
  refine Ex_iconst 1 (v := 0) dX1_placeOf_0 (by decide) rfl ?_
  refine Ex_istore_n 2 (i := 2) (ls' := [some (.ref a), some (.int (nI w)), some (.int 0)]) dX1_placeOf_1 rfl (Nat.le_of_ble_eq_true rfl) rfl rfl rfl ?_
  exact c_placeOf_loop hh hH hw hln hQ (hmLine H).length 0 (by omega) (fun j hj => absurd hj (by omega))
set_option maxHeartbeats 4000000 in
theorem c_isSettled {d : Nat} {sh : xSh} {R : xR} {L : xL} {I : xI} {Q : xQ} {a w : Nat} {H : hmH} (hh : xHall sh R a) (hset : I a 5 = hmSet H) (hQ : Q (some (.int (hmB (hmBit (hmSet H) w)))) 0 sh R L I) : Ex d 0 0 MX1_isSettled 0 sh R L I 0 [some (.ref a), some (.int (nI w))] [] Q := by
  refine Ex_aload_n 1 (i := 0) dX1_isSettled_0 rfl rfl rfl ?_
  refine Ex_gI 4 (I a 5) dX1_isSettled_1 fX1_36 hh.1 rfl rfl rfl ?_
  rw [hset]
  refine Ex_iload_n 5 (i := 1) dX1_isSettled_4 rfl rfl rfl ?_
  refine Ex_ishr 6 dX1_isSettled_5 rfl ?_
  refine Ex_iconst 7 (v := 1) dX1_isSettled_6 (by decide) rfl ?_
  refine Ex_iand 8 dX1_isSettled_7 rfl ?_
  refine Ex_iconst 9 (v := 1) dX1_isSettled_8 (by decide) rfl ?_
  refine Ex_icmp_ne 12 16 dX1_isSettled_9 (by decide) rfl (fun c1 => ?_) (fun c1 => ?_)
  · refine Ex_iconst 17 (v := 0) dX1_isSettled_16 (by decide) rfl ?_
    refine Ex_iret dX1_isSettled_17 rfl (by decide) (Or.inl rfl) ?_
    have e : hmB (hmBit (hmSet H) w) = 0 := by
      rw [hmB_0]
      cases hb : hmBit (hmSet H) w with
      | false => rfl
      | true => exact absurd (hmBit_1.mp hb) c1
    rw [← e]
    exact hQ
  · refine Ex_iconst 13 (v := 1) dX1_isSettled_12 (by decide) rfl ?_
    refine Ex_goto 17 dX1_isSettled_13 (by decide) ?_
    refine Ex_iret dX1_isSettled_17 rfl (by decide) (Or.inl rfl) ?_
    have e : hmB (hmBit (hmSet H) w) = 1 := by
      rw [hmB_1, hmBit_1]
      exact c1
    rw [← e]
    exact hQ
set_option maxHeartbeats 4000000 in
theorem c_lineBits_loop {d : Nat} {sh : xSh} {R : xR} {L : xL} {I : xI} {Q : xQ} {a : Nat} {H : hmH} (hh : xHall sh R a) (hH : hmR I a H) (hQ : Q (some (.int (hmBits (hmLine H)))) 0 sh R L I) : ∀ n i, n + i = (hmLine H).length → Ex d 0 0 MX1_lineBits 0 sh R L I 4 [some (.ref a), some (.int (hmBits ((hmLine H).take i))), some (.int (nI i))] [] Q := by
  obtain ⟨h6, hlen, hset, htak, hmin, hline, hhas, hheld, htalk⟩ := id hH
  intro n
  induction n with
  | zero =>
    intro i hi
    refine Ex_iload_n 5 (i := 2) dX1_lineBits_4 rfl rfl rfl ?_
    refine Ex_aload_n 6 (i := 0) dX1_lineBits_5 rfl rfl rfl ?_
    refine Ex_gI 9 (I a 4) dX1_lineBits_6 fX1_33 hh.1 rfl rfl rfl ?_
    rw [hlen]
    refine Ex_icmp_ge 12 29 dX1_lineBits_9 (by decide) rfl (fun c1 => ?_) (fun c1 => absurd c1 (fun q => q (nI_le (by omega) (by omega))))
    refine Ex_iload_n 30 (i := 1) dX1_lineBits_29 rfl rfl rfl ?_
    refine Ex_iret dX1_lineBits_30 rfl rfl (Or.inl rfl) ?_
    rw [List.take_of_length_le (by omega)]
    exact hQ
  | succ n ih =>
    intro i hi
    refine Ex_iload_n 5 (i := 2) dX1_lineBits_4 rfl rfl rfl ?_
    refine Ex_aload_n 6 (i := 0) dX1_lineBits_5 rfl rfl rfl ?_
    refine Ex_gI 9 (I a 4) dX1_lineBits_6 fX1_33 hh.1 rfl rfl rfl ?_
    rw [hlen]
    refine Ex_icmp_ge 12 29 dX1_lineBits_9 (by decide) rfl (fun c1 => absurd c1 (nI_ge (by omega) (by omega))) (fun c1 => ?_)
    refine Ex_iload_n 13 (i := 1) dX1_lineBits_12 rfl rfl rfl ?_
    refine Ex_iconst 14 (v := 1) dX1_lineBits_13 (by decide) rfl ?_
    refine Ex_aload_n 15 (i := 0) dX1_lineBits_14 rfl rfl rfl ?_
    refine Ex_getR 18 dX1_lineBits_15 fX1_18 hh.1 rfl hh.2.2.2.2.2.2.2.1 rfl ?_
    refine Ex_iload_n 19 (i := 2) dX1_lineBits_18 rfl rfl rfl ?_
    refine Ex_aI 20 i (I (a + 3) i) dX1_lineBits_19 hh.2.2.2.1 rfl (by omega) (by decide) rfl rfl ?_
    rw [hline i (by omega)]
    refine Ex_ishl 21 dX1_lineBits_20 rfl ?_
    refine Ex_ior 22 dX1_lineBits_21 rfl ?_
    refine Ex_istore_n 23 (i := 1) (ls' := [some (.ref a), some (.int ((hmBits ((hmLine H).take i)) ||| (1 <<< ((nI ((hmLine H).getD i 0)) &&& 31)))), some (.int (nI i))]) dX1_lineBits_22 rfl (Nat.le_of_ble_eq_true rfl) rfl rfl rfl ?_
    refine Ex_iinc 26 (v := (nI (i + 1))) (ls' := [some (.ref a), some (.int ((hmBits ((hmLine H).take i)) ||| (1 <<< ((nI ((hmLine H).getD i 0)) &&& 31)))), some (.int (nI (i + 1)))]) dX1_lineBits_23 rfl (xinc _) (Nat.le_of_ble_eq_true rfl) rfl rfl rfl ?_
    refine Ex_goto 4 dX1_lineBits_26 (by decide) ?_
    have e : (hmBits ((hmLine H).take i) ||| (1 <<< (nI ((hmLine H).getD i 0) &&& 31))) = hmBits ((hmLine H).take (i + 1)) := by
      rw [List.take_succ_eq_append_getElem (by omega), hmBits, hmBits, List.foldl_append]
      simp [hmOne, show i < (hmLine H).length by omega]
    rw [e]
    exact ih (i + 1) (by omega)
set_option maxHeartbeats 4000000 in
theorem c_lineBits {d : Nat} {sh : xSh} {R : xR} {L : xL} {I : xI} {Q : xQ} {a : Nat} {H : hmH} (hh : xHall sh R a) (hH : hmR I a H) (hQ : Q (some (.int (hmBits (hmLine H)))) 0 sh R L I) : Ex d 0 0 MX1_lineBits 0 sh R L I 0 [some (.ref a), none, none] [] Q := by
  refine Ex_iconst 1 (v := 0) dX1_lineBits_0 (by decide) rfl ?_
  refine Ex_istore_n 2 (i := 1) (ls' := [some (.ref a), some (.int 0), none]) dX1_lineBits_1 rfl (Nat.le_of_ble_eq_true rfl) rfl rfl rfl ?_
  refine Ex_iconst 3 (v := 0) dX1_lineBits_2 (by decide) rfl ?_
  refine Ex_istore_n 4 (i := 2) (ls' := [some (.ref a), some (.int 0), some (.int 0)]) dX1_lineBits_3 rfl (Nat.le_of_ble_eq_true rfl) rfl rfl rfl ?_
  exact c_lineBits_loop hh hH hQ (hmLine H).length 0 (by omega)
def hmCanRing (H : hmH) (w : Nat) : Bool := !hmBit (hmSet H) w && !(hmLine H).contains w
set_option maxHeartbeats 4000000 in
theorem c_canRing {d : Nat} {sh : xSh} {R : xR} {L : xL} {I : xI} {Q : xQ} {a w : Nat} {H : hmH} (hh : xHall sh R a) (hH : hmR I a H) (hw : w < 100) (hln : ∀ x ∈ hmLine H, x < 100) (hQ : Q (some (.int (hmB (hmCanRing H w)))) 0 sh R L I) : Ex (d + 1) 0 0 MX1_canRing 0 sh R L I 0 [some (.ref a), some (.int (nI w))] [] Q := by
  obtain ⟨h6, hlen, hset, htak, hmin, hline, hhas, hheld, htalk⟩ := id hH
  refine Ex_aload_n 1 (i := 0) dX1_canRing_0 rfl rfl rfl ?_
  refine Ex_iload_n 2 (i := 1) dX1_canRing_1 rfl rfl rfl ?_
  refine Ex_callV (M' := MX1_isSettled) 5 [.int (nI w)] (rest := []) dX1_canRing_2 lX1_57 mX1_isSettled rfl hh.1 rfl (Nat.le_of_ble_eq_true rfl) (Nat.le_of_ble_eq_true rfl) rfl ?_
  refine c_isSettled hh hset ?_
  simp only [Option.toList, List.cons_append, List.nil_append]
  refine Ex_if_ne 8 21 dX1_canRing_5 (by decide) rfl (fun c1 => ?_) (fun c1 => ?_)
  · refine Ex_iconst 22 (v := 0) dX1_canRing_21 (by decide) rfl ?_
    refine Ex_iret dX1_canRing_22 rfl (by decide) (Or.inl rfl) ?_
    have e : hmB (hmCanRing H w) = 0 := by
      rw [hmB_0]
      cases hb : hmBit (hmSet H) w with
      | false => exact absurd (by rw [hb]; rfl) c1
      | true => simp [hmCanRing, hb]
    rw [← e]
    exact hQ
  · refine Ex_aload_n 9 (i := 0) dX1_canRing_8 rfl rfl rfl ?_
    refine Ex_iload_n 10 (i := 1) dX1_canRing_9 rfl rfl rfl ?_
    refine Ex_callV (M' := MX1_placeOf) 13 [.int (nI w)] (rest := []) dX1_canRing_10 lX1_61 mX1_placeOf rfl hh.1 rfl (Nat.le_of_ble_eq_true rfl) (Nat.le_of_ble_eq_true rfl) rfl ?_
    refine c_placeOf hh hH hw hln ?_
    simp only [Option.toList, List.cons_append, List.nil_append]
    refine Ex_iconst 14 (v := (-1)) dX1_canRing_13 (by decide) rfl ?_
    refine Ex_icmp_ne 17 21 dX1_canRing_14 (by decide) rfl (fun c2 => ?_) (fun c2 => ?_)
    · refine Ex_iconst 22 (v := 0) dX1_canRing_21 (by decide) rfl ?_
      refine Ex_iret dX1_canRing_22 rfl (by decide) (Or.inl rfl) ?_
      have e : hmB (hmCanRing H w) = 0 := by
        rw [hmB_0]
        have h1 : w ∈ hmLine H := by
          by_cases h : w ∈ hmLine H
          · exact h
          · exact absurd ((hmPlc_ne (by omega)).mpr h) c2
        simp [hmCanRing, h1]
      rw [← e]
      exact hQ
    · refine Ex_iconst 18 (v := 1) dX1_canRing_17 (by decide) rfl ?_
      refine Ex_goto 22 dX1_canRing_18 (by decide) ?_
      refine Ex_iret dX1_canRing_22 rfl (by decide) (Or.inl rfl) ?_
      have e : hmB (hmCanRing H w) = 1 := by
        rw [hmB_1]
        have h1 : w ∉ hmLine H := (hmPlc_ne (by omega)).mp c2
        have h2 : hmBit (hmSet H) w = false := (hmB_0 _).mp c1
        simp [hmCanRing, h1, h2]
      rw [← e]
      exact hQ
set_option maxHeartbeats 4000000 in
theorem c_comeToEnd {d : Nat} {sh : xSh} {R : xR} {L : xL} {I : xI} {Q : xQ} {a w : Nat} {H : hmH} (hh : xHall sh R a) (hH : hmR I a H) (hw : w < 6) (hl6 : (hmLine H).length < 6) (hQ : ∀ I', hmFr (hmIn a 5) I I' → hmR I' a (hmCome H w) → Q none 0 sh R L I') : Ex d 0 0 MX1_comeToEnd 0 sh R L I 0 [some (.ref a), some (.int (nI w))] [] Q := by
  obtain ⟨h6, hlen, hset, htak, hmin, hline, hhas, hheld, htalk⟩ := id hH
  refine Ex_aload_n 1 (i := 0) dX1_comeToEnd_0 rfl rfl rfl ?_
  refine Ex_gI 4 (I a 4) dX1_comeToEnd_1 fX1_33 hh.1 rfl rfl rfl ?_
  rw [hlen]
  refine Ex_bipush 6 (v := 6) dX1_comeToEnd_4 (by decide) rfl ?_
  refine Ex_icmp_ge 9 36 dX1_comeToEnd_6 (by decide) rfl (fun c1 => absurd c1 (nI_ge (a := (hmLine H).length) (b := 6) (by omega) (by decide))) (fun c1 => ?_)
  refine Ex_aload_n 10 (i := 0) dX1_comeToEnd_9 rfl rfl rfl ?_
  refine Ex_getR 13 dX1_comeToEnd_10 fX1_18 hh.1 rfl hh.2.2.2.2.2.2.2.1 rfl ?_
  refine Ex_aload_n 14 (i := 0) dX1_comeToEnd_13 rfl rfl rfl ?_
  refine Ex_gI 17 (I a 4) dX1_comeToEnd_14 fX1_33 hh.1 rfl rfl rfl ?_
  refine Ex_iload_n 18 (i := 1) dX1_comeToEnd_17 rfl rfl rfl ?_
  rw [hlen]
  refine Ex_sI 19 ((hmLine H).length) (I (a + 3)) (va_up I (a + 3) (va_up (I (a + 3)) ((hmLine H).length) (nI w))) dX1_comeToEnd_18 hh.2.2.2.1 rfl (by omega) (by decide) rfl rfl rfl ?_
  refine Ex_aload_n 20 (i := 0) dX1_comeToEnd_19 rfl rfl rfl ?_
  refine Ex_dup 21 dX1_comeToEnd_20 rfl rfl ?_
  refine Ex_gI 24 (I a 4) dX1_comeToEnd_21 fX1_33 hh.1 rfl (congrFun (va_up_ne _ _ (by omega)) _) rfl ?_
  rw [hlen]
  refine Ex_iconst 25 (v := 1) dX1_comeToEnd_24 (by decide) rfl ?_
  refine Ex_iadd 26 dX1_comeToEnd_25 rfl ?_
  refine Ex_pI 29 (I a) (va_up (va_up I (a + 3) (va_up (I (a + 3)) ((hmLine H).length) (nI w))) a (va_up (I a) 4 ((nI (hmLine H).length) + 1))) dX1_comeToEnd_26 fX1_33 rfl hh.1 rfl (fun _ => rfl) (va_up_ne _ _ (by omega)) rfl rfl rfl ?_
  refine Ex_aload_n 30 (i := 0) dX1_comeToEnd_29 rfl rfl rfl ?_
  refine Ex_getR 33 dX1_comeToEnd_30 fX1_15 hh.1 rfl hh.2.2.2.2.2.2.1 rfl ?_
  refine Ex_iload_n 34 (i := 1) dX1_comeToEnd_33 rfl rfl rfl ?_
  refine Ex_iconst 35 (v := 0) dX1_comeToEnd_34 (by decide) rfl ?_
  refine Ex_sI 36 w (I (a + 2)) (va_up (va_up (va_up I (a + 3) (va_up (I (a + 3)) ((hmLine H).length) (nI w))) a (va_up (I a) 4 ((nI (hmLine H).length) + 1))) (a + 2) (va_up (I (a + 2)) w 0)) dX1_comeToEnd_35 hh.2.2.1 rfl (by omega) (by decide) ((va_up_ne _ _ (by omega)).trans (va_up_ne _ _ (by omega))) rfl rfl ?_
  refine Ex_ret0 dX1_comeToEnd_36 rfl (Or.inl rfl) ?_
  refine hQ _ (hmFr.up (hmFr.up (hmFr.up hmFr.rf (by simp only [hmIn]; omega)) (by simp only [hmIn]; omega)) (by simp only [hmIn]; omega)) (hmR_mk ((va_up_ne _ _ (by omega)).trans (va_up_self _ _ _)) ((va_up_ne _ _ (by omega)).trans ((va_up_ne _ _ (by omega)).trans (va_up_ne _ _ (by omega)))) (va_up_self _ _ _) ((va_up_ne _ _ (by omega)).trans ((va_up_ne _ _ (by omega)).trans (va_up_self _ _ _))) ((va_up_ne _ _ (by omega)).trans ((va_up_ne _ _ (by omega)).trans (va_up_ne _ _ (by omega)))) ?_)
  refine ⟨by simp only [hmCome, hmLine, List.length_append, List.length_singleton] at *; omega, ?_, hset, htak, hmin, fun i hi => ?_, hhas, fun x hx => ?_, htalk⟩
  · show nI (hmLine H).length + 1 = _
    rw [nI_1]
    simp [hmCome, hmLine]
  · show va_up (I (a + 3)) (hmLine H).length (nI w) i = nI ((hmLine H ++ [w]).getD i 0)
    have hi2 : i < (hmLine H).length + 1 := by simpa [hmCome, hmLine] using hi
    by_cases h : i = (hmLine H).length
    · subst h
      rw [va_up_self]
      simp
    · rw [va_up_ne _ _ h, hline i (by omega)]
      simp [List.getElem?_append_left (show i < (hmLine H).length by omega)]
  · show va_up (I (a + 2)) w 0 x = nI (va_up (hmHeld H) w 0 x)
    by_cases h : x = w
    · subst h
      rw [va_up_self, va_up_self]
      rfl
    · rw [va_up_ne _ _ h, va_up_ne _ _ h]
      exact hheld x hx
set_option maxHeartbeats 4000000 in
theorem c_leave_loop {d : Nat} {sh : xSh} {R : xR} {L : xL} {I : xI} {Q : xQ} {v2 : Int32} {a w : Nat} {H : hmH} (hh : xHall sh R a) (hH : hmR I a H) (hw : w < 6) (hm : w ∈ hmLine H) (hQ : ∀ I', hmFr (hmIn a 5) I I' → hmR I' a (hmLeave H w) → Q none 0 sh R L I') : ∀ (n k : Nat) (r3 : Nat → Int32), n + (k + 1) = (hmLine H).length → (hmLine H).idxOf w ≤ k → (∀ j, j < k → r3 j = nI (((hmLine H).erase w).getD j 0)) → (∀ j, k + 1 ≤ j → j < (hmLine H).length → r3 j = nI ((hmLine H).getD j 0)) → Ex d 0 0 MX1_leave 0 sh R L (va_up I (a + 3) r3) 16 [some (.ref a), some (.int (nI w)), some (.int v2), some (.int (nI (k + 1)))] [] Q := by
  obtain ⟨h6, hlen, hset, htak, hmin, hline, hhas, hheld, htalk⟩ := id hH
  intro n
  induction n with
  | zero =>
    intro k r3 hn hp h1 h2
    refine Ex_iload_n 17 (i := 3) dX1_leave_16 rfl rfl rfl ?_
    refine Ex_aload_n 18 (i := 0) dX1_leave_17 rfl rfl rfl ?_
    refine Ex_gI 21 (I a 4) dX1_leave_18 fX1_33 hh.1 rfl (congrFun (va_up_ne _ _ (by omega)) _) rfl ?_
    rw [hlen]
    refine Ex_icmp_ge 24 44 dX1_leave_21 (by decide) rfl (fun c1 => ?_) (fun c1 => absurd c1 (fun q => q (nI_le (by omega) (by omega))))
    refine Ex_aload_n 45 (i := 0) dX1_leave_44 rfl rfl rfl ?_
    refine Ex_dup 46 dX1_leave_45 rfl rfl ?_
    refine Ex_gI 49 (I a 4) dX1_leave_46 fX1_33 hh.1 rfl (congrFun (va_up_ne _ _ (by omega)) _) rfl ?_
    rw [hlen]
    refine Ex_iconst 50 (v := 1) dX1_leave_49 (by decide) rfl ?_
    refine Ex_isub 51 dX1_leave_50 rfl ?_
    refine Ex_pI 54 (I a) (va_up (va_up I (a + 3) r3) a (va_up (I a) 4 ((nI (hmLine H).length) - 1))) dX1_leave_51 fX1_33 rfl hh.1 rfl (fun _ => rfl) (va_up_ne _ _ (by omega)) rfl rfl rfl ?_
    refine Ex_aload_n 55 (i := 0) dX1_leave_54 rfl rfl rfl ?_
    refine Ex_getR 58 dX1_leave_55 fX1_15 hh.1 rfl hh.2.2.2.2.2.2.1 rfl ?_
    refine Ex_iload_n 59 (i := 1) dX1_leave_58 rfl rfl rfl ?_
    refine Ex_iconst 60 (v := 0) dX1_leave_59 (by decide) rfl ?_
    refine Ex_sI 61 w (I (a + 2)) (va_up (va_up (va_up I (a + 3) r3) a (va_up (I a) 4 ((nI (hmLine H).length) - 1))) (a + 2) (va_up (I (a + 2)) w 0)) dX1_leave_60 hh.2.2.1 rfl (by omega) (by decide) ((va_up_ne _ _ (by omega)).trans (va_up_ne _ _ (by omega))) rfl rfl ?_
    refine Ex_ret0 dX1_leave_61 rfl (Or.inl rfl) ?_
    refine hQ _ (hmFr.up (hmFr.up (hmFr.up hmFr.rf (by simp only [hmIn]; omega)) (by simp only [hmIn]; omega)) (by simp only [hmIn]; omega)) (hmR_mk ((va_up_ne _ _ (by omega)).trans (va_up_self _ _ _)) ((va_up_ne _ _ (by omega)).trans ((va_up_ne _ _ (by omega)).trans (va_up_ne _ _ (by omega)))) (va_up_self _ _ _) ((va_up_ne _ _ (by omega)).trans ((va_up_ne _ _ (by omega)).trans (va_up_self _ _ _))) ((va_up_ne _ _ (by omega)).trans ((va_up_ne _ _ (by omega)).trans (va_up_ne _ _ (by omega)))) ?_)
    have hle : ((hmLine H).erase w).length = (hmLine H).length - 1 := List.length_erase_of_mem hm
    have hpos : 0 < (hmLine H).length := List.length_pos_of_mem hm
    unfold hmLeave
    rw [if_pos hm]
    refine ⟨by show ((hmLine H).erase w).length ≤ 6; omega, ?_, hset, htak, hmin, fun i hi => ?_, hhas, fun x hx => ?_, htalk⟩
    · show nI (hmLine H).length - 1 = nI ((hmLine H).erase w).length
      rw [hle]
      obtain ⟨q, hq⟩ : ∃ q, (hmLine H).length = q + 1 := ⟨(hmLine H).length - 1, by omega⟩
      rw [hq, nI_pred]
      rfl
    · have hi2 : i < ((hmLine H).erase w).length := hi
      exact h1 i (by omega)
    · show va_up (I (a + 2)) w 0 x = nI (va_up (hmHeld H) w 0 x)
      by_cases h : x = w
      · subst h
        rw [va_up_self, va_up_self]
        rfl
      · rw [va_up_ne _ _ h, va_up_ne _ _ h]
        exact hheld x hx
  | succ n ih =>
    intro k r3 hn hp h1 h2
    refine Ex_iload_n 17 (i := 3) dX1_leave_16 rfl rfl rfl ?_
    refine Ex_aload_n 18 (i := 0) dX1_leave_17 rfl rfl rfl ?_
    refine Ex_gI 21 (I a 4) dX1_leave_18 fX1_33 hh.1 rfl (congrFun (va_up_ne _ _ (by omega)) _) rfl ?_
    rw [hlen]
    refine Ex_icmp_ge 24 44 dX1_leave_21 (by decide) rfl (fun c1 => absurd c1 (nI_ge (by omega) (by omega))) (fun c1 => ?_)
    refine Ex_aload_n 25 (i := 0) dX1_leave_24 rfl rfl rfl ?_
    refine Ex_getR 28 dX1_leave_25 fX1_18 hh.1 rfl hh.2.2.2.2.2.2.2.1 rfl ?_
    refine Ex_iload_n 29 (i := 3) dX1_leave_28 rfl rfl rfl ?_
    refine Ex_iconst 30 (v := 1) dX1_leave_29 (by decide) rfl ?_
    refine Ex_isub 31 dX1_leave_30 rfl ?_
    refine Ex_aload_n 32 (i := 0) dX1_leave_31 rfl rfl rfl ?_
    refine Ex_getR 35 dX1_leave_32 fX1_18 hh.1 rfl hh.2.2.2.2.2.2.2.1 rfl ?_
    refine Ex_iload_n 36 (i := 3) dX1_leave_35 rfl rfl rfl ?_
    refine Ex_aI 37 (k + 1) (r3 (k + 1)) dX1_leave_36 hh.2.2.2.1 rfl (by omega) (by decide) (congrFun (va_up_self _ _ _) _) rfl ?_
    refine Ex_sI 38 k r3 (va_up I (a + 3) (va_up r3 k (r3 (k + 1)))) dX1_leave_37 hh.2.2.2.1 (nI_pred k) (by omega) (by decide) (va_up_self _ _ _) (va_up_up _ _ _ _) rfl ?_
    refine Ex_iinc 41 (v := (nI ((k + 1) + 1))) (ls' := [some (.ref a), some (.int (nI w)), some (.int v2), some (.int (nI ((k + 1) + 1)))]) dX1_leave_38 rfl (xinc _) (Nat.le_of_ble_eq_true rfl) rfl rfl rfl ?_
    refine Ex_goto 16 dX1_leave_41 (by decide) ?_
    refine ih (k + 1) _ (by omega) (by omega) (fun j hj => ?_) (fun j hj1 hj2 => ?_)
    · by_cases h : j = k
      · subst h
        rw [va_up_self, h2 (j + 1) (by omega) (by omega), hm_erase_at hm (by omega), if_neg (by omega)]
      · rw [va_up_ne _ _ h]
        exact h1 j (by omega)
    · rw [va_up_ne _ _ (by omega)]
      exact h2 j (by omega) hj2
set_option maxHeartbeats 4000000 in
theorem c_leave {d : Nat} {sh : xSh} {R : xR} {L : xL} {I : xI} {Q : xQ} {a w : Nat} {H : hmH} (hh : xHall sh R a) (hH : hmR I a H) (hw : w < 6) (hln : ∀ x ∈ hmLine H, x < 6) (hQ : ∀ I', hmFr (hmIn a 5) I I' → hmR I' a (hmLeave H w) → Q none 0 sh R L I') : Ex (d + 1) 0 0 MX1_leave 0 sh R L I 0 [some (.ref a), some (.int (nI w)), none, none] [] Q := by
  obtain ⟨h6, hlen, hset, htak, hmin, hline, hhas, hheld, htalk⟩ := id hH
  refine Ex_aload_n 1 (i := 0) dX1_leave_0 rfl rfl rfl ?_
  refine Ex_iload_n 2 (i := 1) dX1_leave_1 rfl rfl rfl ?_
  refine Ex_callV (M' := MX1_placeOf) 5 [.int (nI w)] (rest := []) dX1_leave_2 lX1_61 mX1_placeOf rfl hh.1 rfl (Nat.le_of_ble_eq_true rfl) (Nat.le_of_ble_eq_true rfl) rfl ?_
  refine c_placeOf hh hH (by omega) (fun x hx => by have := hln x hx; omega) ?_
  simp only [Option.toList, List.cons_append, List.nil_append]
  refine Ex_istore_n 6 (i := 2) (ls' := [some (.ref a), some (.int (nI w)), some (.int (hmPlc (hmLine H) w)), none]) dX1_leave_5 rfl (Nat.le_of_ble_eq_true rfl) rfl rfl rfl ?_
  refine Ex_iload_n 7 (i := 2) dX1_leave_6 rfl rfl rfl ?_
  refine Ex_iconst 8 (v := (-1)) dX1_leave_7 (by decide) rfl ?_
  refine Ex_icmp_ne 11 12 dX1_leave_8 (by decide) rfl (fun c1 => ?_) (fun c1 => ?_)
  · have hm : w ∈ hmLine H := by
      by_cases h : w ∈ hmLine H
      · exact h
      · exact absurd ((hmPlc_ne (by omega)).mpr h) c1
    have hidx := List.idxOf_lt_length_of_mem hm
    have hpl : hmPlc (hmLine H) w = nI ((hmLine H).idxOf w) := by simp [hmPlc, hm]
    rw [hpl]
    refine Ex_iload_n 13 (i := 2) dX1_leave_12 rfl rfl rfl ?_
    refine Ex_iconst 14 (v := 1) dX1_leave_13 (by decide) rfl ?_
    refine Ex_iadd 15 dX1_leave_14 rfl ?_
    rw [nI_1]
    refine Ex_istore_n 16 (i := 3) (ls' := [some (.ref a), some (.int (nI w)), some (.int (nI ((hmLine H).idxOf w))), some (.int (nI ((hmLine H).idxOf w + 1)))]) dX1_leave_15 rfl (Nat.le_of_ble_eq_true rfl) rfl rfl rfl ?_
    refine Ex_I (va_up_id I (a + 3)).symm ?_
    refine c_leave_loop hh hH hw hm hQ ((hmLine H).length - ((hmLine H).idxOf w + 1)) ((hmLine H).idxOf w) _ (by omega) (Nat.le_refl _) (fun j hj => ?_) (fun j hj1 hj2 => hline j hj2)
    rw [hline j (by omega), hm_erase_at hm (by omega), if_pos hj]
  · refine Ex_ret0 dX1_leave_11 rfl (Or.inl rfl) ?_
    have hnm : w ∉ hmLine H := (hmPlc_ne (by omega)).mp c1
    refine hQ _ hmFr.rf ?_
    unfold hmLeave
    rw [if_neg hnm]
    exact hH
