theorem hm_sw_at {l : List Nat} {x y i : Nat} (hn : l.Nodup) (hx : x ∈ l) (hy : y ∈ l) (hi : i < l.length) : (l.map (hmSw x y)).getD i 0 = if i = l.idxOf y then x else if i = l.idxOf x then y else l.getD i 0 := by
  have h1 : ∀ z, z ∈ l → (l.getD i 0 = z ↔ i = l.idxOf z) := by
    intro z hz
    have hz1 := List.idxOf_lt_length_of_mem hz
    have hz2 : l[l.idxOf z] = z := List.getElem_idxOf hz1
    constructor
    · intro h
      have h2 : l[i] = l[l.idxOf z] := by
        rw [hz2]
        simpa [hi] using h
      exact (List.getElem_inj hn).mp h2
    · intro h
      subst h
      simp [hz1, hz2]
  have h2 : (l.map (hmSw x y)).getD i 0 = hmSw x y (l.getD i 0) := by
    simp [hi]
  rw [h2, hmSw]
  by_cases hxy : x = y
  · subst hxy
    by_cases ha : i = l.idxOf x
    · rw [if_pos ha, if_pos ((h1 x hx).mpr ha)]
    · have := fun q => ha ((h1 x hx).mp q)
      rw [if_neg ha, if_neg ha, if_neg this, if_neg this]
  · by_cases ha : i = l.idxOf x
    · have hb : ¬ i = l.idxOf y := fun q => hxy (by rw [← (h1 x hx).mpr ha, (h1 y hy).mpr q])
      have e := (h1 x hx).mpr ha
      rw [if_neg hb, if_pos ha, if_pos e]
    · have e1 : ¬ l.getD i 0 = x := fun q => ha ((h1 x hx).mp q)
      rw [if_neg e1]
      by_cases hb : i = l.idxOf y
      · rw [if_pos hb, if_pos ((h1 y hy).mpr hb)]
      · rw [if_neg hb, if_neg ha, if_neg (fun q => hb ((h1 y hy).mp q))]
set_option maxHeartbeats 4000000 in
theorem c_changePlaces {d : Nat} {sh : xSh} {R : xR} {L : xL} {I : xI} {Q : xQ} {v : Nat} {a w : Nat} {H : hmH} (hh : xHall sh R a) (hH : hmR I a H) (hw : w < 6) (hv : v < 6) (hln : ∀ x ∈ hmLine H, x < 6) (hnd : (hmLine H).Nodup) (hQ : ∀ I', hmFr (hmIn a 5) I I' → hmR I' a (hmSwap H w v) → Q none 0 sh R L I') : Ex (d + 1) 0 0 MX1_changePlaces 0 sh R L I 0 [some (.ref a), some (.int (nI w)), some (.int (nI v)), none, none] [] Q := by
  obtain ⟨h6, hlen, hset, htak, hmin, hline, hhas, hheld, htalk⟩ := id hH
  refine Ex_aload_n 1 (i := 0) dX1_changePlaces_0 rfl rfl rfl ?_
  refine Ex_iload_n 2 (i := 1) dX1_changePlaces_1 rfl rfl rfl ?_
  refine Ex_callV (M' := MX1_placeOf) 5 [.int (nI w)] (rest := []) dX1_changePlaces_2 lX1_61 mX1_placeOf rfl hh.1 rfl (Nat.le_of_ble_eq_true rfl) (Nat.le_of_ble_eq_true rfl) rfl ?_
  refine c_placeOf hh hH (by omega) (fun x hx => by have := hln x hx; omega) ?_
  simp only [Option.toList, List.cons_append, List.nil_append]
  refine Ex_istore_n 6 (i := 3) (ls' := [some (.ref a), some (.int (nI w)), some (.int (nI v)), some (.int (hmPlc (hmLine H) w)), none]) dX1_changePlaces_5 rfl (Nat.le_of_ble_eq_true rfl) rfl rfl rfl ?_
  refine Ex_aload_n 7 (i := 0) dX1_changePlaces_6 rfl rfl rfl ?_
  refine Ex_iload_n 8 (i := 2) dX1_changePlaces_7 rfl rfl rfl ?_
  refine Ex_callV (M' := MX1_placeOf) 11 [.int (nI v)] (rest := []) dX1_changePlaces_8 lX1_61 mX1_placeOf rfl hh.1 rfl (Nat.le_of_ble_eq_true rfl) (Nat.le_of_ble_eq_true rfl) rfl ?_
  refine c_placeOf hh hH (by omega) (fun x hx => by have := hln x hx; omega) ?_
  simp only [Option.toList, List.cons_append, List.nil_append]
  refine Ex_istore 13 (ls' := [some (.ref a), some (.int (nI w)), some (.int (nI v)), some (.int (hmPlc (hmLine H) w)), some (.int (hmPlc (hmLine H) v))]) dX1_changePlaces_11 (Nat.le_of_ble_eq_true rfl) rfl rfl rfl ?_
  refine Ex_iload_n 14 (i := 3) dX1_changePlaces_13 rfl rfl rfl ?_
  refine Ex_iconst 15 (v := (-1)) dX1_changePlaces_14 (by decide) rfl ?_
  refine Ex_icmp_eq 18 39 dX1_changePlaces_15 (by decide) rfl (fun c1 => ?_) (fun c1 => ?_)
  · refine Ex_ret0 dX1_changePlaces_39 rfl (Or.inl rfl) ?_
    have hnm : w ∉ hmLine H := (hmPlc_ne (by omega)).mp c1
    refine hQ _ hmFr.rf ?_
    unfold hmSwap
    rw [if_neg (fun q => hnm q.1)]
    exact hH
  · refine Ex_iload 20 dX1_changePlaces_18 rfl rfl ?_
    refine Ex_iconst 21 (v := (-1)) dX1_changePlaces_20 (by decide) rfl ?_
    refine Ex_icmp_eq 24 39 dX1_changePlaces_21 (by decide) rfl (fun c2 => ?_) (fun c2 => ?_)
    · refine Ex_ret0 dX1_changePlaces_39 rfl (Or.inl rfl) ?_
      have hnm : v ∉ hmLine H := (hmPlc_ne (by omega)).mp c2
      refine hQ _ hmFr.rf ?_
      unfold hmSwap
      rw [if_neg (fun q => hnm q.2)]
      exact hH
    · have hmw : w ∈ hmLine H := by
        by_cases h : w ∈ hmLine H
        · exact h
        · exact absurd ((hmPlc_ne (by omega)).mpr h) c1
      have hmv : v ∈ hmLine H := by
        by_cases h : v ∈ hmLine H
        · exact h
        · exact absurd ((hmPlc_ne (by omega)).mpr h) c2
      have hpw : hmPlc (hmLine H) w = nI ((hmLine H).idxOf w) := by simp [hmPlc, hmw]
      have hpv : hmPlc (hmLine H) v = nI ((hmLine H).idxOf v) := by simp [hmPlc, hmv]
      have hiw := List.idxOf_lt_length_of_mem hmw
      have hiv := List.idxOf_lt_length_of_mem hmv
      rw [hpw, hpv]
      refine Ex_aload_n 25 (i := 0) dX1_changePlaces_24 rfl rfl rfl ?_
      refine Ex_getR 28 dX1_changePlaces_25 fX1_18 hh.1 rfl hh.2.2.2.2.2.2.2.1 rfl ?_
      refine Ex_iload_n 29 (i := 3) dX1_changePlaces_28 rfl rfl rfl ?_
      refine Ex_iload_n 30 (i := 2) dX1_changePlaces_29 rfl rfl rfl ?_
      refine Ex_sI 31 ((hmLine H).idxOf w) (I (a + 3)) (va_up I (a + 3) (va_up (I (a + 3)) ((hmLine H).idxOf w) (nI v))) dX1_changePlaces_30 hh.2.2.2.1 rfl (by omega) (by decide) rfl rfl rfl ?_
      refine Ex_aload_n 32 (i := 0) dX1_changePlaces_31 rfl rfl rfl ?_
      refine Ex_getR 35 dX1_changePlaces_32 fX1_18 hh.1 rfl hh.2.2.2.2.2.2.2.1 rfl ?_
      refine Ex_iload 37 dX1_changePlaces_35 rfl rfl ?_
      refine Ex_iload_n 38 (i := 1) dX1_changePlaces_37 rfl rfl rfl ?_
      refine Ex_sI 39 ((hmLine H).idxOf v) (va_up (I (a + 3)) ((hmLine H).idxOf w) (nI v)) (va_up I (a + 3) (va_up (va_up (I (a + 3)) ((hmLine H).idxOf w) (nI v)) ((hmLine H).idxOf v) (nI w))) dX1_changePlaces_38 hh.2.2.2.1 rfl (by omega) (by decide) (va_up_self _ _ _) (va_up_up _ _ _ _) rfl ?_
      refine Ex_ret0 dX1_changePlaces_39 rfl (Or.inl rfl) ?_
      refine hQ _ (hmFr.up hmFr.rf (by simp only [hmIn]; omega)) (hmR_mk (va_up_ne _ _ (by omega)) (va_up_ne _ _ (by omega)) (va_up_ne _ _ (by omega)) (va_up_self _ _ _) (va_up_ne _ _ (by omega)) ?_)
      unfold hmSwap
      rw [if_pos ⟨hmw, hmv⟩]
      refine ⟨by simpa [hmLine] using h6, by simpa [hmLine] using hlen, hset, htak, hmin, fun i hi => ?_, hhas, hheld, htalk⟩
      have hi2 : i < (hmLine H).length := by simpa [hmLine] using hi
      show va_up (va_up (I (a + 3)) ((hmLine H).idxOf w) (nI v)) ((hmLine H).idxOf v) (nI w) i = nI (((hmLine H).map (hmSw w v)).getD i 0)
      rw [hm_sw_at hnd hmw hmv hi2]
      simp only [va_up]
      split
      · rfl
      · split
        · rfl
        · exact hline i hi2
set_option maxHeartbeats 4000000 in
theorem c_whoHas_loop {d : Nat} {sh : xSh} {R : xR} {L : xL} {I : xI} {Q : xQ} {a k n : Nat} {f : Nat → Int32} (hh : xHall sh R a) (hf : ∀ w, w < n → I (a + 1) w = f w) (hn : n ≤ 6) (hQ : Q (some (.int (hmWho f k n))) 0 sh R L I) : ∀ m i, m + i = n → Ex d 0 0 MX1_whoHas 0 sh R L I 5 [some (.ref a), some (.int (nI k)), some (.int (nI n)), some (.int (hmWho f k i)), some (.int (nI i))] [] Q := by
  intro m
  induction m with
  | zero =>
    intro i hi
    refine Ex_iload 7 dX1_whoHas_5 rfl rfl ?_
    refine Ex_iload_n 8 (i := 2) dX1_whoHas_7 rfl rfl rfl ?_
    refine Ex_icmp_ge 11 34 dX1_whoHas_8 (by decide) rfl (fun c1 => ?_) (fun c1 => absurd c1 (fun q => q (nI_le (by omega) (by omega))))
    refine Ex_iload_n 35 (i := 3) dX1_whoHas_34 rfl rfl rfl ?_
    refine Ex_iret dX1_whoHas_35 rfl rfl (Or.inl rfl) ?_
    rw [show i = n by omega]
    exact hQ
  | succ m ih =>
    intro i hi
    refine Ex_iload 7 dX1_whoHas_5 rfl rfl ?_
    refine Ex_iload_n 8 (i := 2) dX1_whoHas_7 rfl rfl rfl ?_
    refine Ex_icmp_ge 11 34 dX1_whoHas_8 (by decide) rfl (fun c1 => absurd c1 (nI_ge (by omega) (by omega))) (fun c1 => ?_)
    refine Ex_iload_n 12 (i := 3) dX1_whoHas_11 rfl rfl rfl ?_
    refine Ex_aload_n 13 (i := 0) dX1_whoHas_12 rfl rfl rfl ?_
    refine Ex_getR 16 dX1_whoHas_13 fX1_9 hh.1 rfl hh.2.2.2.2.2.1 rfl ?_
    refine Ex_iload 18 dX1_whoHas_16 rfl rfl ?_
    refine Ex_aI 19 i (I (a + 1) i) dX1_whoHas_18 hh.2.1 rfl (by omega) (by decide) rfl rfl ?_
    rw [hf i (by omega)]
    refine Ex_iload_n 20 (i := 1) dX1_whoHas_19 rfl rfl rfl ?_
    refine Ex_ishr 21 dX1_whoHas_20 rfl ?_
    refine Ex_iconst 22 (v := 1) dX1_whoHas_21 (by decide) rfl ?_
    refine Ex_iand 23 dX1_whoHas_22 rfl ?_
    refine Ex_iload 25 dX1_whoHas_23 rfl rfl ?_
    refine Ex_ishl 26 dX1_whoHas_25 rfl ?_
    refine Ex_ior 27 dX1_whoHas_26 rfl ?_
    refine Ex_istore_n 28 (i := 3) (ls' := [some (.ref a), some (.int (nI k)), some (.int (nI n)), some (.int ((hmWho f k i) ||| ((((f i) >>> ((nI k) &&& 31)) &&& 1) <<< ((nI i) &&& 31)))), some (.int (nI i))]) dX1_whoHas_27 rfl (Nat.le_of_ble_eq_true rfl) rfl rfl rfl ?_
    refine Ex_iinc 31 (v := (nI (i + 1))) (ls' := [some (.ref a), some (.int (nI k)), some (.int (nI n)), some (.int ((hmWho f k i) ||| ((((f i) >>> ((nI k) &&& 31)) &&& 1) <<< ((nI i) &&& 31)))), some (.int (nI (i + 1)))]) dX1_whoHas_28 rfl (xinc _) (Nat.le_of_ble_eq_true rfl) rfl rfl rfl ?_
    refine Ex_goto 5 dX1_whoHas_31 (by decide) ?_
    exact ih (i + 1) (by omega)
set_option maxHeartbeats 4000000 in
theorem c_whoHas {d : Nat} {sh : xSh} {R : xR} {L : xL} {I : xI} {Q : xQ} {a k n : Nat} {f : Nat → Int32} (hh : xHall sh R a) (hf : ∀ w, w < n → I (a + 1) w = f w) (hn : n ≤ 6) (hQ : Q (some (.int (hmWho f k n))) 0 sh R L I) : Ex d 0 0 MX1_whoHas 0 sh R L I 0 [some (.ref a), some (.int (nI k)), some (.int (nI n)), none, none] [] Q := by
  refine Ex_iconst 1 (v := 0) dX1_whoHas_0 (by decide) rfl ?_
  refine Ex_istore_n 2 (i := 3) (ls' := [some (.ref a), some (.int (nI k)), some (.int (nI n)), some (.int 0), none]) dX1_whoHas_1 rfl (Nat.le_of_ble_eq_true rfl) rfl rfl rfl ?_
  refine Ex_iconst 3 (v := 0) dX1_whoHas_2 (by decide) rfl ?_
  refine Ex_istore 5 (ls' := [some (.ref a), some (.int (nI k)), some (.int (nI n)), some (.int 0), some (.int 0)]) dX1_whoHas_3 (Nat.le_of_ble_eq_true rfl) rfl rfl rfl ?_
  exact c_whoHas_loop hh hf hn hQ n 0 (by omega)
set_option maxRecDepth 100000 in
theorem hm_bc : ∀ k, k < 1024 → (((((((((nI k) - ((((nI k).toUInt32 >>> ((1 : Int32).toUInt32 &&& Int32.toUInt32 31)).toInt32) &&& 1431655765)) &&& 858993459) + (((((nI k) - ((((nI k).toUInt32 >>> ((1 : Int32).toUInt32 &&& Int32.toUInt32 31)).toInt32) &&& 1431655765)).toUInt32 >>> ((2 : Int32).toUInt32 &&& Int32.toUInt32 31)).toInt32) &&& 858993459)) + ((((((nI k) - ((((nI k).toUInt32 >>> ((1 : Int32).toUInt32 &&& Int32.toUInt32 31)).toInt32) &&& 1431655765)) &&& 858993459) + (((((nI k) - ((((nI k).toUInt32 >>> ((1 : Int32).toUInt32 &&& Int32.toUInt32 31)).toInt32) &&& 1431655765)).toUInt32 >>> ((2 : Int32).toUInt32 &&& Int32.toUInt32 31)).toInt32) &&& 858993459)).toUInt32 >>> ((4 : Int32).toUInt32 &&& Int32.toUInt32 31)).toInt32)) &&& 252645135) + ((((((((nI k) - ((((nI k).toUInt32 >>> ((1 : Int32).toUInt32 &&& Int32.toUInt32 31)).toInt32) &&& 1431655765)) &&& 858993459) + (((((nI k) - ((((nI k).toUInt32 >>> ((1 : Int32).toUInt32 &&& Int32.toUInt32 31)).toInt32) &&& 1431655765)).toUInt32 >>> ((2 : Int32).toUInt32 &&& Int32.toUInt32 31)).toInt32) &&& 858993459)) + ((((((nI k) - ((((nI k).toUInt32 >>> ((1 : Int32).toUInt32 &&& Int32.toUInt32 31)).toInt32) &&& 1431655765)) &&& 858993459) + (((((nI k) - ((((nI k).toUInt32 >>> ((1 : Int32).toUInt32 &&& Int32.toUInt32 31)).toInt32) &&& 1431655765)).toUInt32 >>> ((2 : Int32).toUInt32 &&& Int32.toUInt32 31)).toInt32) &&& 858993459)).toUInt32 >>> ((4 : Int32).toUInt32 &&& Int32.toUInt32 31)).toInt32)) &&& 252645135).toUInt32 >>> ((8 : Int32).toUInt32 &&& Int32.toUInt32 31)).toInt32)) + (((((((((nI k) - ((((nI k).toUInt32 >>> ((1 : Int32).toUInt32 &&& Int32.toUInt32 31)).toInt32) &&& 1431655765)) &&& 858993459) + (((((nI k) - ((((nI k).toUInt32 >>> ((1 : Int32).toUInt32 &&& Int32.toUInt32 31)).toInt32) &&& 1431655765)).toUInt32 >>> ((2 : Int32).toUInt32 &&& Int32.toUInt32 31)).toInt32) &&& 858993459)) + ((((((nI k) - ((((nI k).toUInt32 >>> ((1 : Int32).toUInt32 &&& Int32.toUInt32 31)).toInt32) &&& 1431655765)) &&& 858993459) + (((((nI k) - ((((nI k).toUInt32 >>> ((1 : Int32).toUInt32 &&& Int32.toUInt32 31)).toInt32) &&& 1431655765)).toUInt32 >>> ((2 : Int32).toUInt32 &&& Int32.toUInt32 31)).toInt32) &&& 858993459)).toUInt32 >>> ((4 : Int32).toUInt32 &&& Int32.toUInt32 31)).toInt32)) &&& 252645135) + ((((((((nI k) - ((((nI k).toUInt32 >>> ((1 : Int32).toUInt32 &&& Int32.toUInt32 31)).toInt32) &&& 1431655765)) &&& 858993459) + (((((nI k) - ((((nI k).toUInt32 >>> ((1 : Int32).toUInt32 &&& Int32.toUInt32 31)).toInt32) &&& 1431655765)).toUInt32 >>> ((2 : Int32).toUInt32 &&& Int32.toUInt32 31)).toInt32) &&& 858993459)) + ((((((nI k) - ((((nI k).toUInt32 >>> ((1 : Int32).toUInt32 &&& Int32.toUInt32 31)).toInt32) &&& 1431655765)) &&& 858993459) + (((((nI k) - ((((nI k).toUInt32 >>> ((1 : Int32).toUInt32 &&& Int32.toUInt32 31)).toInt32) &&& 1431655765)).toUInt32 >>> ((2 : Int32).toUInt32 &&& Int32.toUInt32 31)).toInt32) &&& 858993459)).toUInt32 >>> ((4 : Int32).toUInt32 &&& Int32.toUInt32 31)).toInt32)) &&& 252645135).toUInt32 >>> ((8 : Int32).toUInt32 &&& Int32.toUInt32 31)).toInt32)).toUInt32 >>> ((16 : Int32).toUInt32 &&& Int32.toUInt32 31)).toInt32)) &&& 63) = hmCnt (nI k) := by decide +kernel
set_option maxHeartbeats 4000000 in
theorem c_bitCount {d : Nat} {sh : xSh} {R : xR} {L : xL} {I : xI} {Q : xQ} {k : Nat} (hk : k < 1024) (hQ : Q (some (.int (hmCnt (nI k)))) 0 sh R L I) : Ex d 0 0 MJ6_bitCount_0f7a4 0 sh R L I 0 [some (.int (nI k))] [] Q := by
  refine Ex_iload_n 1 (i := 0) dJ6_bitCount_0f7a4_0 rfl rfl rfl ?_
  refine Ex_iload_n 2 (i := 0) dJ6_bitCount_0f7a4_1 rfl rfl rfl ?_
  refine Ex_iconst 3 (v := 1) dJ6_bitCount_0f7a4_2 (by decide) rfl ?_
  refine Ex_iushr 4 dJ6_bitCount_0f7a4_3 rfl ?_
  refine Ex_ldcw 7 (v := 1431655765) dJ6_bitCount_0f7a4_4 kJ6_265 rfl ?_
  refine Ex_iand 8 dJ6_bitCount_0f7a4_7 rfl ?_
  refine Ex_isub 9 dJ6_bitCount_0f7a4_8 rfl ?_
  refine Ex_istore_n 10 (i := 0) (ls' := [some (.int ((nI k) - ((((nI k).toUInt32 >>> ((1 : Int32).toUInt32 &&& Int32.toUInt32 31)).toInt32) &&& 1431655765)))]) dJ6_bitCount_0f7a4_9 rfl (Nat.le_of_ble_eq_true rfl) rfl rfl rfl ?_
  refine Ex_iload_n 11 (i := 0) dJ6_bitCount_0f7a4_10 rfl rfl rfl ?_
  refine Ex_ldcw 14 (v := 858993459) dJ6_bitCount_0f7a4_11 kJ6_266 rfl ?_
  refine Ex_iand 15 dJ6_bitCount_0f7a4_14 rfl ?_
  refine Ex_iload_n 16 (i := 0) dJ6_bitCount_0f7a4_15 rfl rfl rfl ?_
  refine Ex_iconst 17 (v := 2) dJ6_bitCount_0f7a4_16 (by decide) rfl ?_
  refine Ex_iushr 18 dJ6_bitCount_0f7a4_17 rfl ?_
  refine Ex_ldcw 21 (v := 858993459) dJ6_bitCount_0f7a4_18 kJ6_266 rfl ?_
  refine Ex_iand 22 dJ6_bitCount_0f7a4_21 rfl ?_
  refine Ex_iadd 23 dJ6_bitCount_0f7a4_22 rfl ?_
  refine Ex_istore_n 24 (i := 0) (ls' := [some (.int ((((nI k) - ((((nI k).toUInt32 >>> ((1 : Int32).toUInt32 &&& Int32.toUInt32 31)).toInt32) &&& 1431655765)) &&& 858993459) + (((((nI k) - ((((nI k).toUInt32 >>> ((1 : Int32).toUInt32 &&& Int32.toUInt32 31)).toInt32) &&& 1431655765)).toUInt32 >>> ((2 : Int32).toUInt32 &&& Int32.toUInt32 31)).toInt32) &&& 858993459)))]) dJ6_bitCount_0f7a4_23 rfl (Nat.le_of_ble_eq_true rfl) rfl rfl rfl ?_
  refine Ex_iload_n 25 (i := 0) dJ6_bitCount_0f7a4_24 rfl rfl rfl ?_
  refine Ex_iload_n 26 (i := 0) dJ6_bitCount_0f7a4_25 rfl rfl rfl ?_
  refine Ex_iconst 27 (v := 4) dJ6_bitCount_0f7a4_26 (by decide) rfl ?_
  refine Ex_iushr 28 dJ6_bitCount_0f7a4_27 rfl ?_
  refine Ex_iadd 29 dJ6_bitCount_0f7a4_28 rfl ?_
  refine Ex_ldcw 32 (v := 252645135) dJ6_bitCount_0f7a4_29 kJ6_267 rfl ?_
  refine Ex_iand 33 dJ6_bitCount_0f7a4_32 rfl ?_
  refine Ex_istore_n 34 (i := 0) (ls' := [some (.int ((((((nI k) - ((((nI k).toUInt32 >>> ((1 : Int32).toUInt32 &&& Int32.toUInt32 31)).toInt32) &&& 1431655765)) &&& 858993459) + (((((nI k) - ((((nI k).toUInt32 >>> ((1 : Int32).toUInt32 &&& Int32.toUInt32 31)).toInt32) &&& 1431655765)).toUInt32 >>> ((2 : Int32).toUInt32 &&& Int32.toUInt32 31)).toInt32) &&& 858993459)) + ((((((nI k) - ((((nI k).toUInt32 >>> ((1 : Int32).toUInt32 &&& Int32.toUInt32 31)).toInt32) &&& 1431655765)) &&& 858993459) + (((((nI k) - ((((nI k).toUInt32 >>> ((1 : Int32).toUInt32 &&& Int32.toUInt32 31)).toInt32) &&& 1431655765)).toUInt32 >>> ((2 : Int32).toUInt32 &&& Int32.toUInt32 31)).toInt32) &&& 858993459)).toUInt32 >>> ((4 : Int32).toUInt32 &&& Int32.toUInt32 31)).toInt32)) &&& 252645135))]) dJ6_bitCount_0f7a4_33 rfl (Nat.le_of_ble_eq_true rfl) rfl rfl rfl ?_
  refine Ex_iload_n 35 (i := 0) dJ6_bitCount_0f7a4_34 rfl rfl rfl ?_
  refine Ex_iload_n 36 (i := 0) dJ6_bitCount_0f7a4_35 rfl rfl rfl ?_
  refine Ex_bipush 38 (v := 8) dJ6_bitCount_0f7a4_36 (by decide) rfl ?_
  refine Ex_iushr 39 dJ6_bitCount_0f7a4_38 rfl ?_
  refine Ex_iadd 40 dJ6_bitCount_0f7a4_39 rfl ?_
  refine Ex_istore_n 41 (i := 0) (ls' := [some (.int (((((((nI k) - ((((nI k).toUInt32 >>> ((1 : Int32).toUInt32 &&& Int32.toUInt32 31)).toInt32) &&& 1431655765)) &&& 858993459) + (((((nI k) - ((((nI k).toUInt32 >>> ((1 : Int32).toUInt32 &&& Int32.toUInt32 31)).toInt32) &&& 1431655765)).toUInt32 >>> ((2 : Int32).toUInt32 &&& Int32.toUInt32 31)).toInt32) &&& 858993459)) + ((((((nI k) - ((((nI k).toUInt32 >>> ((1 : Int32).toUInt32 &&& Int32.toUInt32 31)).toInt32) &&& 1431655765)) &&& 858993459) + (((((nI k) - ((((nI k).toUInt32 >>> ((1 : Int32).toUInt32 &&& Int32.toUInt32 31)).toInt32) &&& 1431655765)).toUInt32 >>> ((2 : Int32).toUInt32 &&& Int32.toUInt32 31)).toInt32) &&& 858993459)).toUInt32 >>> ((4 : Int32).toUInt32 &&& Int32.toUInt32 31)).toInt32)) &&& 252645135) + ((((((((nI k) - ((((nI k).toUInt32 >>> ((1 : Int32).toUInt32 &&& Int32.toUInt32 31)).toInt32) &&& 1431655765)) &&& 858993459) + (((((nI k) - ((((nI k).toUInt32 >>> ((1 : Int32).toUInt32 &&& Int32.toUInt32 31)).toInt32) &&& 1431655765)).toUInt32 >>> ((2 : Int32).toUInt32 &&& Int32.toUInt32 31)).toInt32) &&& 858993459)) + ((((((nI k) - ((((nI k).toUInt32 >>> ((1 : Int32).toUInt32 &&& Int32.toUInt32 31)).toInt32) &&& 1431655765)) &&& 858993459) + (((((nI k) - ((((nI k).toUInt32 >>> ((1 : Int32).toUInt32 &&& Int32.toUInt32 31)).toInt32) &&& 1431655765)).toUInt32 >>> ((2 : Int32).toUInt32 &&& Int32.toUInt32 31)).toInt32) &&& 858993459)).toUInt32 >>> ((4 : Int32).toUInt32 &&& Int32.toUInt32 31)).toInt32)) &&& 252645135).toUInt32 >>> ((8 : Int32).toUInt32 &&& Int32.toUInt32 31)).toInt32)))]) dJ6_bitCount_0f7a4_40 rfl (Nat.le_of_ble_eq_true rfl) rfl rfl rfl ?_
  refine Ex_iload_n 42 (i := 0) dJ6_bitCount_0f7a4_41 rfl rfl rfl ?_
  refine Ex_iload_n 43 (i := 0) dJ6_bitCount_0f7a4_42 rfl rfl rfl ?_
  refine Ex_bipush 45 (v := 16) dJ6_bitCount_0f7a4_43 (by decide) rfl ?_
  refine Ex_iushr 46 dJ6_bitCount_0f7a4_45 rfl ?_
  refine Ex_iadd 47 dJ6_bitCount_0f7a4_46 rfl ?_
  refine Ex_istore_n 48 (i := 0) (ls' := [some (.int ((((((((nI k) - ((((nI k).toUInt32 >>> ((1 : Int32).toUInt32 &&& Int32.toUInt32 31)).toInt32) &&& 1431655765)) &&& 858993459) + (((((nI k) - ((((nI k).toUInt32 >>> ((1 : Int32).toUInt32 &&& Int32.toUInt32 31)).toInt32) &&& 1431655765)).toUInt32 >>> ((2 : Int32).toUInt32 &&& Int32.toUInt32 31)).toInt32) &&& 858993459)) + ((((((nI k) - ((((nI k).toUInt32 >>> ((1 : Int32).toUInt32 &&& Int32.toUInt32 31)).toInt32) &&& 1431655765)) &&& 858993459) + (((((nI k) - ((((nI k).toUInt32 >>> ((1 : Int32).toUInt32 &&& Int32.toUInt32 31)).toInt32) &&& 1431655765)).toUInt32 >>> ((2 : Int32).toUInt32 &&& Int32.toUInt32 31)).toInt32) &&& 858993459)).toUInt32 >>> ((4 : Int32).toUInt32 &&& Int32.toUInt32 31)).toInt32)) &&& 252645135) + ((((((((nI k) - ((((nI k).toUInt32 >>> ((1 : Int32).toUInt32 &&& Int32.toUInt32 31)).toInt32) &&& 1431655765)) &&& 858993459) + (((((nI k) - ((((nI k).toUInt32 >>> ((1 : Int32).toUInt32 &&& Int32.toUInt32 31)).toInt32) &&& 1431655765)).toUInt32 >>> ((2 : Int32).toUInt32 &&& Int32.toUInt32 31)).toInt32) &&& 858993459)) + ((((((nI k) - ((((nI k).toUInt32 >>> ((1 : Int32).toUInt32 &&& Int32.toUInt32 31)).toInt32) &&& 1431655765)) &&& 858993459) + (((((nI k) - ((((nI k).toUInt32 >>> ((1 : Int32).toUInt32 &&& Int32.toUInt32 31)).toInt32) &&& 1431655765)).toUInt32 >>> ((2 : Int32).toUInt32 &&& Int32.toUInt32 31)).toInt32) &&& 858993459)).toUInt32 >>> ((4 : Int32).toUInt32 &&& Int32.toUInt32 31)).toInt32)) &&& 252645135).toUInt32 >>> ((8 : Int32).toUInt32 &&& Int32.toUInt32 31)).toInt32)) + (((((((((nI k) - ((((nI k).toUInt32 >>> ((1 : Int32).toUInt32 &&& Int32.toUInt32 31)).toInt32) &&& 1431655765)) &&& 858993459) + (((((nI k) - ((((nI k).toUInt32 >>> ((1 : Int32).toUInt32 &&& Int32.toUInt32 31)).toInt32) &&& 1431655765)).toUInt32 >>> ((2 : Int32).toUInt32 &&& Int32.toUInt32 31)).toInt32) &&& 858993459)) + ((((((nI k) - ((((nI k).toUInt32 >>> ((1 : Int32).toUInt32 &&& Int32.toUInt32 31)).toInt32) &&& 1431655765)) &&& 858993459) + (((((nI k) - ((((nI k).toUInt32 >>> ((1 : Int32).toUInt32 &&& Int32.toUInt32 31)).toInt32) &&& 1431655765)).toUInt32 >>> ((2 : Int32).toUInt32 &&& Int32.toUInt32 31)).toInt32) &&& 858993459)).toUInt32 >>> ((4 : Int32).toUInt32 &&& Int32.toUInt32 31)).toInt32)) &&& 252645135) + ((((((((nI k) - ((((nI k).toUInt32 >>> ((1 : Int32).toUInt32 &&& Int32.toUInt32 31)).toInt32) &&& 1431655765)) &&& 858993459) + (((((nI k) - ((((nI k).toUInt32 >>> ((1 : Int32).toUInt32 &&& Int32.toUInt32 31)).toInt32) &&& 1431655765)).toUInt32 >>> ((2 : Int32).toUInt32 &&& Int32.toUInt32 31)).toInt32) &&& 858993459)) + ((((((nI k) - ((((nI k).toUInt32 >>> ((1 : Int32).toUInt32 &&& Int32.toUInt32 31)).toInt32) &&& 1431655765)) &&& 858993459) + (((((nI k) - ((((nI k).toUInt32 >>> ((1 : Int32).toUInt32 &&& Int32.toUInt32 31)).toInt32) &&& 1431655765)).toUInt32 >>> ((2 : Int32).toUInt32 &&& Int32.toUInt32 31)).toInt32) &&& 858993459)).toUInt32 >>> ((4 : Int32).toUInt32 &&& Int32.toUInt32 31)).toInt32)) &&& 252645135).toUInt32 >>> ((8 : Int32).toUInt32 &&& Int32.toUInt32 31)).toInt32)).toUInt32 >>> ((16 : Int32).toUInt32 &&& Int32.toUInt32 31)).toInt32)))]) dJ6_bitCount_0f7a4_47 rfl (Nat.le_of_ble_eq_true rfl) rfl rfl rfl ?_
  refine Ex_iload_n 49 (i := 0) dJ6_bitCount_0f7a4_48 rfl rfl rfl ?_
  refine Ex_bipush 51 (v := 63) dJ6_bitCount_0f7a4_49 (by decide) rfl ?_
  refine Ex_iand 52 dJ6_bitCount_0f7a4_51 rfl ?_
  refine Ex_iret dJ6_bitCount_0f7a4_52 rfl rfl (Or.inl rfl) ?_
  rw [hm_bc k hk]
  exact hQ
theorem c_bitCountS {d : Nat} {sh : xSh} {R : xR} {L : xL} {I : xI} {Q : xQ} {x : Int32} (hx : hmS10 x) (hQ : Q (some (.int (hmCnt x))) 0 sh R L I) : Ex d 0 0 MJ6_bitCount_0f7a4 0 sh R L I 0 [some (.int x)] [] Q := by
  obtain ⟨k, hk, rfl⟩ := hx
  exact c_bitCount hk hQ
set_option maxHeartbeats 4000000 in
theorem c_answersInAll_loop {d : Nat} {sh : xSh} {R : xR} {L : xL} {I : xI} {Q : xQ} {a n : Nat} {f : Nat → Int32} (hh : xHall sh R a) (hf : ∀ w, w < n → I (a + 1) w = f w) (hs : ∀ w, w < n → hmS10 (f w)) (hn : n ≤ 6) (hQ : Q (some (.int (hmAll f n))) 0 sh R L I) : ∀ m i, m + i = n → Ex (d + 1) 0 0 MX1_answersInAll 0 sh R L I 4 [some (.ref a), some (.int (nI n)), some (.int (hmAll f i)), some (.int (nI i))] [] Q := by
  intro m
  induction m with
  | zero =>
    intro i hi
    refine Ex_iload_n 5 (i := 3) dX1_answersInAll_4 rfl rfl rfl ?_
    refine Ex_iload_n 6 (i := 1) dX1_answersInAll_5 rfl rfl rfl ?_
    refine Ex_icmp_ge 9 27 dX1_answersInAll_6 (by decide) rfl (fun c1 => ?_) (fun c1 => absurd c1 (fun q => q (nI_le (by omega) (by omega))))
    refine Ex_iload_n 28 (i := 2) dX1_answersInAll_27 rfl rfl rfl ?_
    refine Ex_iret dX1_answersInAll_28 rfl rfl (Or.inl rfl) ?_
    rw [show i = n by omega]
    exact hQ
  | succ m ih =>
    intro i hi
    refine Ex_iload_n 5 (i := 3) dX1_answersInAll_4 rfl rfl rfl ?_
    refine Ex_iload_n 6 (i := 1) dX1_answersInAll_5 rfl rfl rfl ?_
    refine Ex_icmp_ge 9 27 dX1_answersInAll_6 (by decide) rfl (fun c1 => absurd c1 (nI_ge (by omega) (by omega))) (fun c1 => ?_)
    refine Ex_iload_n 10 (i := 2) dX1_answersInAll_9 rfl rfl rfl ?_
    refine Ex_aload_n 11 (i := 0) dX1_answersInAll_10 rfl rfl rfl ?_
    refine Ex_getR 14 dX1_answersInAll_11 fX1_9 hh.1 rfl hh.2.2.2.2.2.1 rfl ?_
    refine Ex_iload_n 15 (i := 3) dX1_answersInAll_14 rfl rfl rfl ?_
    refine Ex_aI 16 i (I (a + 1) i) dX1_answersInAll_15 hh.2.1 rfl (by omega) (by decide) rfl rfl ?_
    rw [hf i (by omega)]
    refine Ex_callS (M' := MJ6_bitCount_0f7a4) 19 [.int (f i)] (rest := [.int (hmAll f i)]) dX1_answersInAll_16 lX1_51 mJ6_bitCount_0f7a4 rfl rfl (Nat.le_of_ble_eq_true rfl) (Nat.le_of_ble_eq_true rfl) rfl ?_
    refine c_bitCountS (hs i (by omega)) ?_
    simp only [Option.toList, List.cons_append, List.nil_append]
    refine Ex_iadd 20 dX1_answersInAll_19 rfl ?_
    refine Ex_istore_n 21 (i := 2) (ls' := [some (.ref a), some (.int (nI n)), some (.int ((hmAll f i) + (hmCnt (f i)))), some (.int (nI i))]) dX1_answersInAll_20 rfl (Nat.le_of_ble_eq_true rfl) rfl rfl rfl ?_
    refine Ex_iinc 24 (v := (nI (i + 1))) (ls' := [some (.ref a), some (.int (nI n)), some (.int ((hmAll f i) + (hmCnt (f i)))), some (.int (nI (i + 1)))]) dX1_answersInAll_21 rfl (xinc _) (Nat.le_of_ble_eq_true rfl) rfl rfl rfl ?_
    refine Ex_goto 4 dX1_answersInAll_24 (by decide) ?_
    exact ih (i + 1) (by omega)
set_option maxHeartbeats 4000000 in
theorem c_answersInAll {d : Nat} {sh : xSh} {R : xR} {L : xL} {I : xI} {Q : xQ} {a n : Nat} {f : Nat → Int32} (hh : xHall sh R a) (hf : ∀ w, w < n → I (a + 1) w = f w) (hs : ∀ w, w < n → hmS10 (f w)) (hn : n ≤ 6) (hQ : Q (some (.int (hmAll f n))) 0 sh R L I) : Ex (d + 1) 0 0 MX1_answersInAll 0 sh R L I 0 [some (.ref a), some (.int (nI n)), none, none] [] Q := by
  refine Ex_iconst 1 (v := 0) dX1_answersInAll_0 (by decide) rfl ?_
  refine Ex_istore_n 2 (i := 2) (ls' := [some (.ref a), some (.int (nI n)), some (.int 0), none]) dX1_answersInAll_1 rfl (Nat.le_of_ble_eq_true rfl) rfl rfl rfl ?_
  refine Ex_iconst 3 (v := 0) dX1_answersInAll_2 (by decide) rfl ?_
  refine Ex_istore_n 4 (i := 3) (ls' := [some (.ref a), some (.int (nI n)), some (.int 0), some (.int 0)]) dX1_answersInAll_3 rfl (Nat.le_of_ble_eq_true rfl) rfl rfl rfl ?_
  exact c_answersInAll_loop hh hf hs hn hQ n 0 (by omega)
set_option maxHeartbeats 4000000 in
theorem c_standAs_loop {d : Nat} {sh : xSh} {R : xR} {L : xL} {I : xI} {Q : xQ} {a b : Nat} {H : hmH} {l : List Nat} (hh : xHall sh R a) (hb : sh b = some (.inr (.int, 6))) (hab : b < a ∨ a + 5 ≤ b) (hH : hmR I a H) (hll : l.length = (hmLine H).length) (hrow : ∀ i, i < l.length → I b i = nI (l.getD i 0)) (hQ : ∀ I', hmFr (hmIn a 5) I I' → hmR I' a (hmStand H l) → Q none 0 sh R L I') : ∀ (m i : Nat) (r3 : Nat → Int32), m + i = l.length → (∀ j, j < i → r3 j = nI (l.getD j 0)) → Ex d 0 0 MX1_standAs 0 sh R L (va_up I (a + 3) r3) 2 [some (.ref a), some (.ref b), some (.int (nI l.length)), some (.int (nI i))] [] Q := by
  obtain ⟨h6, hlen, hset, htak, hmin, hline, hhas, hheld, htalk⟩ := id hH
  intro m
  induction m with
  | zero =>
    intro i r3 hi h1
    refine Ex_iload_n 3 (i := 3) dX1_standAs_2 rfl rfl rfl ?_
    refine Ex_iload_n 4 (i := 2) dX1_standAs_3 rfl rfl rfl ?_
    refine Ex_icmp_ge 7 22 dX1_standAs_4 (by decide) rfl (fun c1 => ?_) (fun c1 => absurd c1 (fun q => q (nI_le (by omega) (by omega))))
    refine Ex_ret0 dX1_standAs_22 rfl (Or.inl rfl) ?_
    refine hQ _ (hmFr.up hmFr.rf (by simp only [hmIn]; omega)) (hmR_mk (va_up_ne _ _ (by omega)) (va_up_ne _ _ (by omega)) (va_up_ne _ _ (by omega)) (va_up_self _ _ _) (va_up_ne _ _ (by omega)) ?_)
    exact ⟨by show l.length ≤ 6; omega, by show _ = nI l.length; rw [hll]; exact hlen, hset, htak, hmin, fun j hj => h1 j (by have : j < l.length := hj; omega), hhas, hheld, htalk⟩
  | succ m ih =>
    intro i r3 hi h1
    refine Ex_iload_n 3 (i := 3) dX1_standAs_2 rfl rfl rfl ?_
    refine Ex_iload_n 4 (i := 2) dX1_standAs_3 rfl rfl rfl ?_
    refine Ex_icmp_ge 7 22 dX1_standAs_4 (by decide) rfl (fun c1 => absurd c1 (nI_ge (by omega) (by omega))) (fun c1 => ?_)
    refine Ex_aload_n 8 (i := 0) dX1_standAs_7 rfl rfl rfl ?_
    refine Ex_getR 11 dX1_standAs_8 fX1_18 hh.1 rfl hh.2.2.2.2.2.2.2.1 rfl ?_
    refine Ex_iload_n 12 (i := 3) dX1_standAs_11 rfl rfl rfl ?_
    refine Ex_aload_n 13 (i := 1) dX1_standAs_12 rfl rfl rfl ?_
    refine Ex_iload_n 14 (i := 3) dX1_standAs_13 rfl rfl rfl ?_
    refine Ex_aI 15 i (I b i) dX1_standAs_14 hb rfl (by omega) (by decide) (congrFun (va_up_ne _ _ (by omega)) _) rfl ?_
    rw [hrow i (by omega)]
    refine Ex_sI 16 i r3 (va_up I (a + 3) (va_up r3 i (nI (l.getD i 0)))) dX1_standAs_15 hh.2.2.2.1 rfl (by omega) (by decide) (va_up_self _ _ _) (va_up_up _ _ _ _) rfl ?_
    refine Ex_iinc 19 (v := (nI (i + 1))) (ls' := [some (.ref a), some (.ref b), some (.int (nI l.length)), some (.int (nI (i + 1)))]) dX1_standAs_16 rfl (xinc _) (Nat.le_of_ble_eq_true rfl) rfl rfl rfl ?_
    refine Ex_goto 2 dX1_standAs_19 (by decide) ?_
    refine ih (i + 1) _ (by omega) (fun j hj => ?_)
    by_cases h : j = i
    · subst h
      rw [va_up_self]
    · rw [va_up_ne _ _ h]
      exact h1 j (by omega)
set_option maxHeartbeats 4000000 in
theorem c_standAs {d : Nat} {sh : xSh} {R : xR} {L : xL} {I : xI} {Q : xQ} {a b : Nat} {H : hmH} {l : List Nat} (hh : xHall sh R a) (hb : sh b = some (.inr (.int, 6))) (hab : b < a ∨ a + 5 ≤ b) (hH : hmR I a H) (hll : l.length = (hmLine H).length) (hrow : ∀ i, i < l.length → I b i = nI (l.getD i 0)) (hQ : ∀ I', hmFr (hmIn a 5) I I' → hmR I' a (hmStand H l) → Q none 0 sh R L I') : Ex d 0 0 MX1_standAs 0 sh R L I 0 [some (.ref a), some (.ref b), some (.int (nI l.length)), none] [] Q := by
  refine Ex_iconst 1 (v := 0) dX1_standAs_0 (by decide) rfl ?_
  refine Ex_istore_n 2 (i := 3) (ls' := [some (.ref a), some (.ref b), some (.int (nI l.length)), some (.int 0)]) dX1_standAs_1 rfl (Nat.le_of_ble_eq_true rfl) rfl rfl rfl ?_
  refine Ex_I (va_up_id I (a + 3)).symm ?_
  exact c_standAs_loop hh hb hab hH hll hrow hQ l.length 0 _ (by omega) (fun j hj => absurd hj (by omega))
theorem hm_cpy {f g : Nat → Int32} {k j : Nat} (h : j < k) : va_cpy f g 0 0 k j = f j := by
  rw [pk_cpy_in (by omega) (by omega)]
  simp
set_option maxHeartbeats 4000000 in
theorem c_copyFrom {d : Nat} {sh : xSh} {R : xR} {L : xL} {I : xI} {Q : xQ} {a b : Nat} {H : hmH} (hh : xHall sh R a) (hb : xHall sh R b) (hab : b + 5 ≤ a ∨ a + 5 ≤ b) (hH : hmR I b H) (hQ : ∀ I', hmFr (hmIn a 5) I I' → hmR I' a H → Q none 0 sh R L I') : Ex (d + 1) 0 0 MX1_copyFrom 0 sh R L I 0 [some (.ref a), some (.ref b)] [] Q := by
  obtain ⟨h6, hlen, hset, htak, hmin, hline, hhas, hheld, htalk⟩ := id hH
  refine Ex_aload_n 1 (i := 1) dX1_copyFrom_0 rfl rfl rfl ?_
  refine Ex_getR 4 dX1_copyFrom_1 fX1_9 hb.1 rfl hb.2.2.2.2.2.1 rfl ?_
  refine Ex_iconst 5 (v := 0) dX1_copyFrom_4 (by decide) rfl ?_
  refine Ex_aload_n 6 (i := 0) dX1_copyFrom_5 rfl rfl rfl ?_
  refine Ex_getR 9 dX1_copyFrom_6 fX1_9 hh.1 rfl hh.2.2.2.2.2.1 rfl ?_
  refine Ex_iconst 10 (v := 0) dX1_copyFrom_9 (by decide) rfl ?_
  refine Ex_bipush 12 (v := 6) dX1_copyFrom_10 (by decide) rfl ?_
  refine Ex_cpI 15 0 0 6 (I (b + 1)) (I (a + 1)) (va_up I (a + 1) (va_cpy (I (b + 1)) (I (a + 1)) 0 0 6)) dX1_copyFrom_12 lX1_45 hb.2.1 hh.2.1 rfl rfl rfl (by decide) (by decide) (by decide) (by decide) rfl rfl rfl (by decide) rfl ?_
  refine Ex_aload_n 16 (i := 1) dX1_copyFrom_15 rfl rfl rfl ?_
  refine Ex_getR 19 dX1_copyFrom_16 fX1_15 hb.1 rfl hb.2.2.2.2.2.2.1 rfl ?_
  refine Ex_iconst 20 (v := 0) dX1_copyFrom_19 (by decide) rfl ?_
  refine Ex_aload_n 21 (i := 0) dX1_copyFrom_20 rfl rfl rfl ?_
  refine Ex_getR 24 dX1_copyFrom_21 fX1_15 hh.1 rfl hh.2.2.2.2.2.2.1 rfl ?_
  refine Ex_iconst 25 (v := 0) dX1_copyFrom_24 (by decide) rfl ?_
  refine Ex_bipush 27 (v := 6) dX1_copyFrom_25 (by decide) rfl ?_
  refine Ex_cpI 30 0 0 6 (I (b + 2)) (I (a + 2)) (va_up (va_up I (a + 1) (va_cpy (I (b + 1)) (I (a + 1)) 0 0 6)) (a + 2) (va_cpy (I (b + 2)) (I (a + 2)) 0 0 6)) dX1_copyFrom_27 lX1_45 hb.2.2.1 hh.2.2.1 rfl rfl rfl (by decide) (by decide) (by decide) (by decide) (va_up_ne _ _ (by omega)) (va_up_ne _ _ (by omega)) rfl (by decide) rfl ?_
  refine Ex_aload_n 31 (i := 1) dX1_copyFrom_30 rfl rfl rfl ?_
  refine Ex_getR 34 dX1_copyFrom_31 fX1_18 hb.1 rfl hb.2.2.2.2.2.2.2.1 rfl ?_
  refine Ex_iconst 35 (v := 0) dX1_copyFrom_34 (by decide) rfl ?_
  refine Ex_aload_n 36 (i := 0) dX1_copyFrom_35 rfl rfl rfl ?_
  refine Ex_getR 39 dX1_copyFrom_36 fX1_18 hh.1 rfl hh.2.2.2.2.2.2.2.1 rfl ?_
  refine Ex_iconst 40 (v := 0) dX1_copyFrom_39 (by decide) rfl ?_
  refine Ex_bipush 42 (v := 6) dX1_copyFrom_40 (by decide) rfl ?_
  refine Ex_cpI 45 0 0 6 (I (b + 3)) (I (a + 3)) (va_up (va_up (va_up I (a + 1) (va_cpy (I (b + 1)) (I (a + 1)) 0 0 6)) (a + 2) (va_cpy (I (b + 2)) (I (a + 2)) 0 0 6)) (a + 3) (va_cpy (I (b + 3)) (I (a + 3)) 0 0 6)) dX1_copyFrom_42 lX1_45 hb.2.2.2.1 hh.2.2.2.1 rfl rfl rfl (by decide) (by decide) (by decide) (by decide) ((va_up_ne _ _ (by omega)).trans (va_up_ne _ _ (by omega))) ((va_up_ne _ _ (by omega)).trans (va_up_ne _ _ (by omega))) rfl (by decide) rfl ?_
  refine Ex_aload_n 46 (i := 1) dX1_copyFrom_45 rfl rfl rfl ?_
  refine Ex_getR 49 dX1_copyFrom_46 fX1_21 hb.1 rfl hb.2.2.2.2.2.2.2.2 rfl ?_
  refine Ex_iconst 50 (v := 0) dX1_copyFrom_49 (by decide) rfl ?_
  refine Ex_aload_n 51 (i := 0) dX1_copyFrom_50 rfl rfl rfl ?_
  refine Ex_getR 54 dX1_copyFrom_51 fX1_21 hh.1 rfl hh.2.2.2.2.2.2.2.2 rfl ?_
  refine Ex_iconst 55 (v := 0) dX1_copyFrom_54 (by decide) rfl ?_
  refine Ex_aload_n 56 (i := 0) dX1_copyFrom_55 rfl rfl rfl ?_
  refine Ex_getR 59 dX1_copyFrom_56 fX1_21 hh.1 rfl hh.2.2.2.2.2.2.2.2 rfl ?_
  refine Ex_alen 60 0 dX1_copyFrom_59 hh.2.2.2.2.1 (fun _ => rfl) rfl ?_
  refine Ex_cpI 63 0 0 36 (I (b + 4)) (I (a + 4)) (va_up (va_up (va_up (va_up I (a + 1) (va_cpy (I (b + 1)) (I (a + 1)) 0 0 6)) (a + 2) (va_cpy (I (b + 2)) (I (a + 2)) 0 0 6)) (a + 3) (va_cpy (I (b + 3)) (I (a + 3)) 0 0 6)) (a + 4) (va_cpy (I (b + 4)) (I (a + 4)) 0 0 36)) dX1_copyFrom_60 lX1_45 hb.2.2.2.2.1 hh.2.2.2.2.1 rfl rfl rfl (by decide) (by decide) (by decide) (by decide) ((va_up_ne _ _ (by omega)).trans ((va_up_ne _ _ (by omega)).trans (va_up_ne _ _ (by omega)))) ((va_up_ne _ _ (by omega)).trans ((va_up_ne _ _ (by omega)).trans (va_up_ne _ _ (by omega)))) rfl (by decide) rfl ?_
  refine Ex_aload_n 64 (i := 0) dX1_copyFrom_63 rfl rfl rfl ?_
  refine Ex_aload_n 65 (i := 1) dX1_copyFrom_64 rfl rfl rfl ?_
  refine Ex_gI 68 (I b 4) dX1_copyFrom_65 fX1_33 hb.1 rfl (congrFun ((va_up_ne _ _ (by omega)).trans ((va_up_ne _ _ (by omega)).trans ((va_up_ne _ _ (by omega)).trans (va_up_ne _ _ (by omega))))) _) rfl ?_
  refine Ex_pI 71 (I a) (va_up (va_up (va_up (va_up (va_up I (a + 1) (va_cpy (I (b + 1)) (I (a + 1)) 0 0 6)) (a + 2) (va_cpy (I (b + 2)) (I (a + 2)) 0 0 6)) (a + 3) (va_cpy (I (b + 3)) (I (a + 3)) 0 0 6)) (a + 4) (va_cpy (I (b + 4)) (I (a + 4)) 0 0 36)) a (va_up (I a) 4 (I b 4))) dX1_copyFrom_68 fX1_33 rfl hh.1 rfl (fun _ => rfl) ((va_up_ne _ _ (by omega)).trans ((va_up_ne _ _ (by omega)).trans ((va_up_ne _ _ (by omega)).trans (va_up_ne _ _ (by omega))))) rfl rfl rfl ?_
  refine Ex_aload_n 72 (i := 0) dX1_copyFrom_71 rfl rfl rfl ?_
  refine Ex_aload_n 73 (i := 1) dX1_copyFrom_72 rfl rfl rfl ?_
  refine Ex_gI 76 (I b 5) dX1_copyFrom_73 fX1_36 hb.1 rfl (congrFun ((va_up_ne _ _ (by omega)).trans ((va_up_ne _ _ (by omega)).trans ((va_up_ne _ _ (by omega)).trans ((va_up_ne _ _ (by omega)).trans (va_up_ne _ _ (by omega)))))) _) rfl ?_
  refine Ex_pI 79 (va_up (I a) 4 (I b 4)) (va_up (va_up (va_up (va_up (va_up I (a + 1) (va_cpy (I (b + 1)) (I (a + 1)) 0 0 6)) (a + 2) (va_cpy (I (b + 2)) (I (a + 2)) 0 0 6)) (a + 3) (va_cpy (I (b + 3)) (I (a + 3)) 0 0 6)) (a + 4) (va_cpy (I (b + 4)) (I (a + 4)) 0 0 36)) a (va_up (va_up (I a) 4 (I b 4)) 5 (I b 5))) dX1_copyFrom_76 fX1_36 rfl hh.1 rfl (fun _ => rfl) (va_up_self _ _ _) rfl (va_up_up _ _ _ _) rfl ?_
  refine Ex_aload_n 80 (i := 0) dX1_copyFrom_79 rfl rfl rfl ?_
  refine Ex_aload_n 81 (i := 1) dX1_copyFrom_80 rfl rfl rfl ?_
  refine Ex_gI 84 (I b 6) dX1_copyFrom_81 fX1_39 hb.1 rfl (congrFun ((va_up_ne _ _ (by omega)).trans ((va_up_ne _ _ (by omega)).trans ((va_up_ne _ _ (by omega)).trans ((va_up_ne _ _ (by omega)).trans (va_up_ne _ _ (by omega)))))) _) rfl ?_
  refine Ex_pI 87 (va_up (va_up (I a) 4 (I b 4)) 5 (I b 5)) (va_up (va_up (va_up (va_up (va_up I (a + 1) (va_cpy (I (b + 1)) (I (a + 1)) 0 0 6)) (a + 2) (va_cpy (I (b + 2)) (I (a + 2)) 0 0 6)) (a + 3) (va_cpy (I (b + 3)) (I (a + 3)) 0 0 6)) (a + 4) (va_cpy (I (b + 4)) (I (a + 4)) 0 0 36)) a (va_up (va_up (va_up (I a) 4 (I b 4)) 5 (I b 5)) 6 (I b 6))) dX1_copyFrom_84 fX1_39 rfl hh.1 rfl (fun _ => rfl) (va_up_self _ _ _) rfl (va_up_up _ _ _ _) rfl ?_
  refine Ex_aload_n 88 (i := 0) dX1_copyFrom_87 rfl rfl rfl ?_
  refine Ex_aload_n 89 (i := 1) dX1_copyFrom_88 rfl rfl rfl ?_
  refine Ex_gI 92 (I b 7) dX1_copyFrom_89 fX1_42 hb.1 rfl (congrFun ((va_up_ne _ _ (by omega)).trans ((va_up_ne _ _ (by omega)).trans ((va_up_ne _ _ (by omega)).trans ((va_up_ne _ _ (by omega)).trans (va_up_ne _ _ (by omega)))))) _) rfl ?_
  refine Ex_pI 95 (va_up (va_up (va_up (I a) 4 (I b 4)) 5 (I b 5)) 6 (I b 6)) (va_up (va_up (va_up (va_up (va_up I (a + 1) (va_cpy (I (b + 1)) (I (a + 1)) 0 0 6)) (a + 2) (va_cpy (I (b + 2)) (I (a + 2)) 0 0 6)) (a + 3) (va_cpy (I (b + 3)) (I (a + 3)) 0 0 6)) (a + 4) (va_cpy (I (b + 4)) (I (a + 4)) 0 0 36)) a (va_up (va_up (va_up (va_up (I a) 4 (I b 4)) 5 (I b 5)) 6 (I b 6)) 7 (I b 7))) dX1_copyFrom_92 fX1_42 rfl hh.1 rfl (fun _ => rfl) (va_up_self _ _ _) rfl (va_up_up _ _ _ _) rfl ?_
  refine Ex_ret0 dX1_copyFrom_95 rfl (Or.inl rfl) ?_
  refine hQ _ (hmFr.up (hmFr.up (hmFr.up (hmFr.up (hmFr.up hmFr.rf (by simp only [hmIn]; omega)) (by simp only [hmIn]; omega)) (by simp only [hmIn]; omega)) (by simp only [hmIn]; omega)) (by simp only [hmIn]; omega)) (hmR_mk (va_up_self _ _ _) ((va_up_ne _ _ (by omega)).trans ((va_up_ne _ _ (by omega)).trans ((va_up_ne _ _ (by omega)).trans ((va_up_ne _ _ (by omega)).trans (va_up_self _ _ _))))) ((va_up_ne _ _ (by omega)).trans ((va_up_ne _ _ (by omega)).trans ((va_up_ne _ _ (by omega)).trans (va_up_self _ _ _)))) ((va_up_ne _ _ (by omega)).trans ((va_up_ne _ _ (by omega)).trans (va_up_self _ _ _))) ((va_up_ne _ _ (by omega)).trans (va_up_self _ _ _)) ?_)
  exact ⟨h6, hlen, hset, htak, hmin, fun i hi => by rw [hm_cpy (by omega)]; exact hline i hi, fun w hw => by rw [hm_cpy hw]; exact hhas w hw, fun w hw => by rw [hm_cpy hw]; exact hheld w hw, fun x hx y hy => by rw [hm_cpy (by omega)]; exact htalk x hx y hy⟩
