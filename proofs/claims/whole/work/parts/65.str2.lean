/-- the signs that are tokens -/
def hmSg8 (k : Nat) : Bool := k == 40 || k == 41 || k == 60 || k == 61 || k == 43 || k == 45 || k == 42 || k == 59
theorem lmJ1_92 : Cond.methodLink RJ1 92 Lib.Math.max.name ∈ lw_good := xt 396 (by decide +kernel) rfl
theorem lmJ1_38 : Cond.methodLink RJ1 38 Lib.Math.min.name ∈ lw_good := xt 399 (by decide +kernel) rfl
theorem hm_byt0 : ∀ k, k < 128 → (nI k).toInt8.toInt32 = nI k := by decide +kernel
theorem hm_sg_in : ∀ k, k < 128 → ∀ j, j < 8 → xsBy j = nI k → hmSg8 k = true := by decide +kernel
theorem hm_sg_out : ∀ k, k < 128 → (∀ j, j < 8 → ¬ xsBy j = nI k) → hmSg8 k = false := by decide +kernel
set_option maxHeartbeats 4000000 in
theorem cs_coder {sq sv d : Nat} {sh : xSh} {R : xR} {L : xL} {I : xI} {Q : xQ} (hQ : Q (some (.int 0)) 0 sh R L I) : ExS sq sv d 0 0 MJ0_coder_7d493 0 sh R L I 0 [some (.ref sq)] [] Q := by
  refine Es_gets 3 dJ0_coder_7d493_0 rfl rfl ?_
  refine Es_if_eq 6 13 dJ0_coder_7d493_3 (by decide) rfl (fun c => absurd c (by decide)) (fun _ => ?_)
  refine Es_aload_n 7 (i := 0) dJ0_coder_7d493_6 rfl rfl rfl ?_
  refine Es_getC 10 dJ0_coder_7d493_7 rfl rfl ?_
  refine Es_goto 14 dJ0_coder_7d493_10 (by decide) ?_
  refine Es_iret dJ0_coder_7d493_14 rfl (by decide) (Or.inl rfl) ?_
  exact hQ
set_option maxHeartbeats 4000000 in
theorem cs_isLatin1 {sq sv d : Nat} {sh : xSh} {R : xR} {L : xL} {I : xI} {Q : xQ} (hQ : Q (some (.int 1)) 0 sh R L I) : ExS sq sv d 0 0 MJ0_isLatin1_aae02 0 sh R L I 0 [some (.ref sq)] [] Q := by
  refine Es_gets 3 dJ0_isLatin1_aae02_0 rfl rfl ?_
  refine Es_if_eq 6 17 dJ0_isLatin1_aae02_3 (by decide) rfl (fun c => absurd c (by decide)) (fun _ => ?_)
  refine Es_aload_n 7 (i := 0) dJ0_isLatin1_aae02_6 rfl rfl rfl ?_
  refine Es_getC 10 dJ0_isLatin1_aae02_7 rfl rfl ?_
  refine Es_if_ne 13 17 dJ0_isLatin1_aae02_10 (by decide) rfl (fun c => absurd rfl c) (fun _ => ?_)
  refine Es_iconst 14 (v := 1) dJ0_isLatin1_aae02_13 (by decide) rfl ?_
  refine Es_goto 18 dJ0_isLatin1_aae02_14 (by decide) ?_
  refine Es_iret dJ0_isLatin1_aae02_18 rfl (by decide) (Or.inl rfl) ?_
  exact hQ
set_option maxHeartbeats 4000000 in
theorem cs_length {sq sv d : Nat} {sh : xSh} {R : xR} {L : xL} {I : xI} {Q : xQ} (hQ : Q (some (.int 8)) 0 sh R L I) : ExS sq sv (d + 1) 0 0 MJ0_length_8abf5 0 sh R L I 0 [some (.ref sq)] [] Q := by
  refine Es_aload_n 1 (i := 0) dJ0_length_8abf5_0 rfl rfl rfl ?_
  refine Es_getV 4 dJ0_length_8abf5_1 rfl rfl ?_
  refine Es_tlen 5 dJ0_length_8abf5_4 rfl ?_
  refine Es_aload_n 6 (i := 0) dJ0_length_8abf5_5 rfl rfl rfl ?_
  refine Es_callT (M' := MJ0_coder_7d493) 9 [] (rest := [.int 8]) dJ0_length_8abf5_6 lJ0_335 mJ0_coder_7d493 rfl rfl (Nat.le_of_ble_eq_true rfl) (Nat.le_of_ble_eq_true rfl) rfl ?_
  refine cs_coder ?_
  simp only [Option.toList, List.nil_append, List.cons_append]
  refine Es_ishr 10 dJ0_length_8abf5_9 rfl ?_
  rw [show ((8 : Int32) >>> (0 &&& 31)) = 8 by decide]
  refine Es_iret dJ0_length_8abf5_10 rfl rfl (Or.inl rfl) ?_
  exact hQ
set_option maxHeartbeats 4000000 in
theorem cs_canEncode {sq sv d : Nat} {sh : xSh} {R : xR} {L : xL} {I : xI} {Q : xQ} {x : Nat} (hx : x < 128) (hQ : Q (some (.int 1)) 0 sh R L I) : ExS sq sv d 0 0 MJ1_canEncode_9a6ad 0 sh R L I 0 [some (.int (nI x))] [] Q := by
  refine Es_iload_n 1 (i := 0) dJ1_canEncode_9a6ad_0 rfl rfl rfl ?_
  refine Es_if_lt 4 15 dJ1_canEncode_9a6ad_1 (by decide) rfl (fun c => absurd c (Int32.not_lt.mpr (hm_nI0 (by omega)))) (fun _ => ?_)
  refine Es_iload_n 5 (i := 0) dJ1_canEncode_9a6ad_4 rfl rfl rfl ?_
  refine Es_sipush 8 (v := 255) dJ1_canEncode_9a6ad_5 (by decide) rfl ?_
  refine Es_icmp_gt 11 15 dJ1_canEncode_9a6ad_8 (by decide) rfl (fun c => absurd c (Int32.not_lt.mpr (nI_le (b := 255) (by omega) (by omega)))) (fun _ => ?_)
  refine Es_iconst 12 (v := 1) dJ1_canEncode_9a6ad_11 (by decide) rfl ?_
  refine Es_goto 16 dJ1_canEncode_9a6ad_12 (by decide) ?_
  refine Es_iret dJ1_canEncode_9a6ad_16 rfl (by decide) (Or.inl rfl) ?_
  exact hQ
set_option maxHeartbeats 4000000 in
theorem cs_ixc_loop {sq sv d : Nat} {sh : xSh} {R : xR} {L : xL} {I : xI} {Q : xQ} {x : Nat} (hx : x < 128) (hQ : ∀ r : Int32, (r < 0 ↔ hmSg8 x = false) → Q (some (.int r)) 0 sh R L I) : ∀ n j, n + j = 8 → (∀ i, i < j → ¬ xsBy i = nI x) → ExS sq sv d 0 0 MJ1_indexOfChar_4cfef 0 sh R L I 7 [some (.ref sv), some (.int (nI x)), some (.int 0), some (.int 8), some (.int (nI x)), some (.int (nI j))] [] Q := by
  intro n
  induction n with
  | zero =>
    intro j hj hi
    refine Es_iload 9 dJ1_indexOfChar_4cfef_7 rfl rfl ?_
    refine Es_iload_n 10 (i := 3) dJ1_indexOfChar_4cfef_9 rfl rfl rfl ?_
    refine Es_icmp_ge 13 31 dJ1_indexOfChar_4cfef_10 (by decide) rfl (fun c => ?_) (fun c => absurd c (fun q => q (nI_le (a := 8) (by omega) (by omega))))
    refine Es_iconst 32 (v := (-1)) dJ1_indexOfChar_4cfef_31 (by decide) rfl ?_
    refine Es_iret dJ1_indexOfChar_4cfef_32 rfl rfl (Or.inl rfl) ?_
    exact hQ _ ⟨fun _ => hm_sg_out x hx (fun j2 h2 => hi j2 (by omega)), fun _ => by decide⟩
  | succ n ih =>
    intro j hj hi
    refine Es_iload 9 dJ1_indexOfChar_4cfef_7 rfl rfl ?_
    refine Es_iload_n 10 (i := 3) dJ1_indexOfChar_4cfef_9 rfl rfl rfl ?_
    refine Es_icmp_ge 13 31 dJ1_indexOfChar_4cfef_10 (by decide) rfl (fun c => absurd c (nI_ge (b := 8) (by omega) (by omega))) (fun c => ?_)
    refine Es_aload_n 14 (i := 0) dJ1_indexOfChar_4cfef_13 rfl rfl rfl ?_
    refine Es_iload 16 dJ1_indexOfChar_4cfef_14 rfl rfl ?_
    refine Es_tb 17 j dJ1_indexOfChar_4cfef_16 (by omega) rfl ?_
    refine Es_iload 19 dJ1_indexOfChar_4cfef_17 rfl rfl ?_
    refine Es_icmp_ne 22 25 dJ1_indexOfChar_4cfef_19 (by decide) rfl (fun c => ?_) (fun c => ?_)
    · refine Es_iinc 28 (v := (nI (j + 1))) (ls' := [some (.ref sv), some (.int (nI x)), some (.int 0), some (.int 8), some (.int (nI x)), some (.int (nI (j + 1)))]) dJ1_indexOfChar_4cfef_25 rfl (xinc _) (Nat.le_of_ble_eq_true rfl) rfl rfl rfl ?_
      refine Es_goto 7 dJ1_indexOfChar_4cfef_28 (by decide) ?_
      refine ih (j + 1) (by omega) (fun i h2 => ?_)
      by_cases e : i = j
      · rw [e]
        exact c
      · exact hi i (by omega)
    · refine Es_iload 24 dJ1_indexOfChar_4cfef_22 rfl rfl ?_
      refine Es_iret dJ1_indexOfChar_4cfef_24 rfl rfl (Or.inl rfl) ?_
      have h1 := hm_sg_in x hx j (by omega) c
      exact hQ _ ⟨fun q => absurd q (Int32.not_lt.mpr (hm_nI0 (by omega))), fun q => absurd h1 (by rw [q]; decide)⟩
set_option maxHeartbeats 4000000 in
theorem cs_indexOfChar {sq sv d : Nat} {sh : xSh} {R : xR} {L : xL} {I : xI} {Q : xQ} {x : Nat} (hx : x < 128) (hQ : ∀ r : Int32, (r < 0 ↔ hmSg8 x = false) → Q (some (.int r)) 0 sh R L I) : ExS sq sv d 0 0 MJ1_indexOfChar_4cfef 0 sh R L I 0 [some (.ref sv), some (.int (nI x)), some (.int 0), some (.int 8), none, none] [] Q := by
  refine Es_iload_n 1 (i := 1) dJ1_indexOfChar_4cfef_0 rfl rfl rfl ?_
  refine Es_i2b 2 dJ1_indexOfChar_4cfef_1 rfl ?_
  rw [hm_byt0 x hx]
  refine Es_istore 4 (ls' := [some (.ref sv), some (.int (nI x)), some (.int 0), some (.int 8), some (.int (nI x)), none]) dJ1_indexOfChar_4cfef_2 (Nat.le_of_ble_eq_true rfl) rfl rfl rfl ?_
  refine Es_iload_n 5 (i := 2) dJ1_indexOfChar_4cfef_4 rfl rfl rfl ?_
  refine Es_istore 7 (ls' := [some (.ref sv), some (.int (nI x)), some (.int 0), some (.int 8), some (.int (nI x)), some (.int (nI 0))]) dJ1_indexOfChar_4cfef_5 (Nat.le_of_ble_eq_true rfl) rfl rfl rfl ?_
  exact cs_ixc_loop hx hQ 8 0 rfl (fun i h => absurd h (by omega))
set_option maxHeartbeats 4000000 in
theorem cs_indexOfL {sq sv d : Nat} {sh : xSh} {R : xR} {L : xL} {I : xI} {Q : xQ} {x : Nat} (hx : x < 128) (hQ : ∀ r : Int32, (r < 0 ↔ hmSg8 x = false) → Q (some (.int r)) 0 sh R L I) : ExS sq sv (d + 1) 0 0 MJ1_indexOf_4cfef 0 sh R L I 0 [some (.ref sv), some (.int (nI x)), some (.int 0), some (.int 8)] [] Q := by
  refine Es_iload_n 1 (i := 1) dJ1_indexOf_4cfef_0 rfl rfl rfl ?_
  refine Es_callS (M' := MJ1_canEncode_9a6ad) 4 [.int (nI x)] (rest := []) dJ1_indexOf_4cfef_1 lJ1_88 mJ1_canEncode_9a6ad rfl rfl (Nat.le_of_ble_eq_true rfl) (Nat.le_of_ble_eq_true rfl) rfl ?_
  refine cs_canEncode hx ?_
  simp only [Option.toList, List.nil_append, List.cons_append]
  refine Es_if_ne 7 9 dJ1_indexOf_4cfef_4 (by decide) rfl (fun _ => ?_) (fun c => absurd c (by decide))
  refine Es_iload_n 10 (i := 2) dJ1_indexOf_4cfef_9 rfl rfl rfl ?_
  refine Es_iconst 11 (v := 0) dJ1_indexOf_4cfef_10 (by decide) rfl ?_
  refine Es_max 14 dJ1_indexOf_4cfef_11 lmJ1_92 (Nat.le_of_ble_eq_true rfl) rfl ?_
  rw [show (if (0 : Int32) < 0 then (0 : Int32) else 0) = 0 by decide]
  refine Es_istore_n 15 (i := 2) (ls' := [some (.ref sv), some (.int (nI x)), some (.int 0), some (.int 8)]) dJ1_indexOf_4cfef_14 rfl (Nat.le_of_ble_eq_true rfl) rfl rfl rfl ?_
  refine Es_iload_n 16 (i := 3) dJ1_indexOf_4cfef_15 rfl rfl rfl ?_
  refine Es_aload_n 17 (i := 0) dJ1_indexOf_4cfef_16 rfl rfl rfl ?_
  refine Es_tlen 18 dJ1_indexOf_4cfef_17 rfl ?_
  refine Es_min 21 dJ1_indexOf_4cfef_18 lmJ1_38 (Nat.le_of_ble_eq_true rfl) rfl ?_
  rw [show (if (8 : Int32) < 8 then (8 : Int32) else 8) = 8 by decide]
  refine Es_istore_n 22 (i := 3) (ls' := [some (.ref sv), some (.int (nI x)), some (.int 0), some (.int 8)]) dJ1_indexOf_4cfef_21 rfl (Nat.le_of_ble_eq_true rfl) rfl rfl rfl ?_
  refine Es_iload_n 23 (i := 2) dJ1_indexOf_4cfef_22 rfl rfl rfl ?_
  refine Es_iload_n 24 (i := 3) dJ1_indexOf_4cfef_23 rfl rfl rfl ?_
  refine Es_icmp_lt 27 29 dJ1_indexOf_4cfef_24 (by decide) rfl (fun _ => ?_) (fun c => absurd (by decide) c)
  refine Es_aload_n 30 (i := 0) dJ1_indexOf_4cfef_29 rfl rfl rfl ?_
  refine Es_iload_n 31 (i := 1) dJ1_indexOf_4cfef_30 rfl rfl rfl ?_
  refine Es_iload_n 32 (i := 2) dJ1_indexOf_4cfef_31 rfl rfl rfl ?_
  refine Es_iload_n 33 (i := 3) dJ1_indexOf_4cfef_32 rfl rfl rfl ?_
  refine Es_callS (M' := MJ1_indexOfChar_4cfef) 36 [.ref sv, .int (nI x), .int 0, .int 8] (rest := []) dJ1_indexOf_4cfef_33 lJ1_95 mJ1_indexOfChar_4cfef rfl rfl (Nat.le_of_ble_eq_true rfl) (Nat.le_of_ble_eq_true rfl) rfl ?_
  refine cs_indexOfChar hx (fun r hr => ?_)
  simp only [Option.toList, List.nil_append, List.cons_append]
  refine Es_iret dJ1_indexOf_4cfef_36 rfl rfl (Or.inl rfl) ?_
  exact hQ r hr
set_option maxHeartbeats 4000000 in
theorem cs_indexOf2 {sq sv d : Nat} {sh : xSh} {R : xR} {L : xL} {I : xI} {Q : xQ} {x : Nat} (hx : x < 128) (hQ : ∀ r : Int32, (r < 0 ↔ hmSg8 x = false) → Q (some (.int r)) 0 sh R L I) : ExS sq sv (d + 2) 0 0 MJ0_indexOf_7cf53 0 sh R L I 0 [some (.ref sq), some (.int (nI x)), some (.int 0)] [] Q := by
  refine Es_aload_n 1 (i := 0) dJ0_indexOf_7cf53_0 rfl rfl rfl ?_
  refine Es_callT (M' := MJ0_isLatin1_aae02) 4 [] (rest := []) dJ0_indexOf_7cf53_1 lJ0_492 mJ0_isLatin1_aae02 rfl rfl (Nat.le_of_ble_eq_true rfl) (Nat.le_of_ble_eq_true rfl) rfl ?_
  refine cs_isLatin1 ?_
  simp only [Option.toList, List.nil_append, List.cons_append]
  refine Es_if_eq 7 23 dJ0_indexOf_7cf53_4 (by decide) rfl (fun c => absurd c (by decide)) (fun _ => ?_)
  refine Es_aload_n 8 (i := 0) dJ0_indexOf_7cf53_7 rfl rfl rfl ?_
  refine Es_getV 11 dJ0_indexOf_7cf53_8 rfl rfl ?_
  refine Es_iload_n 12 (i := 1) dJ0_indexOf_7cf53_11 rfl rfl rfl ?_
  refine Es_iload_n 13 (i := 2) dJ0_indexOf_7cf53_12 rfl rfl rfl ?_
  refine Es_aload_n 14 (i := 0) dJ0_indexOf_7cf53_13 rfl rfl rfl ?_
  refine Es_callT (M' := MJ0_length_8abf5) 17 [] (rest := [.int 0, .int (nI x), .ref sv]) dJ0_indexOf_7cf53_14 lJ0_505 mJ0_length_8abf5 rfl rfl (Nat.le_of_ble_eq_true rfl) (Nat.le_of_ble_eq_true rfl) rfl ?_
  refine cs_length ?_
  simp only [Option.toList, List.nil_append, List.cons_append]
  refine Es_callS (M' := MJ1_indexOf_4cfef) 20 [.ref sv, .int (nI x), .int 0, .int 8] (rest := []) dJ0_indexOf_7cf53_17 lJ0_637 mJ1_indexOf_4cfef rfl rfl (Nat.le_of_ble_eq_true rfl) (Nat.le_of_ble_eq_true rfl) rfl ?_
  refine cs_indexOfL hx (fun r hr => ?_)
  simp only [Option.toList, List.nil_append, List.cons_append]
  refine Es_goto 36 dJ0_indexOf_7cf53_20 (by decide) ?_
  refine Es_iret dJ0_indexOf_7cf53_36 rfl rfl (Or.inl rfl) ?_
  exact hQ r hr
set_option maxHeartbeats 4000000 in
theorem cs_indexOf {sq sv d : Nat} {sh : xSh} {R : xR} {L : xL} {I : xI} {Q : xQ} {x : Nat} (hx : x < 128) (hQ : ∀ r : Int32, (r < 0 ↔ hmSg8 x = false) → Q (some (.int r)) 0 sh R L I) : ExS sq sv (d + 3) 0 0 MJ0_indexOf_0f7a4 0 sh R L I 0 [some (.ref sq), some (.int (nI x))] [] Q := by
  refine Es_aload_n 1 (i := 0) dJ0_indexOf_0f7a4_0 rfl rfl rfl ?_
  refine Es_iload_n 2 (i := 1) dJ0_indexOf_0f7a4_1 rfl rfl rfl ?_
  refine Es_iconst 3 (v := 0) dJ0_indexOf_0f7a4_2 (by decide) rfl ?_
  refine Es_callT (M' := MJ0_indexOf_7cf53) 6 [.int (nI x), .int 0] (rest := []) dJ0_indexOf_0f7a4_3 lJ0_633 mJ0_indexOf_7cf53 rfl rfl (Nat.le_of_ble_eq_true rfl) (Nat.le_of_ble_eq_true rfl) rfl ?_
  refine cs_indexOf2 hx (fun r hr => ?_)
  simp only [Option.toList, List.nil_append, List.cons_append]
  refine Es_iret dJ0_indexOf_0f7a4_6 rfl rfl (Or.inl rfl) ?_
  exact hQ r hr
