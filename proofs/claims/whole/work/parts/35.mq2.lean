theorem hm_rangeF (f : Nat → Int32) (p : Nat → Bool) (i : Nat) (s : Int32) : ((List.range (i + 1)).filter p).foldl (fun s w => s ||| f w) s = ((List.range i).filter p).foldl (fun s w => s ||| f w) s ||| (if p i = true then f i else 0) := by
  rw [List.range_succ, List.filter_append, List.foldl_append]
  by_cases h : p i = true
  · simp [h]
  · have h2 : p i = false := by simpa using h
    simp [h2]
theorem hm_known_eq {O : hmO} {H : hmH} (hok : hmOk O H) : ((List.range (hmN O)).filter (fun w => decide (w ∈ hmLine H))).foldl (fun s w => s ||| hmHas H w) 0 = hmKnown H := by
  unfold hmKnown
  apply hm_orfold_eq
  intro w
  simp only [List.mem_filter, List.mem_range, decide_eq_true_eq]
  exact ⟨fun h => h.2, fun h => ⟨hok.2.1 w h, h⟩⟩
theorem hm_lost_eq {O : hmO} {H : hmH} (hok : hmOk O H) : ((List.range (hmN O)).filter (fun w => decide (w ∈ hmLine H) && !hmBit (hmKnown H) (hmTr O w))).foldl (fun s w => s ||| hmOne w) 0 = spLost O H := by
  unfold spLost
  apply hm_orfold_eq
  intro w
  simp only [List.mem_filter, List.mem_range, Bool.and_eq_true, decide_eq_true_eq]
  exact ⟨fun h => h.2, fun h => ⟨hok.2.1 w h.1, h⟩⟩
theorem hmBit_n {x : Int32} {k : Nat} (h : ¬ (x >>> (nI k &&& 31)) &&& 1 = 1) : hmBit x k = false := by
  cases hb : hmBit x k with
  | false => rfl
  | true => exact absurd (hmBit_1.mp hb) h
theorem hm_and1 (x : Int32) : x &&& 1 = 0 ∨ x &&& 1 = 1 := by
  have key : ∀ b : BitVec 32, b &&& 1#32 = 0#32 ∨ b &&& 1#32 = 1#32 := by
    intro b
    have h1 : b &&& 1#32 = BitVec.ofNat 32 (b.toNat % 2) := by
      apply BitVec.eq_of_toNat_eq
      simp only [BitVec.toNat_and, BitVec.toNat_ofNat]
      rw [show (1 % 2 ^ 32 : Nat) = 2 ^ 1 - 1 by decide, Nat.and_two_pow_sub_one_eq_mod]
      omega
    rw [h1]
    have h2 : b.toNat % 2 = 0 ∨ b.toNat % 2 = 1 := by omega
    rcases h2 with h | h <;> rw [h] <;> simp
  rcases key x.toBitVec with h | h
  · left
    apply Int32.toBitVec_inj.mp
    rw [Int32.toBitVec_and]
    exact h
  · right
    apply Int32.toBitVec_inj.mp
    rw [Int32.toBitVec_and]
    exact h
theorem hmBit_z {x : Int32} {k : Nat} : (x >>> (nI k &&& 31)) &&& 1 = 0 ↔ hmBit x k = false := by
  constructor
  · intro h
    apply hmBit_n
    rw [h]
    decide
  · intro h
    rcases hm_and1 (x >>> (nI k &&& 31)) with z | z
    · exact z
    · rw [hmBit_1.mpr z] at h
      exact absurd h (by decide)
set_option maxHeartbeats 4000000 in
theorem mb_lost_2 {d : Nat} {sh : xSh} {R : xR} {L : xL} {I : xI} {Q : xQ} {m : Nat} {H : hmH} {O : hmO} (hm : xModel sh R m) (hS : hmMr (I (m + 28)) H) (hO : hmMo I m O) (ho : hmOok O) (hok : hmOk O H) (hQ : Q (some (.int (spLost O H))) 0 sh R L I) : ∀ n i, n + i = hmN O → Ex d 0 0 MX9_lost 0 sh R L I 60 [some (.ref m), some (.int (hmBits (hmLine H))), some (.int (hmKnown H)), some (.int (((List.range i).filter (fun w => decide (w ∈ hmLine H) && !hmBit (hmKnown H) (hmTr O w))).foldl (fun s w => s ||| hmOne w) 0)), some (.int (nI i))] [] Q := by
  obtain ⟨s6, smin, slen, sset, stak, sline, sheld, shas, stalk⟩ := id hS
  obtain ⟨o6, ot1, ot2, oo, oll, owf⟩ := id ho
  obtain ⟨on, otk, ow, cd, cfrom, cto, clen, ccd, csem⟩ := id hO
  have hlN := hok.2.1
  have hb6 : ∀ u, u ∈ hmLine H → u < 6 := fun u hu => by have := hlN u hu; omega
  intro n
  induction n with
  | zero =>
    intro i hi
    refine Ex_iload 62 dX9_lost_60 rfl rfl ?_
    refine Ex_aload_n 63 (i := 0) dX9_lost_62 rfl rfl rfl ?_
    refine Ex_getR 66 dX9_lost_63 fX9_13 (xMs_0 hm) rfl (xMr_10 hm) rfl ?_
    refine Ex_iconst 67 (v := 0) dX9_lost_66 (by decide) rfl ?_
    refine Ex_aI 68 0 (I (m + 2) 0) dX9_lost_67 (xMs_2 hm) rfl (by decide) (by decide) rfl rfl ?_
    rw [on]
    refine Ex_icmp_ge 71 112 dX9_lost_68 (by decide) rfl (fun c1 => ?_) (fun c1 => absurd c1 (fun q => q (nI_le (by omega) (by omega))))
    refine Ex_iload_n 113 (i := 3) dX9_lost_112 rfl rfl rfl ?_
    refine Ex_iret dX9_lost_113 rfl rfl (Or.inl rfl) ?_
    rw [show i = hmN O by omega, hm_lost_eq hok]
    exact hQ
  | succ n ih =>
    intro i hi
    have e0 := hm_rangeF (fun w => hmOne w) (fun w => decide (w ∈ hmLine H) && !hmBit (hmKnown H) (hmTr O w)) i 0
    have hmm := hm_bits_mem hb6 (w := i) (by omega)
    refine Ex_iload 62 dX9_lost_60 rfl rfl ?_
    refine Ex_aload_n 63 (i := 0) dX9_lost_62 rfl rfl rfl ?_
    refine Ex_getR 66 dX9_lost_63 fX9_13 (xMs_0 hm) rfl (xMr_10 hm) rfl ?_
    refine Ex_iconst 67 (v := 0) dX9_lost_66 (by decide) rfl ?_
    refine Ex_aI 68 0 (I (m + 2) 0) dX9_lost_67 (xMs_2 hm) rfl (by decide) (by decide) rfl rfl ?_
    rw [on]
    refine Ex_icmp_ge 71 112 dX9_lost_68 (by decide) rfl (fun c1 => absurd c1 (nI_ge (by omega) (by omega))) (fun c1 => ?_)
    refine Ex_iload_n 72 (i := 3) dX9_lost_71 rfl rfl rfl ?_
    refine Ex_iload_n 73 (i := 1) dX9_lost_72 rfl rfl rfl ?_
    refine Ex_iload 75 dX9_lost_73 rfl rfl ?_
    refine Ex_ishr 76 dX9_lost_75 rfl ?_
    refine Ex_iconst 77 (v := 1) dX9_lost_76 (by decide) rfl ?_
    refine Ex_iand 78 dX9_lost_77 rfl ?_
    refine Ex_iconst 79 (v := 1) dX9_lost_78 (by decide) rfl ?_
    refine Ex_icmp_ne 82 103 dX9_lost_79 (by decide) rfl (fun c2 => ?_) (fun c2 => ?_)
    · refine Ex_iconst 104 (v := 0) dX9_lost_103 (by decide) rfl ?_
      refine Ex_ior 105 dX9_lost_104 rfl ?_
      refine Ex_istore_n 106 (i := 3) (ls' := [some (.ref m), some (.int (hmBits (hmLine H))), some (.int (hmKnown H)), some (.int ((((List.range i).filter (fun w => decide (w ∈ hmLine H) && !hmBit (hmKnown H) (hmTr O w))).foldl (fun s w => s ||| hmOne w) 0) ||| 0)), some (.int (nI i))]) dX9_lost_105 rfl (Nat.le_of_ble_eq_true rfl) rfl rfl rfl ?_
      refine Ex_iinc 109 (v := (nI (i + 1))) (ls' := [some (.ref m), some (.int (hmBits (hmLine H))), some (.int (hmKnown H)), some (.int ((((List.range i).filter (fun w => decide (w ∈ hmLine H) && !hmBit (hmKnown H) (hmTr O w))).foldl (fun s w => s ||| hmOne w) 0) ||| 0)), some (.int (nI (i + 1)))]) dX9_lost_106 rfl (xinc _) (Nat.le_of_ble_eq_true rfl) rfl rfl rfl ?_
      refine Ex_goto 60 dX9_lost_109 (by decide) ?_
      have h1 : decide (i ∈ hmLine H) = false := by rw [← hmm]; exact hmBit_n c2
      rw [h1, Bool.false_and, if_neg (by decide)] at e0
      refine Ex_l (ls' := [some (.ref m), some (.int (hmBits (hmLine H))), some (.int (hmKnown H)), some (.int (((List.range (i + 1)).filter (fun w => decide (w ∈ hmLine H) && !hmBit (hmKnown H) (hmTr O w))).foldl (fun s w => s ||| hmOne w) 0)), some (.int (nI (i + 1)))]) (by rw [e0]) ?_
      exact ih (i + 1) (by omega)
    · refine Ex_iload_n 83 (i := 2) dX9_lost_82 rfl rfl rfl ?_
      refine Ex_aload_n 84 (i := 0) dX9_lost_83 rfl rfl rfl ?_
      refine Ex_getR 87 dX9_lost_84 fX9_23 (xMs_0 hm) rfl (xMr_13 hm) rfl ?_
      refine Ex_iload 89 dX9_lost_87 rfl rfl ?_
      refine Ex_aI 90 i (I (m + 5) i) dX9_lost_89 (xMs_5 hm) rfl (by omega) (by decide) rfl rfl ?_
      rw [(ow i (by omega)).2.1]
      refine Ex_ishr 91 dX9_lost_90 rfl ?_
      refine Ex_iconst 92 (v := 1) dX9_lost_91 (by decide) rfl ?_
      refine Ex_iand 93 dX9_lost_92 rfl ?_
      refine Ex_if_ne 96 103 dX9_lost_93 (by decide) rfl (fun c3 => ?_) (fun c3 => ?_)
      · refine Ex_iconst 104 (v := 0) dX9_lost_103 (by decide) rfl ?_
        refine Ex_ior 105 dX9_lost_104 rfl ?_
        refine Ex_istore_n 106 (i := 3) (ls' := [some (.ref m), some (.int (hmBits (hmLine H))), some (.int (hmKnown H)), some (.int ((((List.range i).filter (fun w => decide (w ∈ hmLine H) && !hmBit (hmKnown H) (hmTr O w))).foldl (fun s w => s ||| hmOne w) 0) ||| 0)), some (.int (nI i))]) dX9_lost_105 rfl (Nat.le_of_ble_eq_true rfl) rfl rfl rfl ?_
        refine Ex_iinc 109 (v := (nI (i + 1))) (ls' := [some (.ref m), some (.int (hmBits (hmLine H))), some (.int (hmKnown H)), some (.int ((((List.range i).filter (fun w => decide (w ∈ hmLine H) && !hmBit (hmKnown H) (hmTr O w))).foldl (fun s w => s ||| hmOne w) 0) ||| 0)), some (.int (nI (i + 1)))]) dX9_lost_106 rfl (xinc _) (Nat.le_of_ble_eq_true rfl) rfl rfl rfl ?_
        refine Ex_goto 60 dX9_lost_109 (by decide) ?_
        have h1 : hmBit (hmKnown H) (hmTr O i) = true := by
          cases hb : hmBit (hmKnown H) (hmTr O i) with
          | true => rfl
          | false => exact absurd (hmBit_z.mpr hb) c3
        rw [h1, Bool.not_true, Bool.and_false, if_neg (by decide)] at e0
        refine Ex_l (ls' := [some (.ref m), some (.int (hmBits (hmLine H))), some (.int (hmKnown H)), some (.int (((List.range (i + 1)).filter (fun w => decide (w ∈ hmLine H) && !hmBit (hmKnown H) (hmTr O w))).foldl (fun s w => s ||| hmOne w) 0)), some (.int (nI (i + 1)))]) (by rw [e0]) ?_
        exact ih (i + 1) (by omega)
      · refine Ex_iconst 97 (v := 1) dX9_lost_96 (by decide) rfl ?_
        refine Ex_iload 99 dX9_lost_97 rfl rfl ?_
        refine Ex_ishl 100 dX9_lost_99 rfl ?_
        refine Ex_goto 104 dX9_lost_100 (by decide) ?_
        refine Ex_ior 105 dX9_lost_104 rfl ?_
        refine Ex_istore_n 106 (i := 3) (ls' := [some (.ref m), some (.int (hmBits (hmLine H))), some (.int (hmKnown H)), some (.int ((((List.range i).filter (fun w => decide (w ∈ hmLine H) && !hmBit (hmKnown H) (hmTr O w))).foldl (fun s w => s ||| hmOne w) 0) ||| (1 <<< ((nI i) &&& 31)))), some (.int (nI i))]) dX9_lost_105 rfl (Nat.le_of_ble_eq_true rfl) rfl rfl rfl ?_
        refine Ex_iinc 109 (v := (nI (i + 1))) (ls' := [some (.ref m), some (.int (hmBits (hmLine H))), some (.int (hmKnown H)), some (.int ((((List.range i).filter (fun w => decide (w ∈ hmLine H) && !hmBit (hmKnown H) (hmTr O w))).foldl (fun s w => s ||| hmOne w) 0) ||| (1 <<< ((nI i) &&& 31)))), some (.int (nI (i + 1)))]) dX9_lost_106 rfl (xinc _) (Nat.le_of_ble_eq_true rfl) rfl rfl rfl ?_
        refine Ex_goto 60 dX9_lost_109 (by decide) ?_
        have h1 : decide (i ∈ hmLine H) = true := by rw [← hmm]; exact hmBit_1.mpr c2
        have h2 : hmBit (hmKnown H) (hmTr O i) = false := hmBit_z.mp c3
        rw [h1, h2, Bool.not_false, Bool.and_true, if_pos rfl] at e0
        refine Ex_l (ls' := [some (.ref m), some (.int (hmBits (hmLine H))), some (.int (hmKnown H)), some (.int (((List.range (i + 1)).filter (fun w => decide (w ∈ hmLine H) && !hmBit (hmKnown H) (hmTr O w))).foldl (fun s w => s ||| hmOne w) 0)), some (.int (nI (i + 1)))]) (by rw [e0]; rfl) ?_
        exact ih (i + 1) (by omega)
set_option maxHeartbeats 4000000 in
theorem mb_lost_1 {d : Nat} {sh : xSh} {R : xR} {L : xL} {I : xI} {Q : xQ} {m : Nat} {H : hmH} {O : hmO} (hm : xModel sh R m) (hS : hmMr (I (m + 28)) H) (hO : hmMo I m O) (ho : hmOok O) (hok : hmOk O H) (hQ : Q (some (.int (spLost O H))) 0 sh R L I) : ∀ n i, n + i = hmN O → Ex d 0 0 MX9_lost 0 sh R L I 14 [some (.ref m), some (.int (hmBits (hmLine H))), some (.int (((List.range i).filter (fun w => decide (w ∈ hmLine H))).foldl (fun s w => s ||| hmHas H w) 0)), some (.int (nI i)), none] [] Q := by
  obtain ⟨s6, smin, slen, sset, stak, sline, sheld, shas, stalk⟩ := id hS
  obtain ⟨o6, ot1, ot2, oo, oll, owf⟩ := id ho
  obtain ⟨on, otk, ow, cd, cfrom, cto, clen, ccd, csem⟩ := id hO
  have hlN := hok.2.1
  have hb6 : ∀ u, u ∈ hmLine H → u < 6 := fun u hu => by have := hlN u hu; omega
  intro n
  induction n with
  | zero =>
    intro i hi
    refine Ex_iload_n 15 (i := 3) dX9_lost_14 rfl rfl rfl ?_
    refine Ex_aload_n 16 (i := 0) dX9_lost_15 rfl rfl rfl ?_
    refine Ex_getR 19 dX9_lost_16 fX9_13 (xMs_0 hm) rfl (xMr_10 hm) rfl ?_
    refine Ex_iconst 20 (v := 0) dX9_lost_19 (by decide) rfl ?_
    refine Ex_aI 21 0 (I (m + 2) 0) dX9_lost_20 (xMs_2 hm) rfl (by decide) (by decide) rfl rfl ?_
    rw [on]
    refine Ex_icmp_ge 24 55 dX9_lost_21 (by decide) rfl (fun c1 => ?_) (fun c1 => absurd c1 (fun q => q (nI_le (by omega) (by omega))))
    refine Ex_iconst 56 (v := 0) dX9_lost_55 (by decide) rfl ?_
    refine Ex_istore_n 57 (i := 3) (ls' := [some (.ref m), some (.int (hmBits (hmLine H))), some (.int (((List.range i).filter (fun w => decide (w ∈ hmLine H))).foldl (fun s w => s ||| hmHas H w) 0)), some (.int 0), none]) dX9_lost_56 rfl (Nat.le_of_ble_eq_true rfl) rfl rfl rfl ?_
    refine Ex_iconst 58 (v := 0) dX9_lost_57 (by decide) rfl ?_
    refine Ex_istore 60 (ls' := [some (.ref m), some (.int (hmBits (hmLine H))), some (.int (((List.range i).filter (fun w => decide (w ∈ hmLine H))).foldl (fun s w => s ||| hmHas H w) 0)), some (.int 0), some (.int 0)]) dX9_lost_58 (Nat.le_of_ble_eq_true rfl) rfl rfl rfl ?_
    rw [show i = hmN O by omega, hm_known_eq hok]
    exact mb_lost_2 hm hS hO ho hok hQ (hmN O) 0 (by omega)
  | succ n ih =>
    intro i hi
    have e0 := hm_rangeF (fun w => hmHas H w) (fun w => decide (w ∈ hmLine H)) i 0
    have hmm := hm_bits_mem hb6 (w := i) (by omega)
    refine Ex_iload_n 15 (i := 3) dX9_lost_14 rfl rfl rfl ?_
    refine Ex_aload_n 16 (i := 0) dX9_lost_15 rfl rfl rfl ?_
    refine Ex_getR 19 dX9_lost_16 fX9_13 (xMs_0 hm) rfl (xMr_10 hm) rfl ?_
    refine Ex_iconst 20 (v := 0) dX9_lost_19 (by decide) rfl ?_
    refine Ex_aI 21 0 (I (m + 2) 0) dX9_lost_20 (xMs_2 hm) rfl (by decide) (by decide) rfl rfl ?_
    rw [on]
    refine Ex_icmp_ge 24 55 dX9_lost_21 (by decide) rfl (fun c1 => absurd c1 (nI_ge (by omega) (by omega))) (fun c1 => ?_)
    refine Ex_iload_n 25 (i := 2) dX9_lost_24 rfl rfl rfl ?_
    refine Ex_iload_n 26 (i := 1) dX9_lost_25 rfl rfl rfl ?_
    refine Ex_iload_n 27 (i := 3) dX9_lost_26 rfl rfl rfl ?_
    refine Ex_ishr 28 dX9_lost_27 rfl ?_
    refine Ex_iconst 29 (v := 1) dX9_lost_28 (by decide) rfl ?_
    refine Ex_iand 30 dX9_lost_29 rfl ?_
    refine Ex_iconst 31 (v := 1) dX9_lost_30 (by decide) rfl ?_
    refine Ex_icmp_ne 34 46 dX9_lost_31 (by decide) rfl (fun c2 => ?_) (fun c2 => ?_)
    · refine Ex_iconst 47 (v := 0) dX9_lost_46 (by decide) rfl ?_
      refine Ex_ior 48 dX9_lost_47 rfl ?_
      refine Ex_istore_n 49 (i := 2) (ls' := [some (.ref m), some (.int (hmBits (hmLine H))), some (.int ((((List.range i).filter (fun w => decide (w ∈ hmLine H))).foldl (fun s w => s ||| hmHas H w) 0) ||| 0)), some (.int (nI i)), none]) dX9_lost_48 rfl (Nat.le_of_ble_eq_true rfl) rfl rfl rfl ?_
      refine Ex_iinc 52 (v := (nI (i + 1))) (ls' := [some (.ref m), some (.int (hmBits (hmLine H))), some (.int ((((List.range i).filter (fun w => decide (w ∈ hmLine H))).foldl (fun s w => s ||| hmHas H w) 0) ||| 0)), some (.int (nI (i + 1))), none]) dX9_lost_49 rfl (xinc _) (Nat.le_of_ble_eq_true rfl) rfl rfl rfl ?_
      refine Ex_goto 14 dX9_lost_52 (by decide) ?_
      have h1 : decide (i ∈ hmLine H) = false := by rw [← hmm]; exact hmBit_n c2
      rw [h1, if_neg (by decide)] at e0
      refine Ex_l (ls' := [some (.ref m), some (.int (hmBits (hmLine H))), some (.int (((List.range (i + 1)).filter (fun w => decide (w ∈ hmLine H))).foldl (fun s w => s ||| hmHas H w) 0)), some (.int (nI (i + 1))), none]) (by rw [e0]) ?_
      exact ih (i + 1) (by omega)
    · refine Ex_aload_n 35 (i := 0) dX9_lost_34 rfl rfl rfl ?_
      refine Ex_getR 38 dX9_lost_35 fX9_93 (xMs_0 hm) rfl (xMr_39 hm) rfl ?_
      refine Ex_bipush 40 (v := 16) dX9_lost_38 (by decide) rfl ?_
      refine Ex_iload_n 41 (i := 3) dX9_lost_40 rfl rfl rfl ?_
      refine Ex_iadd 42 dX9_lost_41 rfl ?_
      refine Ex_aI 43 (16 + i) (I (m + 28) (16 + i)) dX9_lost_42 (xMs_28 hm) (hm_ad rfl rfl) (by omega) (by decide) rfl rfl ?_
      rw [shas i (by omega)]
      refine Ex_goto 47 dX9_lost_43 (by decide) ?_
      refine Ex_ior 48 dX9_lost_47 rfl ?_
      refine Ex_istore_n 49 (i := 2) (ls' := [some (.ref m), some (.int (hmBits (hmLine H))), some (.int ((((List.range i).filter (fun w => decide (w ∈ hmLine H))).foldl (fun s w => s ||| hmHas H w) 0) ||| (hmHas H i))), some (.int (nI i)), none]) dX9_lost_48 rfl (Nat.le_of_ble_eq_true rfl) rfl rfl rfl ?_
      refine Ex_iinc 52 (v := (nI (i + 1))) (ls' := [some (.ref m), some (.int (hmBits (hmLine H))), some (.int ((((List.range i).filter (fun w => decide (w ∈ hmLine H))).foldl (fun s w => s ||| hmHas H w) 0) ||| (hmHas H i))), some (.int (nI (i + 1))), none]) dX9_lost_49 rfl (xinc _) (Nat.le_of_ble_eq_true rfl) rfl rfl rfl ?_
      refine Ex_goto 14 dX9_lost_52 (by decide) ?_
      have h1 : decide (i ∈ hmLine H) = true := by rw [← hmm]; exact hmBit_1.mpr c2
      rw [h1, if_pos rfl] at e0
      refine Ex_l (ls' := [some (.ref m), some (.int (hmBits (hmLine H))), some (.int (((List.range (i + 1)).filter (fun w => decide (w ∈ hmLine H))).foldl (fun s w => s ||| hmHas H w) 0)), some (.int (nI (i + 1))), none]) (by rw [e0]) ?_
      exact ih (i + 1) (by omega)
set_option maxHeartbeats 4000000 in
theorem mb_lost {d : Nat} {sh : xSh} {R : xR} {L : xL} {I : xI} {Q : xQ} {m : Nat} {H : hmH} {O : hmO} (hm : xModel sh R m) (hS : hmMr (I (m + 28)) H) (hO : hmMo I m O) (ho : hmOok O) (hok : hmOk O H)  (hQ : Q (some (.int (spLost O H))) 0 sh R L I) : Ex (d + 1) 0 0 MX9_lost 0 sh R L I 5 [some (.ref m), none, none, none, none] [] Q := by
  obtain ⟨s6, smin, slen, sset, stak, sline, sheld, shas, stalk⟩ := id hS
  obtain ⟨o6, ot1, ot2, oo, oll, owf⟩ := id ho
  obtain ⟨on, otk, ow, cd, cfrom, cto, clen, ccd, csem⟩ := id hO
  have hlN := hok.2.1
  refine Ex_aload_n 6 (i := 0) dX9_lost_5 rfl rfl rfl ?_
  refine Ex_callV (M' := MX9_onLine) 9 [] (rest := []) dX9_lost_6 lX9_408 mX9_onLine rfl (xMs_0 hm) rfl (Nat.le_of_ble_eq_true rfl) (Nat.le_of_ble_eq_true rfl) rfl ?_
  refine mc_onLine hm hS ?_
  simp only [Option.toList, List.cons_append, List.nil_append]
  refine Ex_istore_n 10 (i := 1) (ls' := [some (.ref m), some (.int (hmBits (hmLine H))), none, none, none]) dX9_lost_9 rfl (Nat.le_of_ble_eq_true rfl) rfl rfl rfl ?_
  refine Ex_iconst 11 (v := 0) dX9_lost_10 (by decide) rfl ?_
  refine Ex_istore_n 12 (i := 2) (ls' := [some (.ref m), some (.int (hmBits (hmLine H))), some (.int 0), none, none]) dX9_lost_11 rfl (Nat.le_of_ble_eq_true rfl) rfl rfl rfl ?_
  refine Ex_iconst 13 (v := 0) dX9_lost_12 (by decide) rfl ?_
  refine Ex_istore_n 14 (i := 3) (ls' := [some (.ref m), some (.int (hmBits (hmLine H))), some (.int 0), some (.int 0), none]) dX9_lost_13 rfl (Nat.le_of_ble_eq_true rfl) rfl rfl rfl ?_
  exact mb_lost_1 hm hS hO ho hok hQ (hmN O) 0 (by omega)
set_option maxHeartbeats 4000000 in
theorem mq_lost {d : Nat} {sh : xSh} {R : xR} {L : xL} {I : xI} {Q : xQ} {m : Nat} {H : hmH} {O : hmO} (hm : xModel sh R m) (hS : hmMr (I (m + 28)) H) (hO : hmMo I m O) (ho : hmOok O) (hok : hmOk O H)  (hQ : ∀ I', hmMg m (hmTh I m) I' → hmMr (I' (m + 28)) H → Q (some (.int (spLost O H))) 0 sh R L I') : Ex (d + 1) 0 0 MX9_lost 0 sh R L I 0 [some (.ref m), none, none, none, none] [] Q := by
  refine Ex_aload_n 1 (i := 0) dX9_lost_0 rfl rfl rfl ?_
  refine Ex_iconst 2 (v := 0) dX9_lost_1 (by decide) rfl ?_
  refine Ex_pI 5 (I m) (va_up I m (va_up (I m) 0 0)) dX9_lost_2 fX9_130 rfl (xMs_0 hm) rfl (fun _ => rfl) rfl rfl rfl rfl ?_
  exact mb_lost hm (hmTh_mr hS) (hmTh_mo hO) ho hok  (hQ _ hmMg.rf (hmTh_mr hS))
theorem hmWi_1 {f : Nat → Int32} (hf : ∀ w, w < 6 → hmS10 (f w)) : ∀ n, n < 6 → ∃ b, b ≤ n ∧ (hmWi f (n + 1)).2 = nI b ∧ (hmWi f (n + 1)).1 = hmCnt (f b) := by
  intro n
  induction n with
  | zero =>
    intro _
    obtain ⟨k, hk, e⟩ := hmCnt_le (hf 0 (by omega))
    refine ⟨0, by omega, ?_⟩
    have h1 : (-1 : Int32) < hmCnt (f 0) := by
      rw [e, Int32.lt_iff_toInt_lt, nI_toInt (by omega)]
      have e1 : (-1 : Int32).toInt = -1 := by decide
      omega
    have h2 : hmWi f 1 = (hmCnt (f 0), nI 0) := if_pos h1
    rw [h2]
    exact ⟨rfl, rfl⟩
  | succ n ih =>
    intro hn
    obtain ⟨b, hb, e1, e2⟩ := ih (by omega)
    by_cases h : (hmWi f (n + 1)).1 < hmCnt (f (n + 1))
    · have h2 : hmWi f (n + 1 + 1) = (hmCnt (f (n + 1)), nI (n + 1)) := if_pos h
      rw [h2]
      exact ⟨n + 1, by omega, rfl, rfl⟩
    · have h2 : hmWi f (n + 1 + 1) = hmWi f (n + 1) := if_neg h
      rw [h2]
      exact ⟨b, by omega, e1, e2⟩
set_option maxHeartbeats 4000000 in
theorem mb_wisest_loop {d : Nat} {sh : xSh} {R : xR} {L : xL} {I : xI} {Q : xQ} {m : Nat} {H : hmH} {O : hmO} (hm : xModel sh R m) (hS : hmMr (I (m + 28)) H) (hO : hmMo I m O) (ho : hmOok O) (hok : hmOk O H) (hQ : Q (some (.int (spWisest (hmN O) H))) 0 sh R L I) : ∀ n i, n + i = hmN O → Ex (d + 1) 0 0 MX9_wisest 0 sh R L I 9 [some (.ref m), some (.int ((hmWi (hmHas H) i).2)), some (.int (nI i))] [] Q := by
  obtain ⟨s6, smin, slen, sset, stak, sline, sheld, shas, stalk⟩ := id hS
  obtain ⟨o6, ot1, ot2, oo, oll, owf⟩ := id ho
  obtain ⟨on, otk, ow, cd, cfrom, cto, clen, ccd, csem⟩ := id hO
  have hlN := hok.2.1
  intro n
  induction n with
  | zero =>
    intro i hi
    refine Ex_iload_n 10 (i := 2) dX9_wisest_9 rfl rfl rfl ?_
    refine Ex_aload_n 11 (i := 0) dX9_wisest_10 rfl rfl rfl ?_
    refine Ex_getR 14 dX9_wisest_11 fX9_13 (xMs_0 hm) rfl (xMr_10 hm) rfl ?_
    refine Ex_iconst 15 (v := 0) dX9_wisest_14 (by decide) rfl ?_
    refine Ex_aI 16 0 (I (m + 2) 0) dX9_wisest_15 (xMs_2 hm) rfl (by decide) (by decide) rfl rfl ?_
    rw [on]
    refine Ex_icmp_ge 19 58 dX9_wisest_16 (by decide) rfl (fun c1 => ?_) (fun c1 => absurd c1 (fun q => q (nI_le (by omega) (by omega))))
    refine Ex_iload_n 59 (i := 1) dX9_wisest_58 rfl rfl rfl ?_
    refine Ex_iret dX9_wisest_59 rfl rfl (Or.inl rfl) ?_
    rw [show i = hmN O by omega]
    exact hQ
  | succ n ih =>
    intro i hi
    rcases Nat.eq_zero_or_pos i with hz | hz
    · subst hz
      refine Ex_iload_n 10 (i := 2) dX9_wisest_9 rfl rfl rfl ?_
      refine Ex_aload_n 11 (i := 0) dX9_wisest_10 rfl rfl rfl ?_
      refine Ex_getR 14 dX9_wisest_11 fX9_13 (xMs_0 hm) rfl (xMr_10 hm) rfl ?_
      refine Ex_iconst 15 (v := 0) dX9_wisest_14 (by decide) rfl ?_
      refine Ex_aI 16 0 (I (m + 2) 0) dX9_wisest_15 (xMs_2 hm) rfl (by decide) (by decide) rfl rfl ?_
      rw [on]
      refine Ex_icmp_ge 19 58 dX9_wisest_16 (by decide) rfl (fun c1 => absurd c1 (nI_ge (by omega) (by omega))) (fun c1 => ?_)
      refine Ex_iload_n 20 (i := 1) dX9_wisest_19 rfl rfl rfl ?_
      refine Ex_if_lt 23 50 dX9_wisest_20 (by decide) rfl (fun c2 => ?_) (fun c2 => absurd c2 (fun q => q (show (-1 : Int32) < 0 by decide)))
      refine Ex_iload_n 51 (i := 2) dX9_wisest_50 rfl rfl rfl ?_
      refine Ex_istore_n 52 (i := 1) (ls' := [some (.ref m), some (.int (nI 0)), some (.int (nI 0))]) dX9_wisest_51 rfl (Nat.le_of_ble_eq_true rfl) rfl rfl rfl ?_
      refine Ex_iinc 55 (v := (nI 1)) (ls' := [some (.ref m), some (.int (nI 0)), some (.int (nI 1))]) dX9_wisest_52 rfl (xinc _) (Nat.le_of_ble_eq_true rfl) rfl rfl rfl ?_
      refine Ex_goto 9 dX9_wisest_55 (by decide) ?_
      obtain ⟨b, hb, e1, e2⟩ := hmWi_1 hok.2.2.1 0 (by omega)
      have hb0 : b = 0 := by omega
      subst hb0
      refine Ex_l (ls' := [some (.ref m), some (.int ((hmWi (hmHas H) 1).2)), some (.int (nI 1))]) (by rw [e1]) ?_
      exact ih 1 (by omega)
    · obtain ⟨j, rfl⟩ : ∃ j, i = j + 1 := ⟨i - 1, by omega⟩
      obtain ⟨b, hb, e1, e2⟩ := hmWi_1 hok.2.2.1 j (by omega)
      have hbn : ¬ nI b < 0 := by
        rw [Int32.lt_iff_toInt_lt, nI_toInt (by omega)]
        have e0 : (0 : Int32).toInt = 0 := by decide
        omega
      rw [e1]
      refine Ex_iload_n 10 (i := 2) dX9_wisest_9 rfl rfl rfl ?_
      refine Ex_aload_n 11 (i := 0) dX9_wisest_10 rfl rfl rfl ?_
      refine Ex_getR 14 dX9_wisest_11 fX9_13 (xMs_0 hm) rfl (xMr_10 hm) rfl ?_
      refine Ex_iconst 15 (v := 0) dX9_wisest_14 (by decide) rfl ?_
      refine Ex_aI 16 0 (I (m + 2) 0) dX9_wisest_15 (xMs_2 hm) rfl (by decide) (by decide) rfl rfl ?_
      rw [on]
      refine Ex_icmp_ge 19 58 dX9_wisest_16 (by decide) rfl (fun c1 => absurd c1 (nI_ge (by omega) (by omega))) (fun c1 => ?_)
      refine Ex_iload_n 20 (i := 1) dX9_wisest_19 rfl rfl rfl ?_
      refine Ex_if_lt 23 50 dX9_wisest_20 (by decide) rfl (fun c2 => absurd c2 hbn) (fun c2 => ?_)
      refine Ex_aload_n 24 (i := 0) dX9_wisest_23 rfl rfl rfl ?_
      refine Ex_getR 27 dX9_wisest_24 fX9_93 (xMs_0 hm) rfl (xMr_39 hm) rfl ?_
      refine Ex_bipush 29 (v := 16) dX9_wisest_27 (by decide) rfl ?_
      refine Ex_iload_n 30 (i := 2) dX9_wisest_29 rfl rfl rfl ?_
      refine Ex_iadd 31 dX9_wisest_30 rfl ?_
      refine Ex_aI 32 (16 + (j + 1)) (I (m + 28) (16 + (j + 1))) dX9_wisest_31 (xMs_28 hm) (hm_ad rfl rfl) (by omega) (by decide) rfl rfl ?_
      rw [shas (j + 1) (by omega)]
      refine Ex_callS (M' := MX9_bits) 35 [.int (hmHas H (j + 1))] (rest := []) dX9_wisest_32 lX9_322 mX9_bits rfl rfl (Nat.le_of_ble_eq_true rfl) (Nat.le_of_ble_eq_true rfl) rfl ?_
      refine mc_bits ?_
      simp only [Option.toList, List.cons_append, List.nil_append]
      refine Ex_aload_n 36 (i := 0) dX9_wisest_35 rfl rfl rfl ?_
      refine Ex_getR 39 dX9_wisest_36 fX9_93 (xMs_0 hm) rfl (xMr_39 hm) rfl ?_
      refine Ex_bipush 41 (v := 16) dX9_wisest_39 (by decide) rfl ?_
      refine Ex_iload_n 42 (i := 1) dX9_wisest_41 rfl rfl rfl ?_
      refine Ex_iadd 43 dX9_wisest_42 rfl ?_
      refine Ex_aI 44 (16 + b) (I (m + 28) (16 + b)) dX9_wisest_43 (xMs_28 hm) (hm_ad rfl rfl) (by omega) (by decide) rfl rfl ?_
      rw [shas b (by omega)]
      refine Ex_callS (M' := MX9_bits) 47 [.int (hmHas H b)] (rest := [.int (hmCnt (hmHas H (j + 1)))]) dX9_wisest_44 lX9_322 mX9_bits rfl rfl (Nat.le_of_ble_eq_true rfl) (Nat.le_of_ble_eq_true rfl) rfl ?_
      refine mc_bits ?_
      simp only [Option.toList, List.cons_append, List.nil_append]
      refine Ex_icmp_le 50 52 dX9_wisest_47 (by decide) rfl (fun c3 => ?_) (fun c3 => ?_)
      · refine Ex_iinc 55 (v := (nI ((j + 1) + 1))) (ls' := [some (.ref m), some (.int (nI b)), some (.int (nI ((j + 1) + 1)))]) dX9_wisest_52 rfl (xinc _) (Nat.le_of_ble_eq_true rfl) rfl rfl rfl ?_
        refine Ex_goto 9 dX9_wisest_55 (by decide) ?_
        have h2 : hmWi (hmHas H) (j + 1 + 1) = hmWi (hmHas H) (j + 1) := if_neg (by rw [e2]; exact Int32.not_lt.mpr c3)
        refine Ex_l (ls' := [some (.ref m), some (.int ((hmWi (hmHas H) (j + 1 + 1)).2)), some (.int (nI (j + 1 + 1)))]) (by rw [h2, e1]) ?_
        exact ih (j + 1 + 1) (by omega)
      · refine Ex_iload_n 51 (i := 2) dX9_wisest_50 rfl rfl rfl ?_
        refine Ex_istore_n 52 (i := 1) (ls' := [some (.ref m), some (.int (nI (j + 1))), some (.int (nI (j + 1)))]) dX9_wisest_51 rfl (Nat.le_of_ble_eq_true rfl) rfl rfl rfl ?_
        refine Ex_iinc 55 (v := (nI ((j + 1) + 1))) (ls' := [some (.ref m), some (.int (nI (j + 1))), some (.int (nI ((j + 1) + 1)))]) dX9_wisest_52 rfl (xinc _) (Nat.le_of_ble_eq_true rfl) rfl rfl rfl ?_
        refine Ex_goto 9 dX9_wisest_55 (by decide) ?_
        have h2 : hmWi (hmHas H) (j + 1 + 1) = (hmCnt (hmHas H (j + 1)), nI (j + 1)) := if_pos (by rw [e2]; exact Int32.not_le.mp c3)
        refine Ex_l (ls' := [some (.ref m), some (.int ((hmWi (hmHas H) (j + 1 + 1)).2)), some (.int (nI (j + 1 + 1)))]) (by rw [h2]) ?_
        exact ih (j + 1 + 1) (by omega)
set_option maxHeartbeats 4000000 in
theorem mb_wisest {d : Nat} {sh : xSh} {R : xR} {L : xL} {I : xI} {Q : xQ} {m : Nat} {H : hmH} {O : hmO} (hm : xModel sh R m) (hS : hmMr (I (m + 28)) H) (hO : hmMo I m O) (ho : hmOok O) (hok : hmOk O H)  (hQ : Q (some (.int (spWisest (hmN O) H))) 0 sh R L I) : Ex (d + 1) 0 0 MX9_wisest 0 sh R L I 5 [some (.ref m), none, none] [] Q := by
  obtain ⟨s6, smin, slen, sset, stak, sline, sheld, shas, stalk⟩ := id hS
  obtain ⟨o6, ot1, ot2, oo, oll, owf⟩ := id ho
  obtain ⟨on, otk, ow, cd, cfrom, cto, clen, ccd, csem⟩ := id hO
  have hlN := hok.2.1
  refine Ex_iconst 6 (v := (-1)) dX9_wisest_5 (by decide) rfl ?_
  refine Ex_istore_n 7 (i := 1) (ls' := [some (.ref m), some (.int (-1)), none]) dX9_wisest_6 rfl (Nat.le_of_ble_eq_true rfl) rfl rfl rfl ?_
  refine Ex_iconst 8 (v := 0) dX9_wisest_7 (by decide) rfl ?_
  refine Ex_istore_n 9 (i := 2) (ls' := [some (.ref m), some (.int (-1)), some (.int 0)]) dX9_wisest_8 rfl (Nat.le_of_ble_eq_true rfl) rfl rfl rfl ?_
  exact mb_wisest_loop hm hS hO ho hok hQ (hmN O) 0 (by omega)
set_option maxHeartbeats 4000000 in
theorem mq_wisest {d : Nat} {sh : xSh} {R : xR} {L : xL} {I : xI} {Q : xQ} {m : Nat} {H : hmH} {O : hmO} (hm : xModel sh R m) (hS : hmMr (I (m + 28)) H) (hO : hmMo I m O) (ho : hmOok O) (hok : hmOk O H)  (hQ : ∀ I', hmMg m (hmTh I m) I' → hmMr (I' (m + 28)) H → Q (some (.int (spWisest (hmN O) H))) 0 sh R L I') : Ex (d + 1) 0 0 MX9_wisest 0 sh R L I 0 [some (.ref m), none, none] [] Q := by
  refine Ex_aload_n 1 (i := 0) dX9_wisest_0 rfl rfl rfl ?_
  refine Ex_iconst 2 (v := 0) dX9_wisest_1 (by decide) rfl ?_
  refine Ex_pI 5 (I m) (va_up I m (va_up (I m) 0 0)) dX9_wisest_2 fX9_130 rfl (xMs_0 hm) rfl (fun _ => rfl) rfl rfl rfl rfl ?_
  exact mb_wisest hm (hmTh_mr hS) (hmTh_mo hO) ho hok  (hQ _ hmMg.rf (hmTh_mr hS))
set_option maxHeartbeats 4000000 in
theorem mc_allAnswers_loop {d : Nat} {sh : xSh} {R : xR} {L : xL} {I : xI} {Q : xQ} {m : Nat} {H : hmH} {O : hmO} (hm : xModel sh R m) (hS : hmMr (I (m + 28)) H) (hO : hmMo I m O) (ho : hmOok O) (hok : hmOk O H) (hQ : Q (some (.int (hmAll (hmHas H) (hmN O)))) 0 sh R L I) : ∀ n i, n + i = hmN O → Ex (d + 1) 0 0 MX9_allAnswers 0 sh R L I 4 [some (.ref m), some (.int (hmAll (hmHas H) i)), some (.int (nI i))] [] Q := by
  obtain ⟨s6, smin, slen, sset, stak, sline, sheld, shas, stalk⟩ := id hS
  obtain ⟨o6, ot1, ot2, oo, oll, owf⟩ := id ho
  obtain ⟨on, otk, ow, cd, cfrom, cto, clen, ccd, csem⟩ := id hO
  have hlN := hok.2.1
  intro n
  induction n with
  | zero =>
    intro i hi
    refine Ex_iload_n 5 (i := 2) dX9_allAnswers_4 rfl rfl rfl ?_
    refine Ex_aload_n 6 (i := 0) dX9_allAnswers_5 rfl rfl rfl ?_
    refine Ex_getR 9 dX9_allAnswers_6 fX9_13 (xMs_0 hm) rfl (xMr_10 hm) rfl ?_
    refine Ex_iconst 10 (v := 0) dX9_allAnswers_9 (by decide) rfl ?_
    refine Ex_aI 11 0 (I (m + 2) 0) dX9_allAnswers_10 (xMs_2 hm) rfl (by decide) (by decide) rfl rfl ?_
    rw [on]
    refine Ex_icmp_ge 14 35 dX9_allAnswers_11 (by decide) rfl (fun c1 => ?_) (fun c1 => absurd c1 (fun q => q (nI_le (by omega) (by omega))))
    refine Ex_iload_n 36 (i := 1) dX9_allAnswers_35 rfl rfl rfl ?_
    refine Ex_iret dX9_allAnswers_36 rfl rfl (Or.inl rfl) ?_
    rw [show i = hmN O by omega]
    exact hQ
  | succ n ih =>
    intro i hi
    refine Ex_iload_n 5 (i := 2) dX9_allAnswers_4 rfl rfl rfl ?_
    refine Ex_aload_n 6 (i := 0) dX9_allAnswers_5 rfl rfl rfl ?_
    refine Ex_getR 9 dX9_allAnswers_6 fX9_13 (xMs_0 hm) rfl (xMr_10 hm) rfl ?_
    refine Ex_iconst 10 (v := 0) dX9_allAnswers_9 (by decide) rfl ?_
    refine Ex_aI 11 0 (I (m + 2) 0) dX9_allAnswers_10 (xMs_2 hm) rfl (by decide) (by decide) rfl rfl ?_
    rw [on]
    refine Ex_icmp_ge 14 35 dX9_allAnswers_11 (by decide) rfl (fun c1 => absurd c1 (nI_ge (by omega) (by omega))) (fun c1 => ?_)
    refine Ex_iload_n 15 (i := 1) dX9_allAnswers_14 rfl rfl rfl ?_
    refine Ex_aload_n 16 (i := 0) dX9_allAnswers_15 rfl rfl rfl ?_
    refine Ex_getR 19 dX9_allAnswers_16 fX9_93 (xMs_0 hm) rfl (xMr_39 hm) rfl ?_
    refine Ex_bipush 21 (v := 16) dX9_allAnswers_19 (by decide) rfl ?_
    refine Ex_iload_n 22 (i := 2) dX9_allAnswers_21 rfl rfl rfl ?_
    refine Ex_iadd 23 dX9_allAnswers_22 rfl ?_
    refine Ex_aI 24 (16 + i) (I (m + 28) (16 + i)) dX9_allAnswers_23 (xMs_28 hm) (hm_ad rfl rfl) (by omega) (by decide) rfl rfl ?_
    rw [shas i (by omega)]
    refine Ex_callS (M' := MX9_bits) 27 [.int (hmHas H i)] (rest := [.int (hmAll (hmHas H) i)]) dX9_allAnswers_24 lX9_322 mX9_bits rfl rfl (Nat.le_of_ble_eq_true rfl) (Nat.le_of_ble_eq_true rfl) rfl ?_
    refine mc_bits ?_
    simp only [Option.toList, List.cons_append, List.nil_append]
    refine Ex_iadd 28 dX9_allAnswers_27 rfl ?_
    refine Ex_istore_n 29 (i := 1) (ls' := [some (.ref m), some (.int ((hmAll (hmHas H) i) + (hmCnt (hmHas H i)))), some (.int (nI i))]) dX9_allAnswers_28 rfl (Nat.le_of_ble_eq_true rfl) rfl rfl rfl ?_
    refine Ex_iinc 32 (v := (nI (i + 1))) (ls' := [some (.ref m), some (.int ((hmAll (hmHas H) i) + (hmCnt (hmHas H i)))), some (.int (nI (i + 1)))]) dX9_allAnswers_29 rfl (xinc _) (Nat.le_of_ble_eq_true rfl) rfl rfl rfl ?_
    refine Ex_goto 4 dX9_allAnswers_32 (by decide) ?_
    exact ih (i + 1) (by omega)
set_option maxHeartbeats 4000000 in
theorem mc_allAnswers {d : Nat} {sh : xSh} {R : xR} {L : xL} {I : xI} {Q : xQ} {m : Nat} {H : hmH} {O : hmO} (hm : xModel sh R m) (hS : hmMr (I (m + 28)) H) (hO : hmMo I m O) (ho : hmOok O) (hok : hmOk O H) (hQ : Q (some (.int (hmAll (hmHas H) (hmN O)))) 0 sh R L I) : Ex (d + 1) 0 0 MX9_allAnswers 0 sh R L I 0 [some (.ref m), none, none] [] Q := by
  obtain ⟨s6, smin, slen, sset, stak, sline, sheld, shas, stalk⟩ := id hS
  obtain ⟨o6, ot1, ot2, oo, oll, owf⟩ := id ho
  obtain ⟨on, otk, ow, cd, cfrom, cto, clen, ccd, csem⟩ := id hO
  have hlN := hok.2.1
  refine Ex_iconst 1 (v := 0) dX9_allAnswers_0 (by decide) rfl ?_
  refine Ex_istore_n 2 (i := 1) (ls' := [some (.ref m), some (.int 0), none]) dX9_allAnswers_1 rfl (Nat.le_of_ble_eq_true rfl) rfl rfl rfl ?_
  refine Ex_iconst 3 (v := 0) dX9_allAnswers_2 (by decide) rfl ?_
  refine Ex_istore_n 4 (i := 2) (ls' := [some (.ref m), some (.int 0), some (.int 0)]) dX9_allAnswers_3 rfl (Nat.le_of_ble_eq_true rfl) rfl rfl rfl ?_
  exact mc_allAnswers_loop hm hS hO ho hok hQ (hmN O) 0 (by omega)
/-- who may ring up, as bits -/
def hmFree (n : Nat) (H : hmH) : Int32 := hmBits ((List.range n).filter (fun w => hmCanRing H w))
set_option maxHeartbeats 4000000 in
theorem mc_mayRing_loop {d : Nat} {sh : xSh} {R : xR} {L : xL} {I : xI} {Q : xQ} {m : Nat} {H : hmH} {O : hmO} (hm : xModel sh R m) (hS : hmMr (I (m + 28)) H) (hO : hmMo I m O) (ho : hmOok O) (hok : hmOk O H) (hQ : Q (some (.int (hmFree (hmN O) H))) 0 sh R L I) : ∀ n i, n + i = hmN O → Ex (d + 2) 0 0 MX9_mayRing 0 sh R L I 4 [some (.ref m), some (.int (hmFree i H)), some (.int (nI i))] [] Q := by
  obtain ⟨s6, smin, slen, sset, stak, sline, sheld, shas, stalk⟩ := id hS
  obtain ⟨o6, ot1, ot2, oo, oll, owf⟩ := id ho
  obtain ⟨on, otk, ow, cd, cfrom, cto, clen, ccd, csem⟩ := id hO
  have hlN := hok.2.1
  intro n
  induction n with
  | zero =>
    intro i hi
    refine Ex_iload_n 5 (i := 2) dX9_mayRing_4 rfl rfl rfl ?_
    refine Ex_aload_n 6 (i := 0) dX9_mayRing_5 rfl rfl rfl ?_
    refine Ex_getR 9 dX9_mayRing_6 fX9_13 (xMs_0 hm) rfl (xMr_10 hm) rfl ?_
    refine Ex_iconst 10 (v := 0) dX9_mayRing_9 (by decide) rfl ?_
    refine Ex_aI 11 0 (I (m + 2) 0) dX9_mayRing_10 (xMs_2 hm) rfl (by decide) (by decide) rfl rfl ?_
    rw [on]
    refine Ex_icmp_ge 14 38 dX9_mayRing_11 (by decide) rfl (fun c1 => ?_) (fun c1 => absurd c1 (fun q => q (nI_le (by omega) (by omega))))
    refine Ex_iload_n 39 (i := 1) dX9_mayRing_38 rfl rfl rfl ?_
    refine Ex_iret dX9_mayRing_39 rfl rfl (Or.inl rfl) ?_
    rw [show i = hmN O by omega]
    exact hQ
  | succ n ih =>
    intro i hi
    have e0 : hmFree (i + 1) H = hmFree i H ||| (if hmCanRing H i = true then hmOne i else 0) := hm_rangeF (fun w => hmOne w) (fun w => hmCanRing H w) i 0
    refine Ex_iload_n 5 (i := 2) dX9_mayRing_4 rfl rfl rfl ?_
    refine Ex_aload_n 6 (i := 0) dX9_mayRing_5 rfl rfl rfl ?_
    refine Ex_getR 9 dX9_mayRing_6 fX9_13 (xMs_0 hm) rfl (xMr_10 hm) rfl ?_
    refine Ex_iconst 10 (v := 0) dX9_mayRing_9 (by decide) rfl ?_
    refine Ex_aI 11 0 (I (m + 2) 0) dX9_mayRing_10 (xMs_2 hm) rfl (by decide) (by decide) rfl rfl ?_
    rw [on]
    refine Ex_icmp_ge 14 38 dX9_mayRing_11 (by decide) rfl (fun c1 => absurd c1 (nI_ge (by omega) (by omega))) (fun c1 => ?_)
    refine Ex_iload_n 15 (i := 1) dX9_mayRing_14 rfl rfl rfl ?_
    refine Ex_aload_n 16 (i := 0) dX9_mayRing_15 rfl rfl rfl ?_
    refine Ex_iload_n 17 (i := 2) dX9_mayRing_16 rfl rfl rfl ?_
    refine Ex_callV (M' := MX9_canRing) 20 [.int (nI i)] (rest := [.int (hmFree i H)]) dX9_mayRing_17 lX9_354 mX9_canRing rfl (xMs_0 hm) rfl (Nat.le_of_ble_eq_true rfl) (Nat.le_of_ble_eq_true rfl) rfl ?_
    refine mc_canRing hm hS (by omega) (fun x hx => by have := hlN x hx; omega) ?_
    simp only [Option.toList, List.cons_append, List.nil_append]
    refine Ex_if_eq 23 29 dX9_mayRing_20 (by decide) rfl (fun c2 => ?_) (fun c2 => ?_)
    · refine Ex_iconst 30 (v := 0) dX9_mayRing_29 (by decide) rfl ?_
      refine Ex_ior 31 dX9_mayRing_30 rfl ?_
      refine Ex_istore_n 32 (i := 1) (ls' := [some (.ref m), some (.int ((hmFree i H) ||| 0)), some (.int (nI i))]) dX9_mayRing_31 rfl (Nat.le_of_ble_eq_true rfl) rfl rfl rfl ?_
      refine Ex_iinc 35 (v := (nI (i + 1))) (ls' := [some (.ref m), some (.int ((hmFree i H) ||| 0)), some (.int (nI (i + 1)))]) dX9_mayRing_32 rfl (xinc _) (Nat.le_of_ble_eq_true rfl) rfl rfl rfl ?_
      refine Ex_goto 4 dX9_mayRing_35 (by decide) ?_
      rw [hmB_eq c2, if_neg (by decide)] at e0
      refine Ex_l (ls' := [some (.ref m), some (.int (hmFree (i + 1) H)), some (.int (nI (i + 1)))]) (by rw [e0]) ?_
      exact ih (i + 1) (by omega)
    · refine Ex_iconst 24 (v := 1) dX9_mayRing_23 (by decide) rfl ?_
      refine Ex_iload_n 25 (i := 2) dX9_mayRing_24 rfl rfl rfl ?_
      refine Ex_ishl 26 dX9_mayRing_25 rfl ?_
      refine Ex_goto 30 dX9_mayRing_26 (by decide) ?_
      refine Ex_ior 31 dX9_mayRing_30 rfl ?_
      refine Ex_istore_n 32 (i := 1) (ls' := [some (.ref m), some (.int ((hmFree i H) ||| (1 <<< ((nI i) &&& 31)))), some (.int (nI i))]) dX9_mayRing_31 rfl (Nat.le_of_ble_eq_true rfl) rfl rfl rfl ?_
      refine Ex_iinc 35 (v := (nI (i + 1))) (ls' := [some (.ref m), some (.int ((hmFree i H) ||| (1 <<< ((nI i) &&& 31)))), some (.int (nI (i + 1)))]) dX9_mayRing_32 rfl (xinc _) (Nat.le_of_ble_eq_true rfl) rfl rfl rfl ?_
      refine Ex_goto 4 dX9_mayRing_35 (by decide) ?_
      rw [hmB_ne c2, if_pos rfl] at e0
      refine Ex_l (ls' := [some (.ref m), some (.int (hmFree (i + 1) H)), some (.int (nI (i + 1)))]) (by rw [e0]; rfl) ?_
      exact ih (i + 1) (by omega)
set_option maxHeartbeats 4000000 in
theorem mc_mayRing {d : Nat} {sh : xSh} {R : xR} {L : xL} {I : xI} {Q : xQ} {m : Nat} {H : hmH} {O : hmO} (hm : xModel sh R m) (hS : hmMr (I (m + 28)) H) (hO : hmMo I m O) (ho : hmOok O) (hok : hmOk O H) (hQ : Q (some (.int (hmFree (hmN O) H))) 0 sh R L I) : Ex (d + 2) 0 0 MX9_mayRing 0 sh R L I 0 [some (.ref m), none, none] [] Q := by
  obtain ⟨s6, smin, slen, sset, stak, sline, sheld, shas, stalk⟩ := id hS
  obtain ⟨o6, ot1, ot2, oo, oll, owf⟩ := id ho
  obtain ⟨on, otk, ow, cd, cfrom, cto, clen, ccd, csem⟩ := id hO
  have hlN := hok.2.1
  refine Ex_iconst 1 (v := 0) dX9_mayRing_0 (by decide) rfl ?_
  refine Ex_istore_n 2 (i := 1) (ls' := [some (.ref m), some (.int 0), none]) dX9_mayRing_1 rfl (Nat.le_of_ble_eq_true rfl) rfl rfl rfl ?_
  refine Ex_iconst 3 (v := 0) dX9_mayRing_2 (by decide) rfl ?_
  refine Ex_istore_n 4 (i := 2) (ls' := [some (.ref m), some (.int 0), some (.int 0)]) dX9_mayRing_3 rfl (Nat.le_of_ble_eq_true rfl) rfl rfl rfl ?_
  exact mc_mayRing_loop hm hS hO ho hok hQ (hmN O) 0 (by omega)
def hmCanSwap (H : hmH) (x y : Nat) : Bool := decide (x ≠ y) && decide (x ∈ hmLine H) && decide (y ∈ hmLine H)
set_option maxHeartbeats 4000000 in
theorem mc_canSwap {d : Nat} {sh : xSh} {R : xR} {L : xL} {I : xI} {Q : xQ} {m : Nat} {H : hmH} {O : hmO} (hm : xModel sh R m) (hS : hmMr (I (m + 28)) H) (hO : hmMo I m O) (ho : hmOok O) (hok : hmOk O H) {x y : Nat} (hx6 : x < 6) (hy6 : y < 6) (hQ : Q (some (.int (hmB (hmCanSwap H x y)))) 0 sh R L I) : Ex (d + 1) 0 0 MX9_canSwap 0 sh R L I 0 [some (.ref m), some (.int (nI x)), some (.int (nI y))] [] Q := by
  obtain ⟨s6, smin, slen, sset, stak, sline, sheld, shas, stalk⟩ := id hS
  obtain ⟨o6, ot1, ot2, oo, oll, owf⟩ := id ho
  obtain ⟨on, otk, ow, cd, cfrom, cto, clen, ccd, csem⟩ := id hO
  have hlN := hok.2.1
  refine Ex_iload_n 1 (i := 1) dX9_canSwap_0 rfl rfl rfl ?_
  refine Ex_iload_n 2 (i := 2) dX9_canSwap_1 rfl rfl rfl ?_
  refine Ex_icmp_eq 5 25 dX9_canSwap_2 (by decide) rfl (fun c1 => ?_) (fun c1 => ?_)
  · refine Ex_iconst 26 (v := 0) dX9_canSwap_25 (by decide) rfl ?_
    refine Ex_iret dX9_canSwap_26 rfl (by decide) (Or.inl rfl) ?_
    have e : hmB (hmCanSwap H x y) = 0 := by
      have h1 := (nI_eq (by omega) (by omega)).mp c1
      simp [hmCanSwap, h1, hmB]
    rw [← e]
    exact hQ
  · refine Ex_aload_n 6 (i := 0) dX9_canSwap_5 rfl rfl rfl ?_
    refine Ex_iload_n 7 (i := 1) dX9_canSwap_6 rfl rfl rfl ?_
    refine Ex_callV (M' := MX9_placeOf) 10 [.int (nI x)] (rest := []) dX9_canSwap_7 lX9_319 mX9_placeOf rfl (xMs_0 hm) rfl (Nat.le_of_ble_eq_true rfl) (Nat.le_of_ble_eq_true rfl) rfl ?_
    refine mc_placeOf hm hS (by omega) (fun x hx => by have := hlN x hx; omega) ?_
    simp only [Option.toList, List.cons_append, List.nil_append]
    refine Ex_if_lt 13 25 dX9_canSwap_10 (by decide) rfl (fun c2 => ?_) (fun c2 => ?_)
    · refine Ex_iconst 26 (v := 0) dX9_canSwap_25 (by decide) rfl ?_
      refine Ex_iret dX9_canSwap_26 rfl (by decide) (Or.inl rfl) ?_
      have e : hmB (hmCanSwap H x y) = 0 := by
        have h1 := (hmPlc_lt (by omega)).mp c2
        simp [hmCanSwap, h1, hmB]
      rw [← e]
      exact hQ
    · refine Ex_aload_n 14 (i := 0) dX9_canSwap_13 rfl rfl rfl ?_
      refine Ex_iload_n 15 (i := 2) dX9_canSwap_14 rfl rfl rfl ?_
      refine Ex_callV (M' := MX9_placeOf) 18 [.int (nI y)] (rest := []) dX9_canSwap_15 lX9_319 mX9_placeOf rfl (xMs_0 hm) rfl (Nat.le_of_ble_eq_true rfl) (Nat.le_of_ble_eq_true rfl) rfl ?_
      refine mc_placeOf hm hS (by omega) (fun x hx => by have := hlN x hx; omega) ?_
      simp only [Option.toList, List.cons_append, List.nil_append]
      refine Ex_if_lt 21 25 dX9_canSwap_18 (by decide) rfl (fun c3 => ?_) (fun c3 => ?_)
      · refine Ex_iconst 26 (v := 0) dX9_canSwap_25 (by decide) rfl ?_
        refine Ex_iret dX9_canSwap_26 rfl (by decide) (Or.inl rfl) ?_
        have e : hmB (hmCanSwap H x y) = 0 := by
          have h1 := (hmPlc_lt (by omega)).mp c3
          simp [hmCanSwap, h1, hmB]
        rw [← e]
        exact hQ
      · refine Ex_iconst 22 (v := 1) dX9_canSwap_21 (by decide) rfl ?_
        refine Ex_goto 26 dX9_canSwap_22 (by decide) ?_
        refine Ex_iret dX9_canSwap_26 rfl (by decide) (Or.inl rfl) ?_
        have e : hmB (hmCanSwap H x y) = 1 := by
          have hx1 : x ∈ hmLine H := by
            by_cases z : x ∈ hmLine H
            · exact z
            · exact absurd ((hmPlc_lt (by omega)).mpr z) c2
          have hx2 : y ∈ hmLine H := by
            by_cases z : y ∈ hmLine H
            · exact z
            · exact absurd ((hmPlc_lt (by omega)).mpr z) c3
          have h3 : x ≠ y := fun q => c1 (by rw [q])
          simp [hmCanSwap, hx1, hx2, h3, hmB]
        rw [← e]
        exact hQ
