/-! the tape -/
def hmSgn (v : Int64) (s : Int32) : Int32 := ((v.toUInt64 >>> (s.toInt64.toUInt64 &&& Int64.toUInt64 63)).toInt64 &&& 255).toInt32
def hmGood (s : Int32) : Bool := decide (s = 10) || (decide (¬ s < 32) && decide (¬ 126 < s))
def hmPut (T : List Nat) (s : Int32) : List Nat := if hmGood s = true ∧ T.length < 1000 then T ++ [s.toInt.toNat] else T
def hmSh8 (j : Nat) : Int32 := 56 - nI (8 * j)
theorem hm_sh8 : ∀ j, j < 8 → hmSh8 j + Int32.ofInt (-8) = hmSh8 (j + 1) := by decide +kernel
theorem hm_sh8n : ∀ j, j < 8 → ¬ hmSh8 j < 0 := by decide +kernel
def hmPut8 (T : List Nat) (v : Int64) : Nat → List Nat
  | 0 => T
  | j + 1 => hmPut (hmPut8 T v j) (hmSgn v (hmSh8 j))
def hmTp (I : xI) (a : Nat) (T : List Nat) : Prop := T.length ≤ 1000 ∧ I a 1 = nI T.length ∧ ∀ i, i < T.length → I (a + 1) i = nI (T.getD i 0)
theorem hm_good {s : Int32} (h : hmGood s = true) : ∃ c, c < 127 ∧ s = nI c ∧ (c = 10 ∨ 32 ≤ c) := by
  have e0 : (10 : Int32).toInt = 10 := by decide
  have e1 : (32 : Int32).toInt = 32 := by decide
  have e2 : (126 : Int32).toInt = 126 := by decide
  simp only [hmGood, Bool.or_eq_true, Bool.and_eq_true, decide_eq_true_eq, Int32.lt_iff_toInt_lt, e1, e2] at h
  rcases h with h | h
  · exact ⟨10, by omega, h, Or.inl rfl⟩
  · refine ⟨s.toInt.toNat, by omega, ?_, by omega⟩
    apply Int32.toInt_inj.mp
    rw [nI_toInt (by omega)]
    omega
theorem hm_narb : ∀ c, c < 127 → vp_nar .byte ((nI c).toInt8.toInt32) = nI c := by decide +kernel
set_option maxHeartbeats 4000000 in
theorem c_write_loop {d : Nat} {sh : xSh} {R : xR} {L : xL} {I : xI} {Q : xQ} {a : Nat} {v : Int64} {T : List Nat} (ha : xTape sh R a) (hQ : (∀ I', (∀ x, x ≠ a → x ≠ a + 1 → I' x = I x) → (∀ k, k ≠ 1 → I' a k = I a k) → hmTp I' a (hmPut8 T v 8) → Q none 0 sh R L I')) : ∀ n j J, n + j = 8 → (∀ x, x ≠ a → x ≠ a + 1 → J x = I x) → (∀ k, k ≠ 1 → J a k = I a k) → hmTp J a (hmPut8 T v j) → Ex d 0 0 MX7_write 0 sh R L J 3 [some (.ref a), some (.long v), none, some (.int (hmSh8 j)), none] [] Q := by
  intro n
  induction n with
  | zero =>
    intro j J hj f1 f2 hT
    have hj8 : j = 8 := by omega
    subst hj8
    refine Ex_iload_n 4 (i := 3) dX7_write_3 rfl rfl rfl ?_
    refine Ex_if_lt 7 78 dX7_write_4 (by decide) rfl (fun c1 => ?_) (fun c1 => absurd c1 (fun q => q (by decide)))
    refine Ex_ret0 dX7_write_78 rfl (Or.inl rfl) ?_
    exact hQ J f1 f2 hT
  | succ n ih =>
    intro j J hj f1 f2 hT
    obtain ⟨t1, t2, t3⟩ := id hT
    refine Ex_iload_n 4 (i := 3) dX7_write_3 rfl rfl rfl ?_
    refine Ex_if_lt 7 78 dX7_write_4 (by decide) rfl (fun c1 => absurd c1 (hm_sh8n j (by omega))) (fun c1 => ?_)
    refine Ex_lload_n 8 (i := 1) dX7_write_7 rfl rfl rfl ?_
    refine Ex_iload_n 9 (i := 3) dX7_write_8 rfl rfl rfl ?_
    refine Ex_lushr 10 dX7_write_9 rfl ?_
    refine Ex_ldc2 13 (v := 255) dX7_write_10 kX7_15 rfl ?_
    refine Ex_land 14 dX7_write_13 rfl ?_
    refine Ex_l2i 15 dX7_write_14 rfl ?_
    rw [show (((v.toUInt64 >>> ((hmSh8 j).toInt64.toUInt64 &&& Int64.toUInt64 63)).toInt64) &&& 255).toInt32 = hmSgn v (hmSh8 j) from rfl]
    refine Ex_istore 17 (ls' := [some (.ref a), some (.long v), none, some (.int (hmSh8 j)), some (.int (hmSgn v (hmSh8 j)))]) dX7_write_15 (Nat.le_of_ble_eq_true rfl) rfl rfl rfl ?_
    refine Ex_iload 19 dX7_write_17 rfl rfl ?_
    refine Ex_bipush 21 (v := 10) dX7_write_19 (by decide) rfl ?_
    refine Ex_icmp_eq 24 38 dX7_write_21 (by decide) rfl (fun c2 => ?_) (fun c2 => ?_)
    · refine Ex_aload_n 39 (i := 0) dX7_write_38 rfl rfl rfl ?_
      refine Ex_gI 42 (J a 1) dX7_write_39 fX7_17 ha.1 rfl rfl rfl ?_
      rw [t2]
      refine Ex_aload_n 43 (i := 0) dX7_write_42 rfl rfl rfl ?_
      refine Ex_getR 46 dX7_write_43 fX7_9 ha.1 rfl ha.2.2 rfl ?_
      refine Ex_alen 47 2 dX7_write_46 ha.2.1 (fun _ => rfl) rfl ?_
      refine Ex_icmp_ge 50 72 dX7_write_47 (by decide) rfl (fun c3 => ?_) (fun c3 => ?_)
      · refine Ex_iinc 75 (v := (hmSh8 (j + 1))) (ls' := [some (.ref a), some (.long v), none, some (.int (hmSh8 (j + 1))), some (.int (hmSgn v (hmSh8 j)))]) dX7_write_72 rfl (hm_sh8 j (by omega)) (Nat.le_of_ble_eq_true rfl) rfl rfl rfl ?_
        refine Ex_goto 3 dX7_write_75 (by decide) ?_
        refine Ex_fgt (ls' := [some (.ref a), some (.long v), none, some (.int (hmSh8 (j + 1))), none]) (by simp [xsub]) ?_
        have hg : ¬ (hmGood (hmSgn v (hmSh8 j)) = true ∧ (hmPut8 T v j).length < 1000) := fun q => absurd c3 (nI_ge q.2 (by omega))
        have e : hmPut8 T v (j + 1) = hmPut8 T v j := if_neg hg
        refine ih (j + 1) J (by omega) f1 f2 ?_
        rw [e]
        exact hT
      · have hl : (hmPut8 T v j).length < 1000 := by
          by_cases z : (hmPut8 T v j).length < 1000
          · exact z
          · exact absurd (nI_le (by omega) (by omega)) c3
        refine Ex_aload_n 51 (i := 0) dX7_write_50 rfl rfl rfl ?_
        refine Ex_getR 54 dX7_write_51 fX7_9 ha.1 rfl ha.2.2 rfl ?_
        refine Ex_aload_n 55 (i := 0) dX7_write_54 rfl rfl rfl ?_
        refine Ex_gI 58 (J a 1) dX7_write_55 fX7_17 ha.1 rfl rfl rfl ?_
        rw [t2]
        refine Ex_iload 60 dX7_write_58 rfl rfl ?_
        refine Ex_i2b 61 dX7_write_60 rfl ?_
        refine Ex_sB 62 ((hmPut8 T v j).length) (J (a + 1)) (va_up J (a + 1) (va_up (J (a + 1)) ((hmPut8 T v j).length) (vp_nar .byte ((hmSgn v (hmSh8 j)).toInt8.toInt32)))) dX7_write_61 ha.2.1 rfl (by omega) (by decide) rfl rfl rfl ?_
        refine Ex_aload_n 63 (i := 0) dX7_write_62 rfl rfl rfl ?_
        refine Ex_dup 64 dX7_write_63 rfl rfl ?_
        refine Ex_gI 67 (J a 1) dX7_write_64 fX7_17 ha.1 rfl (congrFun (va_up_ne _ _ (by omega)) _) rfl ?_
        rw [t2]
        refine Ex_iconst 68 (v := 1) dX7_write_67 (by decide) rfl ?_
        refine Ex_iadd 69 dX7_write_68 rfl ?_
        rw [nI_1]
        refine Ex_pI 72 (J a) (va_up (va_up J (a + 1) (va_up (J (a + 1)) ((hmPut8 T v j).length) (vp_nar .byte ((hmSgn v (hmSh8 j)).toInt8.toInt32)))) a (va_up (J a) 1 (nI ((hmPut8 T v j).length + 1)))) dX7_write_69 fX7_17 rfl ha.1 rfl (fun _ => rfl) (va_up_ne _ _ (by omega)) rfl rfl rfl ?_
        refine Ex_iinc 75 (v := (hmSh8 (j + 1))) (ls' := [some (.ref a), some (.long v), none, some (.int (hmSh8 (j + 1))), some (.int (hmSgn v (hmSh8 j)))]) dX7_write_72 rfl (hm_sh8 j (by omega)) (Nat.le_of_ble_eq_true rfl) rfl rfl rfl ?_
        refine Ex_goto 3 dX7_write_75 (by decide) ?_
        refine Ex_fgt (ls' := [some (.ref a), some (.long v), none, some (.int (hmSh8 (j + 1))), none]) (by simp [xsub]) ?_
        have hg : hmGood (hmSgn v (hmSh8 j)) = true := by simp [hmGood, c2]
        obtain ⟨c, hc, ec, hc2⟩ := hm_good hg
        have e : hmPut8 T v (j + 1) = hmPut8 T v j ++ [c] := by
          show (if _ then _ else _) = _
          rw [if_pos ⟨hg, hl⟩, ec, nI_toInt (by omega)]
          rfl
        refine ih (j + 1) _ (by omega) (fun x p q => by rw [va_up_ne _ _ p, va_up_ne _ _ q]; exact f1 x p q) (fun k p => by rw [va_up_self, va_up_ne _ _ p]; exact f2 k p) ?_
        rw [e]
        refine ⟨by rw [List.length_append, List.length_singleton]; omega, ?_, fun i hi => ?_⟩
        · rw [va_up_self, va_up_self, List.length_append, List.length_singleton]
        · rw [List.length_append, List.length_singleton] at hi
          rw [va_up_ne _ _ (by omega), va_up_self]
          by_cases h : i = (hmPut8 T v j).length
          · rw [h, va_up_self, ec, hm_narb c hc]
            simp
          · rw [va_up_ne _ _ h, t3 i (by omega)]
            simp [List.getElem?_append_left (show i < (hmPut8 T v j).length by omega)]
    · refine Ex_iload 26 dX7_write_24 rfl rfl ?_
      refine Ex_bipush 28 (v := 32) dX7_write_26 (by decide) rfl ?_
      refine Ex_icmp_lt 31 72 dX7_write_28 (by decide) rfl (fun c4 => ?_) (fun c4 => ?_)
      · refine Ex_iinc 75 (v := (hmSh8 (j + 1))) (ls' := [some (.ref a), some (.long v), none, some (.int (hmSh8 (j + 1))), some (.int (hmSgn v (hmSh8 j)))]) dX7_write_72 rfl (hm_sh8 j (by omega)) (Nat.le_of_ble_eq_true rfl) rfl rfl rfl ?_
        refine Ex_goto 3 dX7_write_75 (by decide) ?_
        refine Ex_fgt (ls' := [some (.ref a), some (.long v), none, some (.int (hmSh8 (j + 1))), none]) (by simp [xsub]) ?_
        have hg : ¬ (hmGood (hmSgn v (hmSh8 j)) = true ∧ (hmPut8 T v j).length < 1000) := by
          intro q
          have q1 := q.1
          simp only [hmGood, Bool.or_eq_true, Bool.and_eq_true, decide_eq_true_eq] at q1
          rcases q1 with q1 | q1
          · exact c2 q1
          · exact q1.1 c4
        have e : hmPut8 T v (j + 1) = hmPut8 T v j := if_neg hg
        refine ih (j + 1) J (by omega) f1 f2 ?_
        rw [e]
        exact hT
      · refine Ex_iload 33 dX7_write_31 rfl rfl ?_
        refine Ex_bipush 35 (v := 126) dX7_write_33 (by decide) rfl ?_
        refine Ex_icmp_gt 38 72 dX7_write_35 (by decide) rfl (fun c5 => ?_) (fun c5 => ?_)
        · refine Ex_iinc 75 (v := (hmSh8 (j + 1))) (ls' := [some (.ref a), some (.long v), none, some (.int (hmSh8 (j + 1))), some (.int (hmSgn v (hmSh8 j)))]) dX7_write_72 rfl (hm_sh8 j (by omega)) (Nat.le_of_ble_eq_true rfl) rfl rfl rfl ?_
          refine Ex_goto 3 dX7_write_75 (by decide) ?_
          refine Ex_fgt (ls' := [some (.ref a), some (.long v), none, some (.int (hmSh8 (j + 1))), none]) (by simp [xsub]) ?_
          have hg : ¬ (hmGood (hmSgn v (hmSh8 j)) = true ∧ (hmPut8 T v j).length < 1000) := by
            intro q
            have q1 := q.1
            simp only [hmGood, Bool.or_eq_true, Bool.and_eq_true, decide_eq_true_eq] at q1
            rcases q1 with q1 | q1
            · exact c2 q1
            · exact q1.2 c5
          have e : hmPut8 T v (j + 1) = hmPut8 T v j := if_neg hg
          refine ih (j + 1) J (by omega) f1 f2 ?_
          rw [e]
          exact hT
        · refine Ex_aload_n 39 (i := 0) dX7_write_38 rfl rfl rfl ?_
          refine Ex_gI 42 (J a 1) dX7_write_39 fX7_17 ha.1 rfl rfl rfl ?_
          rw [t2]
          refine Ex_aload_n 43 (i := 0) dX7_write_42 rfl rfl rfl ?_
          refine Ex_getR 46 dX7_write_43 fX7_9 ha.1 rfl ha.2.2 rfl ?_
          refine Ex_alen 47 2 dX7_write_46 ha.2.1 (fun _ => rfl) rfl ?_
          refine Ex_icmp_ge 50 72 dX7_write_47 (by decide) rfl (fun c6 => ?_) (fun c6 => ?_)
          · refine Ex_iinc 75 (v := (hmSh8 (j + 1))) (ls' := [some (.ref a), some (.long v), none, some (.int (hmSh8 (j + 1))), some (.int (hmSgn v (hmSh8 j)))]) dX7_write_72 rfl (hm_sh8 j (by omega)) (Nat.le_of_ble_eq_true rfl) rfl rfl rfl ?_
            refine Ex_goto 3 dX7_write_75 (by decide) ?_
            refine Ex_fgt (ls' := [some (.ref a), some (.long v), none, some (.int (hmSh8 (j + 1))), none]) (by simp [xsub]) ?_
            have hg : ¬ (hmGood (hmSgn v (hmSh8 j)) = true ∧ (hmPut8 T v j).length < 1000) := fun q => absurd c6 (nI_ge q.2 (by omega))
            have e : hmPut8 T v (j + 1) = hmPut8 T v j := if_neg hg
            refine ih (j + 1) J (by omega) f1 f2 ?_
            rw [e]
            exact hT
          · have hl : (hmPut8 T v j).length < 1000 := by
              by_cases z : (hmPut8 T v j).length < 1000
              · exact z
              · exact absurd (nI_le (by omega) (by omega)) c6
            refine Ex_aload_n 51 (i := 0) dX7_write_50 rfl rfl rfl ?_
            refine Ex_getR 54 dX7_write_51 fX7_9 ha.1 rfl ha.2.2 rfl ?_
            refine Ex_aload_n 55 (i := 0) dX7_write_54 rfl rfl rfl ?_
            refine Ex_gI 58 (J a 1) dX7_write_55 fX7_17 ha.1 rfl rfl rfl ?_
            rw [t2]
            refine Ex_iload 60 dX7_write_58 rfl rfl ?_
            refine Ex_i2b 61 dX7_write_60 rfl ?_
            refine Ex_sB 62 ((hmPut8 T v j).length) (J (a + 1)) (va_up J (a + 1) (va_up (J (a + 1)) ((hmPut8 T v j).length) (vp_nar .byte ((hmSgn v (hmSh8 j)).toInt8.toInt32)))) dX7_write_61 ha.2.1 rfl (by omega) (by decide) rfl rfl rfl ?_
            refine Ex_aload_n 63 (i := 0) dX7_write_62 rfl rfl rfl ?_
            refine Ex_dup 64 dX7_write_63 rfl rfl ?_
            refine Ex_gI 67 (J a 1) dX7_write_64 fX7_17 ha.1 rfl (congrFun (va_up_ne _ _ (by omega)) _) rfl ?_
            rw [t2]
            refine Ex_iconst 68 (v := 1) dX7_write_67 (by decide) rfl ?_
            refine Ex_iadd 69 dX7_write_68 rfl ?_
            rw [nI_1]
            refine Ex_pI 72 (J a) (va_up (va_up J (a + 1) (va_up (J (a + 1)) ((hmPut8 T v j).length) (vp_nar .byte ((hmSgn v (hmSh8 j)).toInt8.toInt32)))) a (va_up (J a) 1 (nI ((hmPut8 T v j).length + 1)))) dX7_write_69 fX7_17 rfl ha.1 rfl (fun _ => rfl) (va_up_ne _ _ (by omega)) rfl rfl rfl ?_
            refine Ex_iinc 75 (v := (hmSh8 (j + 1))) (ls' := [some (.ref a), some (.long v), none, some (.int (hmSh8 (j + 1))), some (.int (hmSgn v (hmSh8 j)))]) dX7_write_72 rfl (hm_sh8 j (by omega)) (Nat.le_of_ble_eq_true rfl) rfl rfl rfl ?_
            refine Ex_goto 3 dX7_write_75 (by decide) ?_
            refine Ex_fgt (ls' := [some (.ref a), some (.long v), none, some (.int (hmSh8 (j + 1))), none]) (by simp [xsub]) ?_
            have hg : hmGood (hmSgn v (hmSh8 j)) = true := by simp only [hmGood, Bool.or_eq_true, Bool.and_eq_true, decide_eq_true_eq]; exact Or.inr ⟨c4, c5⟩
            obtain ⟨c, hc, ec, hc2⟩ := hm_good hg
            have e : hmPut8 T v (j + 1) = hmPut8 T v j ++ [c] := by
              show (if _ then _ else _) = _
              rw [if_pos ⟨hg, hl⟩, ec, nI_toInt (by omega)]
              rfl
            refine ih (j + 1) _ (by omega) (fun x p q => by rw [va_up_ne _ _ p, va_up_ne _ _ q]; exact f1 x p q) (fun k p => by rw [va_up_self, va_up_ne _ _ p]; exact f2 k p) ?_
            rw [e]
            refine ⟨by rw [List.length_append, List.length_singleton]; omega, ?_, fun i hi => ?_⟩
            · rw [va_up_self, va_up_self, List.length_append, List.length_singleton]
            · rw [List.length_append, List.length_singleton] at hi
              rw [va_up_ne _ _ (by omega), va_up_self]
              by_cases h : i = (hmPut8 T v j).length
              · rw [h, va_up_self, ec, hm_narb c hc]
                simp
              · rw [va_up_ne _ _ h, t3 i (by omega)]
                simp [List.getElem?_append_left (show i < (hmPut8 T v j).length by omega)]
set_option maxHeartbeats 4000000 in
theorem c_write {d : Nat} {sh : xSh} {R : xR} {L : xL} {I : xI} {Q : xQ} {a : Nat} {v : Int64} {T : List Nat} (ha : xTape sh R a) (hT : hmTp I a T) (hQ : (∀ I', (∀ x, x ≠ a → x ≠ a + 1 → I' x = I x) → (∀ k, k ≠ 1 → I' a k = I a k) → hmTp I' a (hmPut8 T v 8) → Q none 0 sh R L I')) : Ex d 0 0 MX7_write 0 sh R L I 0 [some (.ref a), some (.long v), none, none, none] [] Q := by
  refine Ex_bipush 2 (v := 56) dX7_write_0 (by decide) rfl ?_
  refine Ex_istore_n 3 (i := 3) (ls' := [some (.ref a), some (.long v), none, some (.int 56), none]) dX7_write_2 rfl (Nat.le_of_ble_eq_true rfl) rfl rfl rfl ?_
  refine Ex_l (ls' := [some (.ref a), some (.long v), none, some (.int (hmSh8 0)), none]) rfl ?_
  exact c_write_loop ha hQ 8 0 I rfl (fun _ _ _ => rfl) (fun _ _ => rfl) hT
set_option maxHeartbeats 4000000 in
theorem c_feed {d : Nat} {sh : xSh} {R : xR} {L : xL} {I : xI} {Q : xQ} {h dk dd pl pd : Nat} {T : List Nat} {v1 v2 v3 : Int64} (hx : xHM sh R h dk dd pl pd) (hT : hmTp I (h + 2) T) (hQ : ∀ I', (∀ x, x ≠ h + 2 → x ≠ h + 2 + 1 → I' x = I x) → (∀ k, k ≠ 1 → I' (h + 2) k = I (h + 2) k) → hmTp I' (h + 2) (hmPut8 (hmPut8 (hmPut8 T v1 8) v2 8) v3 8) → Q (some (.int (nI (hmPut8 (hmPut8 (hmPut8 T v1 8) v2 8) v3 8).length))) 0 sh R L I') : Ex (d + 1) 0 0 MX8_feed 0 sh R L I 0 [some (.ref h), some (.long v1), none, some (.long v2), none, some (.long v3), none] [] Q := by
  have hxr := xH_13 hx
  have hta : xTape sh R (h + 2) := ⟨hxr.2.1, hxr.2.2.1, hxr.2.2.2.2⟩
  refine Ex_aload_n 1 (i := 0) dX8_feed_0 rfl rfl rfl ?_
  refine Ex_getR 4 dX8_feed_1 fX8_10 (xH_0 hx) rfl (xH_1 hx) rfl ?_
  refine Ex_getR 7 dX8_feed_4 fX8_71 (xH_13 hx).1 rfl (xH_13 hx).2.2.2.1 rfl ?_
  refine Ex_lload_n 8 (i := 1) dX8_feed_7 rfl rfl rfl ?_
  refine Ex_callV (M' := MX7_write) 11 [.long v1] (rest := []) dX8_feed_8 lX8_75 mX7_write rfl (xH_13 hx).2.1 rfl (Nat.le_of_ble_eq_true rfl) (Nat.le_of_ble_eq_true rfl) rfl ?_
  refine c_write (a := h + 2) (v := v1) hta hT (fun I1 f1 g1 hT1 => ?_)
  simp only [Option.toList, List.nil_append, List.cons_append]
  refine Ex_aload_n 12 (i := 0) dX8_feed_11 rfl rfl rfl ?_
  refine Ex_getR 15 dX8_feed_12 fX8_10 (xH_0 hx) rfl (xH_1 hx) rfl ?_
  refine Ex_getR 18 dX8_feed_15 fX8_71 (xH_13 hx).1 rfl (xH_13 hx).2.2.2.1 rfl ?_
  refine Ex_lload_n 19 (i := 3) dX8_feed_18 rfl rfl rfl ?_
  refine Ex_callV (M' := MX7_write) 22 [.long v2] (rest := []) dX8_feed_19 lX8_75 mX7_write rfl (xH_13 hx).2.1 rfl (Nat.le_of_ble_eq_true rfl) (Nat.le_of_ble_eq_true rfl) rfl ?_
  refine c_write (a := h + 2) (v := v2) hta hT1 (fun I2 f2 g2 hT2 => ?_)
  simp only [Option.toList, List.nil_append, List.cons_append]
  refine Ex_aload_n 23 (i := 0) dX8_feed_22 rfl rfl rfl ?_
  refine Ex_getR 26 dX8_feed_23 fX8_10 (xH_0 hx) rfl (xH_1 hx) rfl ?_
  refine Ex_getR 29 dX8_feed_26 fX8_71 (xH_13 hx).1 rfl (xH_13 hx).2.2.2.1 rfl ?_
  refine Ex_lload 31 dX8_feed_29 rfl rfl ?_
  refine Ex_callV (M' := MX7_write) 34 [.long v3] (rest := []) dX8_feed_31 lX8_75 mX7_write rfl (xH_13 hx).2.1 rfl (Nat.le_of_ble_eq_true rfl) (Nat.le_of_ble_eq_true rfl) rfl ?_
  refine c_write (a := h + 2) (v := v3) hta hT2 (fun I3 f3 g3 hT3 => ?_)
  simp only [Option.toList, List.nil_append, List.cons_append]
  refine Ex_aload_n 35 (i := 0) dX8_feed_34 rfl rfl rfl ?_
  refine Ex_getR 38 dX8_feed_35 fX8_10 (xH_0 hx) rfl (xH_1 hx) rfl ?_
  refine Ex_getR 41 dX8_feed_38 fX8_71 (xH_13 hx).1 rfl (xH_13 hx).2.2.2.1 rfl ?_
  refine Ex_gI 44 (I3 (h + 2) 1) dX8_feed_41 fX8_81 (xH_13 hx).2.1 rfl rfl rfl ?_
  rw [hT3.2.1]
  refine Ex_iret dX8_feed_44 rfl rfl (Or.inl rfl) ?_
  exact hQ I3 (fun x p q => (f3 x p q).trans ((f2 x p q).trans (f1 x p q))) (fun k p => (g3 k p).trans ((g2 k p).trans (g1 k p))) hT3
