def hmTm (I : xI) (m : Nat) (T : List Nat) : Prop := T.length ≤ 1000 ∧ I m 1 = nI T.length ∧ ∀ i, i < T.length → I (m + 1) i = nI (T.getD i 0)
def hmPutK (T : List Nat) (v1 v2 v3 : Int64) : Nat → List Nat
  | 0 => T
  | k + 1 => hmPut (hmPutK T v1 v2 v3 k) (hmSgn (if k < 8 then v1 else if k < 16 then v2 else v3) (hmSh8 (k % 8)))
theorem hm_sh24 : ∀ k, k < 24 → 56 - 8 * (nI k &&& 7) = hmSh8 (k % 8) := by decide +kernel
set_option maxHeartbeats 4000000 in
theorem mc_feed_41 {d : Nat} {sh : xSh} {R : xR} {L : xL} {I : xI} {Q : xQ} {m k : Nat} {v v1 v2 v3 : Int64} {T : List Nat} (hm : xModel sh R m) (hk : k < 24) (hT : hmTm I m T) (hE : ∀ J, (∀ x, x ≠ m → x ≠ m + 1 → J x = I x) → (∀ k, k ≠ 1 → J m k = I m k) → hmTm J m (hmPut T (hmSgn v (hmSh8 (k % 8)))) → Ex d 0 0 MX9_feed 0 sh R L J 8 [some (.ref m), some (.long v1), none, some (.long v2), none, some (.long v3), none, some (.int (nI (k + 1))), none, none, none] [] Q) : Ex d 0 0 MX9_feed 0 sh R L I 41 [some (.ref m), some (.long v1), none, some (.long v2), none, some (.long v3), none, some (.int (nI k)), some (.long v), none, none] [] Q := by
  obtain ⟨t1, t2, t3⟩ := id hT
  refine Ex_lload 43 dX9_feed_41 rfl rfl ?_
  refine Ex_bipush 45 (v := 56) dX9_feed_43 (by decide) rfl ?_
  refine Ex_bipush 47 (v := 8) dX9_feed_45 (by decide) rfl ?_
  refine Ex_iload 49 dX9_feed_47 rfl rfl ?_
  refine Ex_bipush 51 (v := 7) dX9_feed_49 (by decide) rfl ?_
  refine Ex_iand 52 dX9_feed_51 rfl ?_
  refine Ex_imul 53 dX9_feed_52 rfl ?_
  refine Ex_isub 54 dX9_feed_53 rfl ?_
  rw [hm_sh24 k hk]
  refine Ex_lushr 55 dX9_feed_54 rfl ?_
  refine Ex_ldc2 58 (v := 255) dX9_feed_55 kX9_133 rfl ?_
  refine Ex_land 59 dX9_feed_58 rfl ?_
  refine Ex_l2i 60 dX9_feed_59 rfl ?_
  rw [show (((v.toUInt64 >>> ((hmSh8 (k % 8)).toInt64.toUInt64 &&& Int64.toUInt64 63)).toInt64) &&& 255).toInt32 = hmSgn v (hmSh8 (k % 8)) from rfl]
  refine Ex_istore 62 (ls' := [some (.ref m), some (.long v1), none, some (.long v2), none, some (.long v3), none, some (.int (nI k)), some (.long v), none, some (.int (hmSgn v (hmSh8 (k % 8))))]) dX9_feed_60 (Nat.le_of_ble_eq_true rfl) rfl rfl rfl ?_
  refine Ex_aload_n 63 (i := 0) dX9_feed_62 rfl rfl rfl ?_
  refine Ex_gI 66 (I m 1) dX9_feed_63 fX9_135 (xMs_0 hm) rfl rfl rfl ?_
  rw [t2]
  refine Ex_sipush 69 (v := 1000) dX9_feed_66 (by decide) rfl ?_
  refine Ex_icmp_ge 72 114 dX9_feed_69 (by decide) rfl (fun c1 => ?_) (fun c1 => ?_)
  · refine Ex_iinc 117 (v := (nI (k + 1))) (ls' := [some (.ref m), some (.long v1), none, some (.long v2), none, some (.long v3), none, some (.int (nI (k + 1))), some (.long v), none, some (.int (hmSgn v (hmSh8 (k % 8))))]) dX9_feed_114 rfl (xinc _) (Nat.le_of_ble_eq_true rfl) rfl rfl rfl ?_
    refine Ex_goto 8 dX9_feed_117 (by decide) ?_
    refine Ex_fgt (ls' := [some (.ref m), some (.long v1), none, some (.long v2), none, some (.long v3), none, some (.int (nI (k + 1))), none, none, none]) (by simp [xsub]) ?_
    have hg : ¬ (hmGood (hmSgn v (hmSh8 (k % 8))) = true ∧ T.length < 1000) := fun q => absurd c1 (nI_ge (b := 1000) q.2 (by omega))
    have e : hmPut T (hmSgn v (hmSh8 (k % 8))) = T := if_neg hg
    refine hE I (fun _ _ _ => rfl) (fun _ _ => rfl) ?_
    rw [e]
    exact hT
  · have hl : T.length < 1000 := by
      by_cases z : T.length < 1000
      · exact z
      · exact absurd (nI_le (a := 1000) (by omega) (by omega)) c1
    refine Ex_iload 74 dX9_feed_72 rfl rfl ?_
    refine Ex_bipush 76 (v := 10) dX9_feed_74 (by decide) rfl ?_
    refine Ex_icmp_eq 79 93 dX9_feed_76 (by decide) rfl (fun c2 => ?_) (fun c2 => ?_)
    · refine Ex_aload_n 94 (i := 0) dX9_feed_93 rfl rfl rfl ?_
      refine Ex_getR 97 dX9_feed_94 fX9_7 (xMs_0 hm) rfl (xMr_2 hm) rfl ?_
      refine Ex_aload_n 98 (i := 0) dX9_feed_97 rfl rfl rfl ?_
      refine Ex_gI 101 (I m 1) dX9_feed_98 fX9_135 (xMs_0 hm) rfl rfl rfl ?_
      rw [t2]
      refine Ex_iload 103 dX9_feed_101 rfl rfl ?_
      refine Ex_sI 104 T.length (I (m + 1)) (va_up I (m + 1) (va_up (I (m + 1)) T.length (hmSgn v (hmSh8 (k % 8))))) dX9_feed_103 (xMs_1 hm) rfl (by omega) (by decide) rfl rfl rfl ?_
      refine Ex_aload_n 105 (i := 0) dX9_feed_104 rfl rfl rfl ?_
      refine Ex_dup 106 dX9_feed_105 rfl rfl ?_
      refine Ex_gI 109 (I m 1) dX9_feed_106 fX9_135 (xMs_0 hm) rfl (congrFun (va_up_ne _ _ (by omega)) _) rfl ?_
      rw [t2]
      refine Ex_iconst 110 (v := 1) dX9_feed_109 (by decide) rfl ?_
      refine Ex_iadd 111 dX9_feed_110 rfl ?_
      rw [nI_1]
      refine Ex_pI 114 (I m) (va_up (va_up I (m + 1) (va_up (I (m + 1)) T.length (hmSgn v (hmSh8 (k % 8))))) m (va_up (I m) 1 (nI (T.length + 1)))) dX9_feed_111 fX9_135 rfl (xMs_0 hm) rfl (fun _ => rfl) (va_up_ne _ _ (by omega)) rfl rfl rfl ?_
      refine Ex_iinc 117 (v := (nI (k + 1))) (ls' := [some (.ref m), some (.long v1), none, some (.long v2), none, some (.long v3), none, some (.int (nI (k + 1))), some (.long v), none, some (.int (hmSgn v (hmSh8 (k % 8))))]) dX9_feed_114 rfl (xinc _) (Nat.le_of_ble_eq_true rfl) rfl rfl rfl ?_
      refine Ex_goto 8 dX9_feed_117 (by decide) ?_
      refine Ex_fgt (ls' := [some (.ref m), some (.long v1), none, some (.long v2), none, some (.long v3), none, some (.int (nI (k + 1))), none, none, none]) (by simp [xsub]) ?_
      have hg : hmGood (hmSgn v (hmSh8 (k % 8))) = true := by simp [hmGood, c2]
      obtain ⟨c, hc, ec, hc2⟩ := hm_good hg
      have e : hmPut T (hmSgn v (hmSh8 (k % 8))) = T ++ [c] := by
        unfold hmPut
        rw [if_pos ⟨hg, hl⟩, ec, nI_toInt (by omega)]
        rfl
      refine hE _ (fun x p q => by rw [va_up_ne _ _ p, va_up_ne _ _ q]) (fun k p => by rw [va_up_self, va_up_ne _ _ p]) ?_
      rw [e]
      refine ⟨by rw [List.length_append, List.length_singleton]; omega, ?_, fun i hi => ?_⟩
      · rw [va_up_self, va_up_self, List.length_append, List.length_singleton]
      · rw [List.length_append, List.length_singleton] at hi
        rw [va_up_ne _ _ (by omega), va_up_self]
        by_cases h : i = T.length
        · rw [h, va_up_self, ec]
          simp
        · rw [va_up_ne _ _ h, t3 i (by omega)]
          simp [List.getElem?_append_left (show i < T.length by omega)]
    · refine Ex_iload 81 dX9_feed_79 rfl rfl ?_
      refine Ex_bipush 83 (v := 32) dX9_feed_81 (by decide) rfl ?_
      refine Ex_icmp_lt 86 114 dX9_feed_83 (by decide) rfl (fun c3 => ?_) (fun c3 => ?_)
      · refine Ex_iinc 117 (v := (nI (k + 1))) (ls' := [some (.ref m), some (.long v1), none, some (.long v2), none, some (.long v3), none, some (.int (nI (k + 1))), some (.long v), none, some (.int (hmSgn v (hmSh8 (k % 8))))]) dX9_feed_114 rfl (xinc _) (Nat.le_of_ble_eq_true rfl) rfl rfl rfl ?_
        refine Ex_goto 8 dX9_feed_117 (by decide) ?_
        refine Ex_fgt (ls' := [some (.ref m), some (.long v1), none, some (.long v2), none, some (.long v3), none, some (.int (nI (k + 1))), none, none, none]) (by simp [xsub]) ?_
        have hg : ¬ (hmGood (hmSgn v (hmSh8 (k % 8))) = true ∧ T.length < 1000) := by
          intro q
          have q1 := q.1
          simp only [hmGood, Bool.or_eq_true, Bool.and_eq_true, decide_eq_true_eq] at q1
          rcases q1 with q1 | q1
          · exact c2 q1
          · exact q1.1 c3
        have e : hmPut T (hmSgn v (hmSh8 (k % 8))) = T := if_neg hg
        refine hE I (fun _ _ _ => rfl) (fun _ _ => rfl) ?_
        rw [e]
        exact hT
      · refine Ex_iload 88 dX9_feed_86 rfl rfl ?_
        refine Ex_bipush 90 (v := 126) dX9_feed_88 (by decide) rfl ?_
        refine Ex_icmp_gt 93 114 dX9_feed_90 (by decide) rfl (fun c4 => ?_) (fun c4 => ?_)
        · refine Ex_iinc 117 (v := (nI (k + 1))) (ls' := [some (.ref m), some (.long v1), none, some (.long v2), none, some (.long v3), none, some (.int (nI (k + 1))), some (.long v), none, some (.int (hmSgn v (hmSh8 (k % 8))))]) dX9_feed_114 rfl (xinc _) (Nat.le_of_ble_eq_true rfl) rfl rfl rfl ?_
          refine Ex_goto 8 dX9_feed_117 (by decide) ?_
          refine Ex_fgt (ls' := [some (.ref m), some (.long v1), none, some (.long v2), none, some (.long v3), none, some (.int (nI (k + 1))), none, none, none]) (by simp [xsub]) ?_
          have hg : ¬ (hmGood (hmSgn v (hmSh8 (k % 8))) = true ∧ T.length < 1000) := by
            intro q
            have q1 := q.1
            simp only [hmGood, Bool.or_eq_true, Bool.and_eq_true, decide_eq_true_eq] at q1
            rcases q1 with q1 | q1
            · exact c2 q1
            · exact q1.2 c4
          have e : hmPut T (hmSgn v (hmSh8 (k % 8))) = T := if_neg hg
          refine hE I (fun _ _ _ => rfl) (fun _ _ => rfl) ?_
          rw [e]
          exact hT
        · refine Ex_aload_n 94 (i := 0) dX9_feed_93 rfl rfl rfl ?_
          refine Ex_getR 97 dX9_feed_94 fX9_7 (xMs_0 hm) rfl (xMr_2 hm) rfl ?_
          refine Ex_aload_n 98 (i := 0) dX9_feed_97 rfl rfl rfl ?_
          refine Ex_gI 101 (I m 1) dX9_feed_98 fX9_135 (xMs_0 hm) rfl rfl rfl ?_
          rw [t2]
          refine Ex_iload 103 dX9_feed_101 rfl rfl ?_
          refine Ex_sI 104 T.length (I (m + 1)) (va_up I (m + 1) (va_up (I (m + 1)) T.length (hmSgn v (hmSh8 (k % 8))))) dX9_feed_103 (xMs_1 hm) rfl (by omega) (by decide) rfl rfl rfl ?_
          refine Ex_aload_n 105 (i := 0) dX9_feed_104 rfl rfl rfl ?_
          refine Ex_dup 106 dX9_feed_105 rfl rfl ?_
          refine Ex_gI 109 (I m 1) dX9_feed_106 fX9_135 (xMs_0 hm) rfl (congrFun (va_up_ne _ _ (by omega)) _) rfl ?_
          rw [t2]
          refine Ex_iconst 110 (v := 1) dX9_feed_109 (by decide) rfl ?_
          refine Ex_iadd 111 dX9_feed_110 rfl ?_
          rw [nI_1]
          refine Ex_pI 114 (I m) (va_up (va_up I (m + 1) (va_up (I (m + 1)) T.length (hmSgn v (hmSh8 (k % 8))))) m (va_up (I m) 1 (nI (T.length + 1)))) dX9_feed_111 fX9_135 rfl (xMs_0 hm) rfl (fun _ => rfl) (va_up_ne _ _ (by omega)) rfl rfl rfl ?_
          refine Ex_iinc 117 (v := (nI (k + 1))) (ls' := [some (.ref m), some (.long v1), none, some (.long v2), none, some (.long v3), none, some (.int (nI (k + 1))), some (.long v), none, some (.int (hmSgn v (hmSh8 (k % 8))))]) dX9_feed_114 rfl (xinc _) (Nat.le_of_ble_eq_true rfl) rfl rfl rfl ?_
          refine Ex_goto 8 dX9_feed_117 (by decide) ?_
          refine Ex_fgt (ls' := [some (.ref m), some (.long v1), none, some (.long v2), none, some (.long v3), none, some (.int (nI (k + 1))), none, none, none]) (by simp [xsub]) ?_
          have hg : hmGood (hmSgn v (hmSh8 (k % 8))) = true := by simp only [hmGood, Bool.or_eq_true, Bool.and_eq_true, decide_eq_true_eq]; exact Or.inr ⟨c3, c4⟩
          obtain ⟨c, hc, ec, hc2⟩ := hm_good hg
          have e : hmPut T (hmSgn v (hmSh8 (k % 8))) = T ++ [c] := by
            unfold hmPut
            rw [if_pos ⟨hg, hl⟩, ec, nI_toInt (by omega)]
            rfl
          refine hE _ (fun x p q => by rw [va_up_ne _ _ p, va_up_ne _ _ q]) (fun k p => by rw [va_up_self, va_up_ne _ _ p]) ?_
          rw [e]
          refine ⟨by rw [List.length_append, List.length_singleton]; omega, ?_, fun i hi => ?_⟩
          · rw [va_up_self, va_up_self, List.length_append, List.length_singleton]
          · rw [List.length_append, List.length_singleton] at hi
            rw [va_up_ne _ _ (by omega), va_up_self]
            by_cases h : i = T.length
            · rw [h, va_up_self, ec]
              simp
            · rw [va_up_ne _ _ h, t3 i (by omega)]
              simp [List.getElem?_append_left (show i < T.length by omega)]
set_option maxHeartbeats 4000000 in
theorem mc_feed_loop {d : Nat} {sh : xSh} {R : xR} {L : xL} {I : xI} {Q : xQ} {m : Nat} {v1 v2 v3 : Int64} {T : List Nat} (hm : xModel sh R m) (hQ : ∀ I', (∀ x, x ≠ m → x ≠ m + 1 → I' x = I x) → (∀ k, k ≠ 1 → I' m k = I m k) → hmTm I' m (hmPutK T v1 v2 v3 24) → Q (some (.int (nI (hmPutK T v1 v2 v3 24).length))) 0 sh R L I') : ∀ n k J, n + k = 24 → (∀ x, x ≠ m → x ≠ m + 1 → J x = I x) → (∀ k, k ≠ 1 → J m k = I m k) → hmTm J m (hmPutK T v1 v2 v3 k) → Ex d 0 0 MX9_feed 0 sh R L J 8 [some (.ref m), some (.long v1), none, some (.long v2), none, some (.long v3), none, some (.int (nI k)), none, none, none] [] Q := by
  intro n
  induction n with
  | zero =>
    intro k J hk f1 f2 hT
    have hk24 : k = 24 := by omega
    subst hk24
    refine Ex_iload 10 dX9_feed_8 rfl rfl ?_
    refine Ex_bipush 12 (v := 24) dX9_feed_10 (by decide) rfl ?_
    refine Ex_icmp_ge 15 120 dX9_feed_12 (by decide) rfl (fun c1 => ?_) (fun c1 => absurd c1 (fun q => q (nI_le (a := 24) (b := 24) (by omega) (by omega))))
    refine Ex_aload_n 121 (i := 0) dX9_feed_120 rfl rfl rfl ?_
    refine Ex_gI 124 (J m 1) dX9_feed_121 fX9_135 (xMs_0 hm) rfl rfl rfl ?_
    rw [hT.2.1]
    refine Ex_iret dX9_feed_124 rfl rfl (Or.inl rfl) ?_
    exact hQ J f1 f2 hT
  | succ n ih =>
    intro k J hk f1 f2 hT
    refine Ex_iload 10 dX9_feed_8 rfl rfl ?_
    refine Ex_bipush 12 (v := 24) dX9_feed_10 (by decide) rfl ?_
    refine Ex_icmp_ge 15 120 dX9_feed_12 (by decide) rfl (fun c1 => absurd c1 (nI_ge (b := 24) (by omega) (by omega))) (fun c1 => ?_)
    refine Ex_iload 17 dX9_feed_15 rfl rfl ?_
    refine Ex_bipush 19 (v := 8) dX9_feed_17 (by decide) rfl ?_
    refine Ex_icmp_ge 22 26 dX9_feed_19 (by decide) rfl (fun c2 => ?_) (fun c2 => ?_)
    · refine Ex_iload 28 dX9_feed_26 rfl rfl ?_
      refine Ex_bipush 30 (v := 16) dX9_feed_28 (by decide) rfl ?_
      refine Ex_icmp_ge 33 37 dX9_feed_30 (by decide) rfl (fun c3 => ?_) (fun c3 => ?_)
      · refine Ex_lload 39 dX9_feed_37 rfl rfl ?_
        refine Ex_lstore 41 (ls' := [some (.ref m), some (.long v1), none, some (.long v2), none, some (.long v3), none, some (.int (nI k)), some (.long v3), none, none]) dX9_feed_39 (Nat.le_of_ble_eq_true rfl) rfl rfl rfl ?_
        have h8 : ¬ k < 8 := fun z => absurd c2 (nI_ge (b := 8) z (by omega))
        have h16 : ¬ k < 16 := fun z => absurd c3 (nI_ge (b := 16) z (by omega))
        have ev : (if k < 8 then v1 else if k < 16 then v2 else v3) = v3 := by rw [if_neg h8, if_neg h16]
        refine mc_feed_41 hm (by omega) hT (fun J' g1 g2 g3 => ?_)
        refine ih (k + 1) J' (by omega) (fun x p q => (g1 x p q).trans (f1 x p q)) (fun j p => (g2 j p).trans (f2 j p)) ?_
        show hmTm J' m (hmPut (hmPutK T v1 v2 v3 k) (hmSgn (if k < 8 then v1 else if k < 16 then v2 else v3) (hmSh8 (k % 8))))
        rw [ev]
        exact g3
      · refine Ex_lload_n 34 (i := 3) dX9_feed_33 rfl rfl rfl ?_
        refine Ex_goto 39 dX9_feed_34 (by decide) ?_
        refine Ex_lstore 41 (ls' := [some (.ref m), some (.long v1), none, some (.long v2), none, some (.long v3), none, some (.int (nI k)), some (.long v2), none, none]) dX9_feed_39 (Nat.le_of_ble_eq_true rfl) rfl rfl rfl ?_
        have h8 : ¬ k < 8 := fun z => absurd c2 (nI_ge (b := 8) z (by omega))
        have h16 : k < 16 := by
          by_cases z : k < 16
          · exact z
          · exact absurd (nI_le (a := 16) (by omega) (by omega)) c3
        have ev : (if k < 8 then v1 else if k < 16 then v2 else v3) = v2 := by rw [if_neg h8, if_pos h16]
        refine mc_feed_41 hm (by omega) hT (fun J' g1 g2 g3 => ?_)
        refine ih (k + 1) J' (by omega) (fun x p q => (g1 x p q).trans (f1 x p q)) (fun j p => (g2 j p).trans (f2 j p)) ?_
        show hmTm J' m (hmPut (hmPutK T v1 v2 v3 k) (hmSgn (if k < 8 then v1 else if k < 16 then v2 else v3) (hmSh8 (k % 8))))
        rw [ev]
        exact g3
    · refine Ex_lload_n 23 (i := 1) dX9_feed_22 rfl rfl rfl ?_
      refine Ex_goto 39 dX9_feed_23 (by decide) ?_
      refine Ex_lstore 41 (ls' := [some (.ref m), some (.long v1), none, some (.long v2), none, some (.long v3), none, some (.int (nI k)), some (.long v1), none, none]) dX9_feed_39 (Nat.le_of_ble_eq_true rfl) rfl rfl rfl ?_
      have h8 : k < 8 := by
        by_cases z : k < 8
        · exact z
        · exact absurd (nI_le (a := 8) (by omega) (by omega)) c2
      have ev : (if k < 8 then v1 else if k < 16 then v2 else v3) = v1 := by rw [if_pos h8]
      refine mc_feed_41 hm (by omega) hT (fun J' g1 g2 g3 => ?_)
      refine ih (k + 1) J' (by omega) (fun x p q => (g1 x p q).trans (f1 x p q)) (fun j p => (g2 j p).trans (f2 j p)) ?_
      show hmTm J' m (hmPut (hmPutK T v1 v2 v3 k) (hmSgn (if k < 8 then v1 else if k < 16 then v2 else v3) (hmSh8 (k % 8))))
      rw [ev]
      exact g3
theorem hmPutK_24 (T : List Nat) (v1 v2 v3 : Int64) : hmPutK T v1 v2 v3 24 = (hmPut8 (hmPut8 (hmPut8 T v1 8) v2 8) v3 8) := rfl
set_option maxHeartbeats 4000000 in
theorem mq_feed {d : Nat} {sh : xSh} {R : xR} {L : xL} {I : xI} {Q : xQ} {m : Nat} {v1 v2 v3 : Int64} {T : List Nat} (hm : xModel sh R m) (hT : hmTm I m T) (hQ : ∀ I', (∀ x, x ≠ m → x ≠ m + 1 → I' x = I x) → (∀ k, k ≠ 1 → I' m k = hmTh I m m k) → hmTm I' m (hmPut8 (hmPut8 (hmPut8 T v1 8) v2 8) v3 8) → Q (some (.int (nI (hmPut8 (hmPut8 (hmPut8 T v1 8) v2 8) v3 8).length))) 0 sh R L I') : Ex d 0 0 MX9_feed 0 sh R L I 0 [some (.ref m), some (.long v1), none, some (.long v2), none, some (.long v3), none, none, none, none, none] [] Q := by
  refine Ex_aload_n 1 (i := 0) dX9_feed_0 rfl rfl rfl ?_
  refine Ex_iconst 2 (v := 0) dX9_feed_1 (by decide) rfl ?_
  refine Ex_pI 5 (I m) (va_up I m (va_up (I m) 0 0)) dX9_feed_2 fX9_130 rfl (xMs_0 hm) rfl (fun _ => rfl) rfl rfl rfl rfl ?_
  refine Ex_iconst 6 (v := 0) dX9_feed_5 (by decide) rfl ?_
  refine Ex_istore 8 (ls' := [some (.ref m), some (.long v1), none, some (.long v2), none, some (.long v3), none, some (.int 0), none, none, none]) dX9_feed_6 (Nat.le_of_ble_eq_true rfl) rfl rfl rfl ?_
  have hT2 : hmTm (hmTh I m) m T := ⟨hT.1, (hmTh_f (by omega)).trans hT.2.1, fun i hi => by rw [hmTh_r (by omega)]; exact hT.2.2 i hi⟩
  exact mc_feed_loop (T := T) hm (fun I' f1 f2 f3 => hQ I' (fun x p q => (f1 x p q).trans (va_up_ne _ _ p)) f2 f3) 24 0 (hmTh I m) rfl (fun _ _ _ => rfl) (fun _ _ => rfl) hT2
