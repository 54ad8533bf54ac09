theorem Ey_fgt {X : xXt} {d kc ks n pc : Nat} {M : xM} {sh : xSh} {R : xR} {L : xL} {I : xI} {ls ls' : List (Option Value)} {st : List Value} {Q : xQ} (h : xsub ls' ls) (k : Ey X d kc ks M n sh R L I pc ls' st Q) : Ey X d kc ks M n sh R L I pc ls st Q := Ey_ls (xsub_at h) k
/-- what one has of it: both say it; one says, the other listens; one listens -/
def hmGn (p q r : Int32) (a b : Nat) : Int32 := if a = 1 then (if b = 1 then p else q) else (if b = 1 then r else 0)
def hmRsk (p q r : Int32) (k : Nat) : Bool := decide (¬ hmGn p q r (k / 2) (k % 2) < hmGn p q r (1 - k / 2) (k % 2)) && decide (¬ hmGn p q r (k % 2) (k / 2) < hmGn p q r (1 - k % 2) (k / 2))
def hmRsl (p q r w : Int32) : Nat → Nat → Nat → Option Int32
  | 0, _, n => if w = -1 then some (nI n) else none
  | f + 1, k, n => if hmRsk p q r k = true then (if nI n = w then some (nI k) else hmRsl p q r w f (k + 1) (n + 1)) else hmRsl p q r w f (k + 1) n
def spRests (p q r w : Int32) : Option Int32 := if hmWith p 0 9 = true ∧ hmWith q 0 9 = true ∧ hmWith r 0 9 = true ∧ ¬ w < -1 then hmRsl p q r w 4 0 0 else none
theorem hmK_sr : ∀ k, k < 4 → nI k >>> (1 &&& 31) = nI (k / 2) := by decide
theorem hmK_an : ∀ k, k < 4 → nI k &&& 1 = nI (k % 2) := by decide
theorem hmK_dv : ∀ k, k < 4 → nI k / 2 = nI (k / 2) := by decide
theorem hmK_rm : ∀ k, k < 4 → nI k - nI k / 2 * 2 = nI (k % 2) := by decide
theorem hmK_s1 : ∀ k, k < 4 → 1 - nI (k / 2) = nI (1 - k / 2) := by decide
theorem hmK_s2 : ∀ k, k < 4 → 1 - nI (k % 2) = nI (1 - k % 2) := by decide
theorem hmK_1 : ∀ k, k < 2 → (nI k = 1 ↔ k = 1) := by decide
theorem hmK_4 : ∀ k, k < 4 → ¬ (4 : Int32) ≤ nI k := by decide
set_option maxHeartbeats 4000000 in
theorem c_isGain {d : Nat} {sh : xSh} {R : xR} {L : xL} {I : xI} {Q : xQ} {v : Int32} (hQ : Q (some (.int (hmB (hmWith v 0 9)))) 0 sh R L I) : Ex d 0 0 MX8_isGain 0 sh R L I 0 [some (.int v)] [] Q := by
  refine Ex_iload_n 1 (i := 0) dX8_isGain_0 rfl rfl rfl ?_
  refine Ex_if_lt 4 14 dX8_isGain_1 (by decide) rfl (fun c1 => ?_) (fun c1 => ?_)
  · refine Ex_iconst 15 (v := 0) dX8_isGain_14 (by decide) rfl ?_
    refine Ex_iret dX8_isGain_15 rfl (by decide) (Or.inl rfl) ?_
    have e : hmB (hmWith v 0 9) = 0 := by
      rw [hmB_0]
      simp only [hmWith, decide_eq_false_iff_not]
      exact fun h => h.1 c1
    rw [← e]
    exact hQ
  · refine Ex_iload_n 5 (i := 0) dX8_isGain_4 rfl rfl rfl ?_
    refine Ex_bipush 7 (v := 9) dX8_isGain_5 (by decide) rfl ?_
    refine Ex_icmp_gt 10 14 dX8_isGain_7 (by decide) rfl (fun c2 => ?_) (fun c2 => ?_)
    · refine Ex_iconst 15 (v := 0) dX8_isGain_14 (by decide) rfl ?_
      refine Ex_iret dX8_isGain_15 rfl (by decide) (Or.inl rfl) ?_
      have e : hmB (hmWith v 0 9) = 0 := by
        rw [hmB_0]
        simp only [hmWith, decide_eq_false_iff_not]
        exact fun h => h.2 c2
      rw [← e]
      exact hQ
    · refine Ex_iconst 11 (v := 1) dX8_isGain_10 (by decide) rfl ?_
      refine Ex_goto 15 dX8_isGain_11 (by decide) ?_
      refine Ex_iret dX8_isGain_15 rfl (by decide) (Or.inl rfl) ?_
      have e : hmB (hmWith v 0 9) = 1 := by
        rw [hmB_1]
        simp only [hmWith, decide_eq_true_eq]
        exact ⟨c1, c2⟩
      rw [← e]
      exact hQ
set_option maxHeartbeats 4000000 in
theorem c_gainOf {d : Nat} {sh : xSh} {R : xR} {L : xL} {I : xI} {Q : xQ} {p q r : Int32} {a b : Nat} (ha : a < 2) (hb : b < 2) (hQ : Q (some (.int (hmGn p q r a b))) 0 sh R L I) : Ex d 0 0 MX8_gainOf 0 sh R L I 0 [some (.int (nI a)), some (.int (nI b)), some (.int p), some (.int q), some (.int r)] [] Q := by
  refine Ex_iload_n 1 (i := 0) dX8_gainOf_0 rfl rfl rfl ?_
  refine Ex_iconst 2 (v := 1) dX8_gainOf_1 (by decide) rfl ?_
  refine Ex_icmp_ne 5 16 dX8_gainOf_2 (by decide) rfl (fun c1 => ?_) (fun c1 => ?_)
  · refine Ex_iload_n 17 (i := 1) dX8_gainOf_16 rfl rfl rfl ?_
    refine Ex_iconst 18 (v := 1) dX8_gainOf_17 (by decide) rfl ?_
    refine Ex_icmp_ne 21 26 dX8_gainOf_18 (by decide) rfl (fun c2 => ?_) (fun c2 => ?_)
    · refine Ex_iconst 27 (v := 0) dX8_gainOf_26 (by decide) rfl ?_
      refine Ex_iret dX8_gainOf_27 rfl rfl (Or.inl rfl) ?_
      have e : hmGn p q r a b = 0 := by
        unfold hmGn
        have ka := hmK_1 a ha
        have kb := hmK_1 b hb
        by_cases hza : a = 1 <;> by_cases hzb : b = 1 <;> simp_all
      rw [← e]
      exact hQ
    · refine Ex_iload 23 dX8_gainOf_21 rfl rfl ?_
      refine Ex_goto 27 dX8_gainOf_23 (by decide) ?_
      refine Ex_iret dX8_gainOf_27 rfl rfl (Or.inl rfl) ?_
      have e : hmGn p q r a b = r := by
        unfold hmGn
        have ka := hmK_1 a ha
        have kb := hmK_1 b hb
        by_cases hza : a = 1 <;> by_cases hzb : b = 1 <;> simp_all
      rw [← e]
      exact hQ
  · refine Ex_iload_n 6 (i := 1) dX8_gainOf_5 rfl rfl rfl ?_
    refine Ex_iconst 7 (v := 1) dX8_gainOf_6 (by decide) rfl ?_
    refine Ex_icmp_ne 10 14 dX8_gainOf_7 (by decide) rfl (fun c3 => ?_) (fun c3 => ?_)
    · refine Ex_iload_n 15 (i := 3) dX8_gainOf_14 rfl rfl rfl ?_
      refine Ex_iret dX8_gainOf_15 rfl rfl (Or.inl rfl) ?_
      have e : hmGn p q r a b = q := by
        unfold hmGn
        have ka := hmK_1 a ha
        have kb := hmK_1 b hb
        by_cases hza : a = 1 <;> by_cases hzb : b = 1 <;> simp_all
      rw [← e]
      exact hQ
    · refine Ex_iload_n 11 (i := 2) dX8_gainOf_10 rfl rfl rfl ?_
      refine Ex_goto 15 dX8_gainOf_11 (by decide) ?_
      refine Ex_iret dX8_gainOf_15 rfl rfl (Or.inl rfl) ?_
      have e : hmGn p q r a b = p := by
        unfold hmGn
        have ka := hmK_1 a ha
        have kb := hmK_1 b hb
        by_cases hza : a = 1 <;> by_cases hzb : b = 1 <;> simp_all
      rw [← e]
      exact hQ
set_option maxHeartbeats 4000000 in
theorem mc_getsBy {d : Nat} {sh : xSh} {R : xR} {L : xL} {I : xI} {Q : xQ} {p q r : Int32} {a b : Nat} (ha : a < 2) (hb : b < 2) (hQ : Q (some (.int (hmGn p q r a b))) 0 sh R L I) : Ex d 0 0 MX9_getsBy 0 sh R L I 0 [some (.int p), some (.int q), some (.int r), some (.int (nI a)), some (.int (nI b))] [] Q := by
  refine Ex_iload_n 1 (i := 3) dX9_getsBy_0 rfl rfl rfl ?_
  refine Ex_iconst 2 (v := 1) dX9_getsBy_1 (by decide) rfl ?_
  refine Ex_icmp_ne 5 19 dX9_getsBy_2 (by decide) rfl (fun c1 => ?_) (fun c1 => ?_)
  · refine Ex_iload 21 dX9_getsBy_19 rfl rfl ?_
    refine Ex_iconst 22 (v := 1) dX9_getsBy_21 (by decide) rfl ?_
    refine Ex_icmp_ne 25 29 dX9_getsBy_22 (by decide) rfl (fun c2 => ?_) (fun c2 => ?_)
    · refine Ex_iconst 30 (v := 0) dX9_getsBy_29 (by decide) rfl ?_
      refine Ex_iret dX9_getsBy_30 rfl rfl (Or.inl rfl) ?_
      have e : hmGn p q r a b = 0 := by
        unfold hmGn
        have ka := hmK_1 a ha
        have kb := hmK_1 b hb
        by_cases hza : a = 1 <;> by_cases hzb : b = 1 <;> simp_all
      rw [← e]
      exact hQ
    · refine Ex_iload_n 26 (i := 2) dX9_getsBy_25 rfl rfl rfl ?_
      refine Ex_goto 30 dX9_getsBy_26 (by decide) ?_
      refine Ex_iret dX9_getsBy_30 rfl rfl (Or.inl rfl) ?_
      have e : hmGn p q r a b = r := by
        unfold hmGn
        have ka := hmK_1 a ha
        have kb := hmK_1 b hb
        by_cases hza : a = 1 <;> by_cases hzb : b = 1 <;> simp_all
      rw [← e]
      exact hQ
  · refine Ex_iload 7 dX9_getsBy_5 rfl rfl ?_
    refine Ex_iconst 8 (v := 1) dX9_getsBy_7 (by decide) rfl ?_
    refine Ex_icmp_ne 11 15 dX9_getsBy_8 (by decide) rfl (fun c3 => ?_) (fun c3 => ?_)
    · refine Ex_iload_n 16 (i := 1) dX9_getsBy_15 rfl rfl rfl ?_
      refine Ex_goto 30 dX9_getsBy_16 (by decide) ?_
      refine Ex_iret dX9_getsBy_30 rfl rfl (Or.inl rfl) ?_
      have e : hmGn p q r a b = q := by
        unfold hmGn
        have ka := hmK_1 a ha
        have kb := hmK_1 b hb
        by_cases hza : a = 1 <;> by_cases hzb : b = 1 <;> simp_all
      rw [← e]
      exact hQ
    · refine Ex_iload_n 12 (i := 0) dX9_getsBy_11 rfl rfl rfl ?_
      refine Ex_goto 30 dX9_getsBy_12 (by decide) ?_
      refine Ex_iret dX9_getsBy_30 rfl rfl (Or.inl rfl) ?_
      have e : hmGn p q r a b = p := by
        unfold hmGn
        have ka := hmK_1 a ha
        have kb := hmK_1 b hb
        by_cases hza : a = 1 <;> by_cases hzb : b = 1 <;> simp_all
      rw [← e]
      exact hQ
/-- at a throw: it goes on as the caller says -/
def xTX (PP : Prop) (sh : xSh) (R : xR) (L : xL) (I : xI) : xXt := fun l p e RR s m args below meth c D cT _ A QQ ck sk =>
  PP → ∀ (H : Heap) (locs : List Loc) (cells slots pc : Nat) (lsr : Array Slot), (pc = 27 ∨ pc = 142) → va_S A s.heap H locs → xWd D cT A H sh R L I → cells + 1 ≤ ck → slots + 6 ≤ sk → lsr.size = c.maxLocals → W p l e RR s m args below meth c H locs cells slots QQ (F0 m pc lsr [])
theorem Ey_thr {PP : Prop} {d pc : Nat} {M : xM} {sh : xSh} {R : xR} {L : xL} {I : xI} {ls : List (Option Value)} {Q : xQ} (hpc : pc = 27 ∨ pc = 142) (hP : PP) : Ey (xTX PP sh R L I) d 1 6 M 0 sh R L I pc ls [] Q := by
  intro l p e RR s m args below meth c H locs cells slots D cT ad A QQ lsr C K Wd S N Lo Rt Xh
  exact Xh hP H locs cells slots pc lsr hpc S Wd (Nat.le_refl _) (Nat.le_refl _) (by rw [C.2.2.1]; exact Lo.1)
set_option maxHeartbeats 4000000 in
theorem c_rests_loop {d : Nat} {sh : xSh} {R : xR} {L : xL} {I : xI} {Q : xQ} {PP : Prop} {h : Nat} {p q r w : Int32} : ∀ (f k n : Nat), k + f = 4 → n ≤ k → (∀ v, hmRsl p q r w f k n = some v → Q (some (.int v)) 0 sh R L I) → (hmRsl p q r w f k n = none → PP) → Ey (xTX PP sh R L I) (d + 1) 1 6 MX8_rests 0 sh R L I 41 [some (.ref h), some (.int p), some (.int q), some (.int r), some (.int w), some (.int (nI n)), some (.int (nI k)), none, none, none, none] [] Q := by
  intro f
  induction f with
  | zero =>
    intro k n hk hn hQ hN
    obtain rfl : k = 4 := by omega
    refine Ey_iload 43 dX8_rests_41 rfl rfl ?_
    refine Ey_iconst 44 (v := 4) dX8_rests_43 (by decide) rfl ?_
    refine Ey_icmp_ge 47 136 dX8_rests_44 (by decide) rfl (fun c61 => ?_) (fun c61 => absurd c61 (by decide))
    refine Ey_iload 138 dX8_rests_136 rfl rfl ?_
    refine Ey_iconst 139 (v := (-1)) dX8_rests_138 (by decide) rfl ?_
    refine Ey_icmp_eq 142 150 dX8_rests_139 (by decide) rfl (fun c62 => ?_) (fun c62 => ?_)
    · refine Ey_iload 152 dX8_rests_150 rfl rfl ?_
      refine Ey_iret dX8_rests_152 rfl rfl (Or.inl rfl) ?_
      exact hQ _ (by rw [hmRsl, if_pos c62])
    · exact Ey_thr (Or.inr rfl) (hN (by rw [hmRsl, if_neg c62]))
  | succ f ih =>
    intro k n hk hn hQ hN
    have hk4 : k < 4 := by omega
    refine Ey_iload 43 dX8_rests_41 rfl rfl ?_
    refine Ey_iconst 44 (v := 4) dX8_rests_43 (by decide) rfl ?_
    refine Ey_icmp_ge 47 136 dX8_rests_44 (by decide) rfl (fun c1 => absurd c1 (hmK_4 k hk4)) (fun c1 => ?_)
    refine Ey_iload 49 dX8_rests_47 rfl rfl ?_
    refine Ey_iconst 50 (v := 1) dX8_rests_49 (by decide) rfl ?_
    refine Ey_ishr 51 dX8_rests_50 rfl ?_
    rw [hmK_sr k hk4]
    refine Ey_istore 53 (ls' := [some (.ref h), some (.int p), some (.int q), some (.int r), some (.int w), some (.int (nI n)), some (.int (nI k)), some (.int (nI (k / 2))), none, none, none]) dX8_rests_51 (Nat.le_of_ble_eq_true rfl) rfl rfl rfl ?_
    refine Ey_iload 55 dX8_rests_53 rfl rfl ?_
    refine Ey_iconst 56 (v := 1) dX8_rests_55 (by decide) rfl ?_
    refine Ey_iand 57 dX8_rests_56 rfl ?_
    rw [hmK_an k hk4]
    refine Ey_istore 59 (ls' := [some (.ref h), some (.int p), some (.int q), some (.int r), some (.int w), some (.int (nI n)), some (.int (nI k)), some (.int (nI (k / 2))), some (.int (nI (k % 2))), none, none]) dX8_rests_57 (Nat.le_of_ble_eq_true rfl) rfl rfl rfl ?_
    refine Ey_iload 61 dX8_rests_59 rfl rfl ?_
    refine Ey_iload 63 dX8_rests_61 rfl rfl ?_
    refine Ey_iload_n 64 (i := 1) dX8_rests_63 rfl rfl rfl ?_
    refine Ey_iload_n 65 (i := 2) dX8_rests_64 rfl rfl rfl ?_
    refine Ey_iload_n 66 (i := 3) dX8_rests_65 rfl rfl rfl ?_
    refine Ey_callS (M' := MX8_gainOf) 69 [.int (nI (k / 2)), .int (nI (k % 2)), .int p, .int q, .int r] (rest := []) dX8_rests_66 lX8_260 mX8_gainOf rfl rfl (Nat.le_of_ble_eq_true rfl) (Nat.le_of_ble_eq_true rfl) rfl ?_
    refine c_gainOf (p := p) (q := q) (r := r) (a := (k / 2)) (b := (k % 2)) (by omega) (by omega) ?_
    simp only [Option.toList, List.cons_append, List.nil_append]
    refine Ey_istore 71 (ls' := [some (.ref h), some (.int p), some (.int q), some (.int r), some (.int w), some (.int (nI n)), some (.int (nI k)), some (.int (nI (k / 2))), some (.int (nI (k % 2))), some (.int (hmGn p q r (k / 2) (k % 2))), none]) dX8_rests_69 (Nat.le_of_ble_eq_true rfl) rfl rfl rfl ?_
    refine Ey_iload 73 dX8_rests_71 rfl rfl ?_
    refine Ey_iload 75 dX8_rests_73 rfl rfl ?_
    refine Ey_iload_n 76 (i := 1) dX8_rests_75 rfl rfl rfl ?_
    refine Ey_iload_n 77 (i := 2) dX8_rests_76 rfl rfl rfl ?_
    refine Ey_iload_n 78 (i := 3) dX8_rests_77 rfl rfl rfl ?_
    refine Ey_callS (M' := MX8_gainOf) 81 [.int (nI (k % 2)), .int (nI (k / 2)), .int p, .int q, .int r] (rest := []) dX8_rests_78 lX8_260 mX8_gainOf rfl rfl (Nat.le_of_ble_eq_true rfl) (Nat.le_of_ble_eq_true rfl) rfl ?_
    refine c_gainOf (p := p) (q := q) (r := r) (a := (k % 2)) (b := (k / 2)) (by omega) (by omega) ?_
    simp only [Option.toList, List.cons_append, List.nil_append]
    refine Ey_istore 83 (ls' := [some (.ref h), some (.int p), some (.int q), some (.int r), some (.int w), some (.int (nI n)), some (.int (nI k)), some (.int (nI (k / 2))), some (.int (nI (k % 2))), some (.int (hmGn p q r (k / 2) (k % 2))), some (.int (hmGn p q r (k % 2) (k / 2)))]) dX8_rests_81 (Nat.le_of_ble_eq_true rfl) rfl rfl rfl ?_
    refine Ey_iload 85 dX8_rests_83 rfl rfl ?_
    refine Ey_iconst 86 (v := 1) dX8_rests_85 (by decide) rfl ?_
    refine Ey_iload 88 dX8_rests_86 rfl rfl ?_
    refine Ey_isub 89 dX8_rests_88 rfl ?_
    rw [hmK_s1 k hk4]
    refine Ey_iload 91 dX8_rests_89 rfl rfl ?_
    refine Ey_iload_n 92 (i := 1) dX8_rests_91 rfl rfl rfl ?_
    refine Ey_iload_n 93 (i := 2) dX8_rests_92 rfl rfl rfl ?_
    refine Ey_iload_n 94 (i := 3) dX8_rests_93 rfl rfl rfl ?_
    refine Ey_callS (M' := MX8_gainOf) 97 [.int (nI (1 - k / 2)), .int (nI (k % 2)), .int p, .int q, .int r] (rest := [.int (hmGn p q r (k / 2) (k % 2))]) dX8_rests_94 lX8_260 mX8_gainOf rfl rfl (Nat.le_of_ble_eq_true rfl) (Nat.le_of_ble_eq_true rfl) rfl ?_
    refine c_gainOf (p := p) (q := q) (r := r) (a := (1 - k / 2)) (b := (k % 2)) (by omega) (by omega) ?_
    simp only [Option.toList, List.cons_append, List.nil_append]
    refine Ey_icmp_lt 100 130 dX8_rests_97 (by decide) rfl (fun c2 => ?_) (fun c2 => ?_)
    · refine Ey_iinc 133 (v := (nI (k + 1))) (ls' := [some (.ref h), some (.int p), some (.int q), some (.int r), some (.int w), some (.int (nI n)), some (.int (nI (k + 1))), some (.int (nI (k / 2))), some (.int (nI (k % 2))), some (.int (hmGn p q r (k / 2) (k % 2))), some (.int (hmGn p q r (k % 2) (k / 2)))]) dX8_rests_130 rfl (xinc _) (Nat.le_of_ble_eq_true rfl) rfl rfl rfl ?_
      refine Ey_goto 41 dX8_rests_133 (by decide) ?_
      refine Ey_fgt (ls' := [some (.ref h), some (.int p), some (.int q), some (.int r), some (.int w), some (.int (nI n)), some (.int (nI (k + 1))), none, none, none, none]) (by simp [xsub]) ?_
      exact ih (k + 1) n (by omega) (by omega) (fun v hv => hQ v (by rw [hmRsl, if_neg (by simp only [hmRsk, Bool.and_eq_true, decide_eq_true_eq]; exact fun h => h.1 c2)]; exact hv)) (fun hv => hN (by rw [hmRsl, if_neg (by simp only [hmRsk, Bool.and_eq_true, decide_eq_true_eq]; exact fun h => h.1 c2)]; exact hv))
    · refine Ey_iload 102 dX8_rests_100 rfl rfl ?_
      refine Ey_iconst 103 (v := 1) dX8_rests_102 (by decide) rfl ?_
      refine Ey_iload 105 dX8_rests_103 rfl rfl ?_
      refine Ey_isub 106 dX8_rests_105 rfl ?_
      rw [hmK_s2 k hk4]
      refine Ey_iload 108 dX8_rests_106 rfl rfl ?_
      refine Ey_iload_n 109 (i := 1) dX8_rests_108 rfl rfl rfl ?_
      refine Ey_iload_n 110 (i := 2) dX8_rests_109 rfl rfl rfl ?_
      refine Ey_iload_n 111 (i := 3) dX8_rests_110 rfl rfl rfl ?_
      refine Ey_callS (M' := MX8_gainOf) 114 [.int (nI (1 - k % 2)), .int (nI (k / 2)), .int p, .int q, .int r] (rest := [.int (hmGn p q r (k % 2) (k / 2))]) dX8_rests_111 lX8_260 mX8_gainOf rfl rfl (Nat.le_of_ble_eq_true rfl) (Nat.le_of_ble_eq_true rfl) rfl ?_
      refine c_gainOf (p := p) (q := q) (r := r) (a := (1 - k % 2)) (b := (k / 2)) (by omega) (by omega) ?_
      simp only [Option.toList, List.cons_append, List.nil_append]
      refine Ey_icmp_lt 117 130 dX8_rests_114 (by decide) rfl (fun c3 => ?_) (fun c3 => ?_)
      · refine Ey_iinc 133 (v := (nI (k + 1))) (ls' := [some (.ref h), some (.int p), some (.int q), some (.int r), some (.int w), some (.int (nI n)), some (.int (nI (k + 1))), some (.int (nI (k / 2))), some (.int (nI (k % 2))), some (.int (hmGn p q r (k / 2) (k % 2))), some (.int (hmGn p q r (k % 2) (k / 2)))]) dX8_rests_130 rfl (xinc _) (Nat.le_of_ble_eq_true rfl) rfl rfl rfl ?_
        refine Ey_goto 41 dX8_rests_133 (by decide) ?_
        refine Ey_fgt (ls' := [some (.ref h), some (.int p), some (.int q), some (.int r), some (.int w), some (.int (nI n)), some (.int (nI (k + 1))), none, none, none, none]) (by simp [xsub]) ?_
        exact ih (k + 1) n (by omega) (by omega) (fun v hv => hQ v (by rw [hmRsl, if_neg (by simp only [hmRsk, Bool.and_eq_true, decide_eq_true_eq]; exact fun h => h.2 c3)]; exact hv)) (fun hv => hN (by rw [hmRsl, if_neg (by simp only [hmRsk, Bool.and_eq_true, decide_eq_true_eq]; exact fun h => h.2 c3)]; exact hv))
      · refine Ey_iload 119 dX8_rests_117 rfl rfl ?_
        refine Ey_iload 121 dX8_rests_119 rfl rfl ?_
        refine Ey_icmp_ne 124 127 dX8_rests_121 (by decide) rfl (fun c4 => ?_) (fun c4 => ?_)
        · refine Ey_iinc 130 (v := (nI (n + 1))) (ls' := [some (.ref h), some (.int p), some (.int q), some (.int r), some (.int w), some (.int (nI (n + 1))), some (.int (nI k)), some (.int (nI (k / 2))), some (.int (nI (k % 2))), some (.int (hmGn p q r (k / 2) (k % 2))), some (.int (hmGn p q r (k % 2) (k / 2)))]) dX8_rests_127 rfl (xinc _) (Nat.le_of_ble_eq_true rfl) rfl rfl rfl ?_
          refine Ey_iinc 133 (v := (nI (k + 1))) (ls' := [some (.ref h), some (.int p), some (.int q), some (.int r), some (.int w), some (.int (nI (n + 1))), some (.int (nI (k + 1))), some (.int (nI (k / 2))), some (.int (nI (k % 2))), some (.int (hmGn p q r (k / 2) (k % 2))), some (.int (hmGn p q r (k % 2) (k / 2)))]) dX8_rests_130 rfl (xinc _) (Nat.le_of_ble_eq_true rfl) rfl rfl rfl ?_
          refine Ey_goto 41 dX8_rests_133 (by decide) ?_
          refine Ey_fgt (ls' := [some (.ref h), some (.int p), some (.int q), some (.int r), some (.int w), some (.int (nI (n + 1))), some (.int (nI (k + 1))), none, none, none, none]) (by simp [xsub]) ?_
          exact ih (k + 1) (n + 1) (by omega) (by omega) (fun v hv => hQ v (by rw [hmRsl, if_pos (by simp only [hmRsk, Bool.and_eq_true, decide_eq_true_eq]; exact ⟨c2, c3⟩), if_neg c4]; exact hv)) (fun hv => hN (by rw [hmRsl, if_pos (by simp only [hmRsk, Bool.and_eq_true, decide_eq_true_eq]; exact ⟨c2, c3⟩), if_neg c4]; exact hv))
        · refine Ey_iload 126 dX8_rests_124 rfl rfl ?_
          refine Ey_iret dX8_rests_126 rfl rfl (Or.inl rfl) ?_
          exact hQ _ (by rw [hmRsl, if_pos (by simp only [hmRsk, Bool.and_eq_true, decide_eq_true_eq]; exact ⟨c2, c3⟩), if_pos c4])
set_option maxHeartbeats 4000000 in
theorem c_rests {d : Nat} {sh : xSh} {R : xR} {L : xL} {I : xI} {Q : xQ} {PP : Prop} {h : Nat} {p q r w : Int32} (hQ : ∀ v, spRests p q r w = some v → Q (some (.int v)) 0 sh R L I) (hN : spRests p q r w = none → PP) : Ey (xTX PP sh R L I) (d + 1) 1 6 MX8_rests 0 sh R L I 0 [some (.ref h), some (.int p), some (.int q), some (.int r), some (.int w), none, none, none, none, none, none] [] Q := by
  refine Ey_iload_n 1 (i := 1) dX8_rests_0 rfl rfl rfl ?_
  refine Ey_callS (M' := MX8_isGain) 4 [.int p] (rest := []) dX8_rests_1 lX8_254 mX8_isGain rfl rfl (Nat.le_of_ble_eq_true rfl) (Nat.le_of_ble_eq_true rfl) rfl ?_
  refine c_isGain ?_
  simp only [Option.toList, List.cons_append, List.nil_append]
  refine Ey_if_eq 7 27 dX8_rests_4 (by decide) rfl (fun c1 => ?_) (fun c1 => ?_)
  · exact Ey_thr (Or.inl rfl) (hN (by unfold spRests; exact if_neg (fun h => absurd h.1 ((Bool.eq_false_iff).mp ((hmB_0 _).mp c1)))))
  · refine Ey_iload_n 8 (i := 2) dX8_rests_7 rfl rfl rfl ?_
    refine Ey_callS (M' := MX8_isGain) 11 [.int q] (rest := []) dX8_rests_8 lX8_254 mX8_isGain rfl rfl (Nat.le_of_ble_eq_true rfl) (Nat.le_of_ble_eq_true rfl) rfl ?_
    refine c_isGain ?_
    simp only [Option.toList, List.cons_append, List.nil_append]
    refine Ey_if_eq 14 27 dX8_rests_11 (by decide) rfl (fun c2 => ?_) (fun c2 => ?_)
    · exact Ey_thr (Or.inl rfl) (hN (by unfold spRests; exact if_neg (fun h => absurd h.2.1 ((Bool.eq_false_iff).mp ((hmB_0 _).mp c2)))))
    · refine Ey_iload_n 15 (i := 3) dX8_rests_14 rfl rfl rfl ?_
      refine Ey_callS (M' := MX8_isGain) 18 [.int r] (rest := []) dX8_rests_15 lX8_254 mX8_isGain rfl rfl (Nat.le_of_ble_eq_true rfl) (Nat.le_of_ble_eq_true rfl) rfl ?_
      refine c_isGain ?_
      simp only [Option.toList, List.cons_append, List.nil_append]
      refine Ey_if_eq 21 27 dX8_rests_18 (by decide) rfl (fun c3 => ?_) (fun c3 => ?_)
      · exact Ey_thr (Or.inl rfl) (hN (by unfold spRests; exact if_neg (fun h => absurd h.2.2.1 ((Bool.eq_false_iff).mp ((hmB_0 _).mp c3)))))
      · refine Ey_iload 23 dX8_rests_21 rfl rfl ?_
        refine Ey_iconst 24 (v := (-1)) dX8_rests_23 (by decide) rfl ?_
        refine Ey_icmp_ge 27 35 dX8_rests_24 (by decide) rfl (fun c4 => ?_) (fun c4 => ?_)
        · refine Ey_iconst 36 (v := 0) dX8_rests_35 (by decide) rfl ?_
          refine Ey_istore 38 (ls' := [some (.ref h), some (.int p), some (.int q), some (.int r), some (.int w), some (.int 0), none, none, none, none, none]) dX8_rests_36 (Nat.le_of_ble_eq_true rfl) rfl rfl rfl ?_
          refine Ey_iconst 39 (v := 0) dX8_rests_38 (by decide) rfl ?_
          refine Ey_istore 41 (ls' := [some (.ref h), some (.int p), some (.int q), some (.int r), some (.int w), some (.int 0), some (.int 0), none, none, none, none]) dX8_rests_39 (Nat.le_of_ble_eq_true rfl) rfl rfl rfl ?_
          have e : spRests p q r w = hmRsl p q r w 4 0 0 := by
            unfold spRests
            refine if_pos ⟨?_, ?_, ?_, ?_⟩
            · exact Bool.not_eq_false _ |>.mp (fun h => c1 ((hmB_0 _).mpr h))
            · exact Bool.not_eq_false _ |>.mp (fun h => c2 ((hmB_0 _).mpr h))
            · exact Bool.not_eq_false _ |>.mp (fun h => c3 ((hmB_0 _).mpr h))
            · exact Int32.not_lt.mpr c4
          exact c_rests_loop 4 0 0 rfl (Nat.le_refl _) (fun v hv => hQ v (e.trans hv)) (fun hv => hN (e.trans hv))
        · exact Ey_thr (Or.inl rfl) (hN (by unfold spRests; exact if_neg (fun h => h.2.2.2 (Int32.not_le.mp c4))))
set_option maxHeartbeats 4000000 in
theorem mc_rests_loop {d : Nat} {sh : xSh} {R : xR} {L : xL} {I : xI} {Q : xQ} {m : Nat} {p q r w : Int32} (hm : xModel sh R m) (h0 : I m 0 = 0) : ∀ (f k n : Nat), k + f = 4 → n ≤ k → (∀ I', (∀ x, x ≠ m → I' x = I x) → (∀ k, k ≠ 0 → I' m k = I m k) → I' m 0 = hmB (hmRsl p q r w f k n).isNone → Q (some (.int ((hmRsl p q r w f k n).getD 0))) 0 sh R L I') → Ex (d + 1) 0 0 MX9_rests 0 sh R L I 61 [some (.ref m), some (.int p), some (.int q), some (.int r), some (.int w), some (.int (nI n)), some (.int (nI k)), none, none] [] Q := by
  intro f
  induction f with
  | zero =>
    intro k n hk hn hQ
    obtain rfl : k = 4 := by omega
    refine Ex_iload 63 dX9_rests_61 rfl rfl ?_
    refine Ex_iconst 64 (v := 4) dX9_rests_63 (by decide) rfl ?_
    refine Ex_icmp_ge 67 151 dX9_rests_64 (by decide) rfl (fun c61 => ?_) (fun c61 => absurd c61 (by decide))
    refine Ex_aload_n 152 (i := 0) dX9_rests_151 rfl rfl rfl ?_
    refine Ex_iload 154 dX9_rests_152 rfl rfl ?_
    refine Ex_iconst 155 (v := (-1)) dX9_rests_154 (by decide) rfl ?_
    refine Ex_icmp_ne 158 162 dX9_rests_155 (by decide) rfl (fun c62 => ?_) (fun c62 => ?_)
    · refine Ex_iconst 163 (v := 1) dX9_rests_162 (by decide) rfl ?_
      refine Ex_pI 166 (I m) (va_up I m (va_up (I m) 0 1)) dX9_rests_163 fX9_130 rfl (xMs_0 hm) rfl (fun _ => rfl) rfl rfl rfl rfl ?_
      refine Ex_iload 168 dX9_rests_166 rfl rfl ?_
      refine Ex_iconst 169 (v := (-1)) dX9_rests_168 (by decide) rfl ?_
      refine Ex_icmp_ne 172 177 dX9_rests_169 (by decide) rfl (fun c63 => ?_) (fun c63 => ?_)
      · refine Ex_iconst 178 (v := 0) dX9_rests_177 (by decide) rfl ?_
        refine Ex_iret dX9_rests_178 rfl rfl (Or.inl rfl) ?_
        by_cases hw1 : w = -1
        · first
          | exact absurd hw1 c62
          | exact absurd c63 (not_not_intro hw1)
          | (have e : hmRsl p q r w 0 4 n = some (nI n) := by rw [hmRsl, if_pos hw1]
             rw [e] at hQ
             exact hQ _ (fun x hx => va_up_ne _ _ hx) (fun k hk => by rw [va_up_self, va_up_ne _ _ hk]) (by rw [va_up_self, va_up_self]; rfl))
        · first
          | exact absurd c62 hw1
          | exact absurd c63 hw1
          | (have e : hmRsl p q r w 0 4 n = none := by rw [hmRsl, if_neg hw1]
             rw [e] at hQ
             exact hQ _ (fun x hx => va_up_ne _ _ hx) (fun k hk => by rw [va_up_self, va_up_ne _ _ hk]) (by rw [va_up_self, va_up_self]; rfl))
      · refine Ex_iload 174 dX9_rests_172 rfl rfl ?_
        refine Ex_goto 178 dX9_rests_174 (by decide) ?_
        refine Ex_iret dX9_rests_178 rfl rfl (Or.inl rfl) ?_
        by_cases hw1 : w = -1
        · first
          | exact absurd hw1 c62
          | exact absurd c63 (not_not_intro hw1)
          | (have e : hmRsl p q r w 0 4 n = some (nI n) := by rw [hmRsl, if_pos hw1]
             rw [e] at hQ
             exact hQ _ (fun x hx => va_up_ne _ _ hx) (fun k hk => by rw [va_up_self, va_up_ne _ _ hk]) (by rw [va_up_self, va_up_self]; rfl))
        · first
          | exact absurd c62 hw1
          | exact absurd c63 hw1
          | (have e : hmRsl p q r w 0 4 n = none := by rw [hmRsl, if_neg hw1]
             rw [e] at hQ
             exact hQ _ (fun x hx => va_up_ne _ _ hx) (fun k hk => by rw [va_up_self, va_up_ne _ _ hk]) (by rw [va_up_self, va_up_self]; rfl))
    · refine Ex_iconst 159 (v := 0) dX9_rests_158 (by decide) rfl ?_
      refine Ex_goto 163 dX9_rests_159 (by decide) ?_
      refine Ex_pI 166 (I m) (va_up I m (va_up (I m) 0 0)) dX9_rests_163 fX9_130 rfl (xMs_0 hm) rfl (fun _ => rfl) rfl rfl rfl rfl ?_
      refine Ex_iload 168 dX9_rests_166 rfl rfl ?_
      refine Ex_iconst 169 (v := (-1)) dX9_rests_168 (by decide) rfl ?_
      refine Ex_icmp_ne 172 177 dX9_rests_169 (by decide) rfl (fun c64 => ?_) (fun c64 => ?_)
      · refine Ex_iconst 178 (v := 0) dX9_rests_177 (by decide) rfl ?_
        refine Ex_iret dX9_rests_178 rfl rfl (Or.inl rfl) ?_
        by_cases hw1 : w = -1
        · first
          | exact absurd hw1 c62
          | exact absurd c64 (not_not_intro hw1)
          | (have e : hmRsl p q r w 0 4 n = some (nI n) := by rw [hmRsl, if_pos hw1]
             rw [e] at hQ
             exact hQ _ (fun x hx => va_up_ne _ _ hx) (fun k hk => by rw [va_up_self, va_up_ne _ _ hk]) (by rw [va_up_self, va_up_self]; rfl))
        · first
          | exact absurd c62 hw1
          | exact absurd c64 hw1
          | (have e : hmRsl p q r w 0 4 n = none := by rw [hmRsl, if_neg hw1]
             rw [e] at hQ
             exact hQ _ (fun x hx => va_up_ne _ _ hx) (fun k hk => by rw [va_up_self, va_up_ne _ _ hk]) (by rw [va_up_self, va_up_self]; rfl))
      · refine Ex_iload 174 dX9_rests_172 rfl rfl ?_
        refine Ex_goto 178 dX9_rests_174 (by decide) ?_
        refine Ex_iret dX9_rests_178 rfl rfl (Or.inl rfl) ?_
        by_cases hw1 : w = -1
        · first
          | exact absurd hw1 c62
          | exact absurd c64 (not_not_intro hw1)
          | (have e : hmRsl p q r w 0 4 n = some (nI n) := by rw [hmRsl, if_pos hw1]
             rw [e] at hQ
             exact hQ _ (fun x hx => va_up_ne _ _ hx) (fun k hk => by rw [va_up_self, va_up_ne _ _ hk]) (by rw [va_up_self, va_up_self]; rfl))
        · first
          | exact absurd c62 hw1
          | exact absurd c64 hw1
          | (have e : hmRsl p q r w 0 4 n = none := by rw [hmRsl, if_neg hw1]
             rw [e] at hQ
             exact hQ _ (fun x hx => va_up_ne _ _ hx) (fun k hk => by rw [va_up_self, va_up_ne _ _ hk]) (by rw [va_up_self, va_up_self]; rfl))
  | succ f ih =>
    intro k n hk hn hQ
    have hk4 : k < 4 := by omega
    refine Ex_iload 63 dX9_rests_61 rfl rfl ?_
    refine Ex_iconst 64 (v := 4) dX9_rests_63 (by decide) rfl ?_
    refine Ex_icmp_ge 67 151 dX9_rests_64 (by decide) rfl (fun c1 => absurd c1 (hmK_4 k hk4)) (fun c1 => ?_)
    refine Ex_iload 69 dX9_rests_67 rfl rfl ?_
    refine Ex_iconst 70 (v := 2) dX9_rests_69 (by decide) rfl ?_
    refine Ex_idiv 71 dX9_rests_70 (by decide) rfl ?_
    rw [hmK_dv k hk4]
    refine Ex_istore 73 (ls' := [some (.ref m), some (.int p), some (.int q), some (.int r), some (.int w), some (.int (nI n)), some (.int (nI k)), some (.int (nI (k / 2))), none]) dX9_rests_71 (Nat.le_of_ble_eq_true rfl) rfl rfl rfl ?_
    refine Ex_iload 75 dX9_rests_73 rfl rfl ?_
    refine Ex_iconst 76 (v := 2) dX9_rests_75 (by decide) rfl ?_
    refine Ex_irem 77 dX9_rests_76 (by decide) rfl ?_
    rw [hmK_rm k hk4]
    refine Ex_istore 79 (ls' := [some (.ref m), some (.int p), some (.int q), some (.int r), some (.int w), some (.int (nI n)), some (.int (nI k)), some (.int (nI (k / 2))), some (.int (nI (k % 2)))]) dX9_rests_77 (Nat.le_of_ble_eq_true rfl) rfl rfl rfl ?_
    refine Ex_iload_n 80 (i := 1) dX9_rests_79 rfl rfl rfl ?_
    refine Ex_iload_n 81 (i := 2) dX9_rests_80 rfl rfl rfl ?_
    refine Ex_iload_n 82 (i := 3) dX9_rests_81 rfl rfl rfl ?_
    refine Ex_iconst 83 (v := 1) dX9_rests_82 (by decide) rfl ?_
    refine Ex_iload 85 dX9_rests_83 rfl rfl ?_
    refine Ex_isub 86 dX9_rests_85 rfl ?_
    rw [hmK_s1 k hk4]
    refine Ex_iload 88 dX9_rests_86 rfl rfl ?_
    refine Ex_callS (M' := MX9_getsBy) 91 [.int p, .int q, .int r, .int (nI (1 - k / 2)), .int (nI (k % 2))] (rest := []) dX9_rests_88 lX9_443 mX9_getsBy rfl rfl (Nat.le_of_ble_eq_true rfl) (Nat.le_of_ble_eq_true rfl) rfl ?_
    refine mc_getsBy (p := p) (q := q) (r := r) (a := (1 - k / 2)) (b := (k % 2)) (by omega) (by omega) ?_
    simp only [Option.toList, List.cons_append, List.nil_append]
    refine Ex_iload_n 92 (i := 1) dX9_rests_91 rfl rfl rfl ?_
    refine Ex_iload_n 93 (i := 2) dX9_rests_92 rfl rfl rfl ?_
    refine Ex_iload_n 94 (i := 3) dX9_rests_93 rfl rfl rfl ?_
    refine Ex_iload 96 dX9_rests_94 rfl rfl ?_
    refine Ex_iload 98 dX9_rests_96 rfl rfl ?_
    refine Ex_callS (M' := MX9_getsBy) 101 [.int p, .int q, .int r, .int (nI (k / 2)), .int (nI (k % 2))] (rest := [.int (hmGn p q r (1 - k / 2) (k % 2))]) dX9_rests_98 lX9_443 mX9_getsBy rfl rfl (Nat.le_of_ble_eq_true rfl) (Nat.le_of_ble_eq_true rfl) rfl ?_
    refine mc_getsBy (p := p) (q := q) (r := r) (a := (k / 2)) (b := (k % 2)) (by omega) (by omega) ?_
    simp only [Option.toList, List.cons_append, List.nil_append]
    refine Ex_icmp_gt 104 145 dX9_rests_101 (by decide) rfl (fun c2 => ?_) (fun c2 => ?_)
    · refine Ex_iinc 148 (v := (nI (k + 1))) (ls' := [some (.ref m), some (.int p), some (.int q), some (.int r), some (.int w), some (.int (nI n)), some (.int (nI (k + 1))), some (.int (nI (k / 2))), some (.int (nI (k % 2)))]) dX9_rests_145 rfl (xinc _) (Nat.le_of_ble_eq_true rfl) rfl rfl rfl ?_
      refine Ex_goto 61 dX9_rests_148 (by decide) ?_
      refine Ex_fgt (ls' := [some (.ref m), some (.int p), some (.int q), some (.int r), some (.int w), some (.int (nI n)), some (.int (nI (k + 1))), none, none]) (by simp [xsub]) ?_
      have e : hmRsl p q r w (f + 1) k n = hmRsl p q r w f (k + 1) n := by rw [hmRsl, if_neg (by simp only [hmRsk, Bool.and_eq_true, decide_eq_true_eq]; exact fun h => h.1 c2)]
      rw [e] at hQ
      exact ih (k + 1) n (by omega) (by omega) hQ
    · refine Ex_iload_n 105 (i := 1) dX9_rests_104 rfl rfl rfl ?_
      refine Ex_iload_n 106 (i := 2) dX9_rests_105 rfl rfl rfl ?_
      refine Ex_iload_n 107 (i := 3) dX9_rests_106 rfl rfl rfl ?_
      refine Ex_iconst 108 (v := 1) dX9_rests_107 (by decide) rfl ?_
      refine Ex_iload 110 dX9_rests_108 rfl rfl ?_
      refine Ex_isub 111 dX9_rests_110 rfl ?_
      rw [hmK_s2 k hk4]
      refine Ex_iload 113 dX9_rests_111 rfl rfl ?_
      refine Ex_callS (M' := MX9_getsBy) 116 [.int p, .int q, .int r, .int (nI (1 - k % 2)), .int (nI (k / 2))] (rest := []) dX9_rests_113 lX9_443 mX9_getsBy rfl rfl (Nat.le_of_ble_eq_true rfl) (Nat.le_of_ble_eq_true rfl) rfl ?_
      refine mc_getsBy (p := p) (q := q) (r := r) (a := (1 - k % 2)) (b := (k / 2)) (by omega) (by omega) ?_
      simp only [Option.toList, List.cons_append, List.nil_append]
      refine Ex_iload_n 117 (i := 1) dX9_rests_116 rfl rfl rfl ?_
      refine Ex_iload_n 118 (i := 2) dX9_rests_117 rfl rfl rfl ?_
      refine Ex_iload_n 119 (i := 3) dX9_rests_118 rfl rfl rfl ?_
      refine Ex_iload 121 dX9_rests_119 rfl rfl ?_
      refine Ex_iload 123 dX9_rests_121 rfl rfl ?_
      refine Ex_callS (M' := MX9_getsBy) 126 [.int p, .int q, .int r, .int (nI (k % 2)), .int (nI (k / 2))] (rest := [.int (hmGn p q r (1 - k % 2) (k / 2))]) dX9_rests_123 lX9_443 mX9_getsBy rfl rfl (Nat.le_of_ble_eq_true rfl) (Nat.le_of_ble_eq_true rfl) rfl ?_
      refine mc_getsBy (p := p) (q := q) (r := r) (a := (k % 2)) (b := (k / 2)) (by omega) (by omega) ?_
      simp only [Option.toList, List.cons_append, List.nil_append]
      refine Ex_icmp_le 129 132 dX9_rests_126 (by decide) rfl (fun c3 => ?_) (fun c3 => ?_)
      · refine Ex_iload 134 dX9_rests_132 rfl rfl ?_
        refine Ex_iload 136 dX9_rests_134 rfl rfl ?_
        refine Ex_icmp_ne 139 142 dX9_rests_136 (by decide) rfl (fun c4 => ?_) (fun c4 => ?_)
        · refine Ex_iinc 145 (v := (nI (n + 1))) (ls' := [some (.ref m), some (.int p), some (.int q), some (.int r), some (.int w), some (.int (nI (n + 1))), some (.int (nI k)), some (.int (nI (k / 2))), some (.int (nI (k % 2)))]) dX9_rests_142 rfl (xinc _) (Nat.le_of_ble_eq_true rfl) rfl rfl rfl ?_
          refine Ex_iinc 148 (v := (nI (k + 1))) (ls' := [some (.ref m), some (.int p), some (.int q), some (.int r), some (.int w), some (.int (nI (n + 1))), some (.int (nI (k + 1))), some (.int (nI (k / 2))), some (.int (nI (k % 2)))]) dX9_rests_145 rfl (xinc _) (Nat.le_of_ble_eq_true rfl) rfl rfl rfl ?_
          refine Ex_goto 61 dX9_rests_148 (by decide) ?_
          refine Ex_fgt (ls' := [some (.ref m), some (.int p), some (.int q), some (.int r), some (.int w), some (.int (nI (n + 1))), some (.int (nI (k + 1))), none, none]) (by simp [xsub]) ?_
          have e : hmRsl p q r w (f + 1) k n = hmRsl p q r w f (k + 1) (n + 1) := by rw [hmRsl, if_pos (by simp only [hmRsk, Bool.and_eq_true, decide_eq_true_eq]; exact ⟨c2, Int32.not_lt.mpr c3⟩), if_neg c4]
          rw [e] at hQ
          exact ih (k + 1) (n + 1) (by omega) (by omega) hQ
        · refine Ex_iload 141 dX9_rests_139 rfl rfl ?_
          refine Ex_iret dX9_rests_141 rfl rfl (Or.inl rfl) ?_
          have e : hmRsl p q r w (f + 1) k n = some (nI k) := by rw [hmRsl, if_pos (by simp only [hmRsk, Bool.and_eq_true, decide_eq_true_eq]; exact ⟨c2, Int32.not_lt.mpr c3⟩), if_pos c4]
          rw [e] at hQ
          exact hQ I (fun _ _ => rfl) (fun _ _ => rfl) h0
      · refine Ex_goto 145 dX9_rests_129 (by decide) ?_
        refine Ex_iinc 148 (v := (nI (k + 1))) (ls' := [some (.ref m), some (.int p), some (.int q), some (.int r), some (.int w), some (.int (nI n)), some (.int (nI (k + 1))), some (.int (nI (k / 2))), some (.int (nI (k % 2)))]) dX9_rests_145 rfl (xinc _) (Nat.le_of_ble_eq_true rfl) rfl rfl rfl ?_
        refine Ex_goto 61 dX9_rests_148 (by decide) ?_
        refine Ex_fgt (ls' := [some (.ref m), some (.int p), some (.int q), some (.int r), some (.int w), some (.int (nI n)), some (.int (nI (k + 1))), none, none]) (by simp [xsub]) ?_
        have e : hmRsl p q r w (f + 1) k n = hmRsl p q r w f (k + 1) n := by rw [hmRsl, if_neg (by simp only [hmRsk, Bool.and_eq_true, decide_eq_true_eq]; exact fun h => c3 (Int32.not_lt.mp h.2))]
        rw [e] at hQ
        exact ih (k + 1) n (by omega) (by omega) hQ
set_option maxHeartbeats 4000000 in
theorem mq_rests {d : Nat} {sh : xSh} {R : xR} {L : xL} {I : xI} {Q : xQ} {m : Nat} {p q r w : Int32} (hm : xModel sh R m) (hQ : ∀ I', (∀ x, x ≠ m → I' x = I x) → (∀ k, k ≠ 0 → I' m k = I m k) → I' m 0 = hmB (spRests p q r w).isNone → Q (some (.int ((spRests p q r w).getD 0))) 0 sh R L I') : Ex (d + 1) 0 0 MX9_rests 0 sh R L I 0 [some (.ref m), some (.int p), some (.int q), some (.int r), some (.int w), none, none, none, none] [] Q := by
  refine Ex_aload_n 1 (i := 0) dX9_rests_0 rfl rfl rfl ?_
  refine Ex_iload_n 2 (i := 1) dX9_rests_1 rfl rfl rfl ?_
  refine Ex_iconst 3 (v := 0) dX9_rests_2 (by decide) rfl ?_
  refine Ex_bipush 5 (v := 9) dX9_rests_3 (by decide) rfl ?_
  refine Ex_callS (M' := MX9_within) 8 [.int p, .int 0, .int 9] (rest := [.ref m]) dX9_rests_5 lX9_244 mX9_within rfl rfl (Nat.le_of_ble_eq_true rfl) (Nat.le_of_ble_eq_true rfl) rfl ?_
  refine mc_within ?_
  simp only [Option.toList, List.cons_append, List.nil_append]
  refine Ex_if_eq 11 41 dX9_rests_8 (by decide) rfl (fun c1 => ?_) (fun c1 => ?_)
  · refine Ex_iconst 42 (v := 1) dX9_rests_41 (by decide) rfl ?_
    refine Ex_pI 45 (I m) (va_up I m (va_up (I m) 0 1)) dX9_rests_42 fX9_130 rfl (xMs_0 hm) rfl (fun _ => rfl) rfl rfl rfl rfl ?_
    refine Ex_aload_n 46 (i := 0) dX9_rests_45 rfl rfl rfl ?_
    refine Ex_gI 49 1 dX9_rests_46 fX9_130 (xMs_0 hm) rfl (congrFun (va_up_self _ _ _) _) rfl ?_
    refine Ex_iconst 50 (v := 1) dX9_rests_49 (by decide) rfl ?_
    refine Ex_icmp_ne 53 55 dX9_rests_50 (by decide) rfl (fun c2 => absurd c2 (fun q => q (by decide))) (fun c2 => ?_)
    refine Ex_iconst 54 (v := 0) dX9_rests_53 (by decide) rfl ?_
    refine Ex_iret dX9_rests_54 rfl rfl (Or.inl rfl) ?_
    have e : spRests p q r w = none := by
      unfold spRests
      exact if_neg (fun h => absurd h.1 ((Bool.eq_false_iff).mp ((hmB_0 _).mp c1)))
    rw [e] at hQ
    exact hQ _ (fun x hx => va_up_ne _ _ hx) (fun k hk => by rw [va_up_self, va_up_ne _ _ hk]) (by rw [va_up_self, va_up_self]; rfl)
  · refine Ex_iload_n 12 (i := 2) dX9_rests_11 rfl rfl rfl ?_
    refine Ex_iconst 13 (v := 0) dX9_rests_12 (by decide) rfl ?_
    refine Ex_bipush 15 (v := 9) dX9_rests_13 (by decide) rfl ?_
    refine Ex_callS (M' := MX9_within) 18 [.int q, .int 0, .int 9] (rest := [.ref m]) dX9_rests_15 lX9_244 mX9_within rfl rfl (Nat.le_of_ble_eq_true rfl) (Nat.le_of_ble_eq_true rfl) rfl ?_
    refine mc_within ?_
    simp only [Option.toList, List.cons_append, List.nil_append]
    refine Ex_if_eq 21 41 dX9_rests_18 (by decide) rfl (fun c3 => ?_) (fun c3 => ?_)
    · refine Ex_iconst 42 (v := 1) dX9_rests_41 (by decide) rfl ?_
      refine Ex_pI 45 (I m) (va_up I m (va_up (I m) 0 1)) dX9_rests_42 fX9_130 rfl (xMs_0 hm) rfl (fun _ => rfl) rfl rfl rfl rfl ?_
      refine Ex_aload_n 46 (i := 0) dX9_rests_45 rfl rfl rfl ?_
      refine Ex_gI 49 1 dX9_rests_46 fX9_130 (xMs_0 hm) rfl (congrFun (va_up_self _ _ _) _) rfl ?_
      refine Ex_iconst 50 (v := 1) dX9_rests_49 (by decide) rfl ?_
      refine Ex_icmp_ne 53 55 dX9_rests_50 (by decide) rfl (fun c4 => absurd c4 (fun q => q (by decide))) (fun c4 => ?_)
      refine Ex_iconst 54 (v := 0) dX9_rests_53 (by decide) rfl ?_
      refine Ex_iret dX9_rests_54 rfl rfl (Or.inl rfl) ?_
      have e : spRests p q r w = none := by
        unfold spRests
        exact if_neg (fun h => absurd h.2.1 ((Bool.eq_false_iff).mp ((hmB_0 _).mp c3)))
      rw [e] at hQ
      exact hQ _ (fun x hx => va_up_ne _ _ hx) (fun k hk => by rw [va_up_self, va_up_ne _ _ hk]) (by rw [va_up_self, va_up_self]; rfl)
    · refine Ex_iload_n 22 (i := 3) dX9_rests_21 rfl rfl rfl ?_
      refine Ex_iconst 23 (v := 0) dX9_rests_22 (by decide) rfl ?_
      refine Ex_bipush 25 (v := 9) dX9_rests_23 (by decide) rfl ?_
      refine Ex_callS (M' := MX9_within) 28 [.int r, .int 0, .int 9] (rest := [.ref m]) dX9_rests_25 lX9_244 mX9_within rfl rfl (Nat.le_of_ble_eq_true rfl) (Nat.le_of_ble_eq_true rfl) rfl ?_
      refine mc_within ?_
      simp only [Option.toList, List.cons_append, List.nil_append]
      refine Ex_if_eq 31 41 dX9_rests_28 (by decide) rfl (fun c5 => ?_) (fun c5 => ?_)
      · refine Ex_iconst 42 (v := 1) dX9_rests_41 (by decide) rfl ?_
        refine Ex_pI 45 (I m) (va_up I m (va_up (I m) 0 1)) dX9_rests_42 fX9_130 rfl (xMs_0 hm) rfl (fun _ => rfl) rfl rfl rfl rfl ?_
        refine Ex_aload_n 46 (i := 0) dX9_rests_45 rfl rfl rfl ?_
        refine Ex_gI 49 1 dX9_rests_46 fX9_130 (xMs_0 hm) rfl (congrFun (va_up_self _ _ _) _) rfl ?_
        refine Ex_iconst 50 (v := 1) dX9_rests_49 (by decide) rfl ?_
        refine Ex_icmp_ne 53 55 dX9_rests_50 (by decide) rfl (fun c6 => absurd c6 (fun q => q (by decide))) (fun c6 => ?_)
        refine Ex_iconst 54 (v := 0) dX9_rests_53 (by decide) rfl ?_
        refine Ex_iret dX9_rests_54 rfl rfl (Or.inl rfl) ?_
        have e : spRests p q r w = none := by
          unfold spRests
          exact if_neg (fun h => absurd h.2.2.1 ((Bool.eq_false_iff).mp ((hmB_0 _).mp c5)))
        rw [e] at hQ
        exact hQ _ (fun x hx => va_up_ne _ _ hx) (fun k hk => by rw [va_up_self, va_up_ne _ _ hk]) (by rw [va_up_self, va_up_self]; rfl)
      · refine Ex_iload 33 dX9_rests_31 rfl rfl ?_
        refine Ex_iconst 34 (v := (-1)) dX9_rests_33 (by decide) rfl ?_
        refine Ex_icmp_lt 37 41 dX9_rests_34 (by decide) rfl (fun c7 => ?_) (fun c7 => ?_)
        · refine Ex_iconst 42 (v := 1) dX9_rests_41 (by decide) rfl ?_
          refine Ex_pI 45 (I m) (va_up I m (va_up (I m) 0 1)) dX9_rests_42 fX9_130 rfl (xMs_0 hm) rfl (fun _ => rfl) rfl rfl rfl rfl ?_
          refine Ex_aload_n 46 (i := 0) dX9_rests_45 rfl rfl rfl ?_
          refine Ex_gI 49 1 dX9_rests_46 fX9_130 (xMs_0 hm) rfl (congrFun (va_up_self _ _ _) _) rfl ?_
          refine Ex_iconst 50 (v := 1) dX9_rests_49 (by decide) rfl ?_
          refine Ex_icmp_ne 53 55 dX9_rests_50 (by decide) rfl (fun c8 => absurd c8 (fun q => q (by decide))) (fun c8 => ?_)
          refine Ex_iconst 54 (v := 0) dX9_rests_53 (by decide) rfl ?_
          refine Ex_iret dX9_rests_54 rfl rfl (Or.inl rfl) ?_
          have e : spRests p q r w = none := by
            unfold spRests
            exact if_neg (fun h => h.2.2.2 c7)
          rw [e] at hQ
          exact hQ _ (fun x hx => va_up_ne _ _ hx) (fun k hk => by rw [va_up_self, va_up_ne _ _ hk]) (by rw [va_up_self, va_up_self]; rfl)
        · refine Ex_iconst 38 (v := 0) dX9_rests_37 (by decide) rfl ?_
          refine Ex_goto 42 dX9_rests_38 (by decide) ?_
          refine Ex_pI 45 (I m) (va_up I m (va_up (I m) 0 0)) dX9_rests_42 fX9_130 rfl (xMs_0 hm) rfl (fun _ => rfl) rfl rfl rfl rfl ?_
          refine Ex_aload_n 46 (i := 0) dX9_rests_45 rfl rfl rfl ?_
          refine Ex_gI 49 0 dX9_rests_46 fX9_130 (xMs_0 hm) rfl (congrFun (va_up_self _ _ _) _) rfl ?_
          refine Ex_iconst 50 (v := 1) dX9_rests_49 (by decide) rfl ?_
          refine Ex_icmp_ne 53 55 dX9_rests_50 (by decide) rfl (fun c9 => ?_) (fun c9 => absurd c9 (by decide))
          refine Ex_iconst 56 (v := 0) dX9_rests_55 (by decide) rfl ?_
          refine Ex_istore 58 (ls' := [some (.ref m), some (.int p), some (.int q), some (.int r), some (.int w), some (.int 0), none, none, none]) dX9_rests_56 (Nat.le_of_ble_eq_true rfl) rfl rfl rfl ?_
          refine Ex_iconst 59 (v := 0) dX9_rests_58 (by decide) rfl ?_
          refine Ex_istore 61 (ls' := [some (.ref m), some (.int p), some (.int q), some (.int r), some (.int w), some (.int 0), some (.int 0), none, none]) dX9_rests_59 (Nat.le_of_ble_eq_true rfl) rfl rfl rfl ?_
          have e : spRests p q r w = hmRsl p q r w 4 0 0 := by
            unfold spRests
            refine if_pos ⟨?_, ?_, ?_, ?_⟩
            · exact Bool.not_eq_false _ |>.mp (fun h => c1 ((hmB_0 _).mpr h))
            · exact Bool.not_eq_false _ |>.mp (fun h => c3 ((hmB_0 _).mpr h))
            · exact Bool.not_eq_false _ |>.mp (fun h => c5 ((hmB_0 _).mpr h))
            · exact c7
          rw [e] at hQ
          exact mc_rests_loop hm (by rw [va_up_self, va_up_self]) 4 0 0 rfl (Nat.le_refl _) (fun I' g1 g2 g3 => hQ I' (fun x hx => (g1 x hx).trans (va_up_ne _ _ hx)) (fun k hk => (g2 k hk).trans (by rw [va_up_self, va_up_ne _ _ hk])) g3)
set_option maxHeartbeats 4000000 in
theorem mq_thrown {d : Nat} {sh : xSh} {R : xR} {L : xL} {I : xI} {Q : xQ} {m : Nat} (hm : xModel sh R m) (hQ : Q (some (.int (I m 0))) 0 sh R L I) : Ex d 0 0 MX9_thrown 0 sh R L I 0 [some (.ref m)] [] Q := by
  refine Ex_aload_n 1 (i := 0) dX9_thrown_0 rfl rfl rfl ?_
  refine Ex_gI 4 (I m 0) dX9_thrown_1 fX9_130 (xMs_0 hm) rfl rfl rfl ?_
  refine Ex_iret dX9_thrown_4 rfl rfl (Or.inl rfl) ?_
  exact hQ
