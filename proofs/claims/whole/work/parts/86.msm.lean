theorem hmTcd_1 {k : Nat} (hk : k ≤ 4) : (hmTcd k = 1 ↔ k = 2) := by
  unfold hmTcd
  repeat' split
  all_goals omega
theorem hmTcd_2 {k : Nat} (hk : k ≤ 4) : (hmTcd k = 2 ↔ k = 3) := by
  unfold hmTcd
  repeat' split
  all_goals omega
theorem hmTcd_3 {k : Nat} (hk : k ≤ 4) : (hmTcd k = 3 ↔ k = 4) := by
  unfold hmTcd
  repeat' split
  all_goals omega
theorem hmTcd_0 {k : Nat} (hk : k ≤ 4) : (hmTcd k = 0 ↔ k = 0) := by
  unfold hmTcd
  repeat' split
  all_goals omega
theorem hmTcd_le (k : Nat) : hmTcd k ≤ 4 := by
  unfold hmTcd
  repeat' split
  all_goals omega
theorem hmAm.sk {I : xI} {L : xL} {m : Nat} {T : List Nat} {t : hmTok} {r : List hmTok} (h : hmAm I L m T t r) : hmTkOk t := h.2.2.2.2.2.2.2.2.1
theorem hmAm.pl {I : xI} {L : xL} {m : Nat} {T : List Nat} {t : hmTok} {r : List hmTok} (h : hmAm I L m T t r) : t.2.2 ≤ 1000 := h.2.2.2.2.2.2.2.2.2
theorem hmAm.tk {I : xI} {L : xL} {m : Nat} {T : List Nat} {t : hmTok} {r : List hmTok} (h : hmAm I L m T t r) {n k : Nat} (hn : n ≤ 4) (hk : hmTcd k = n) (hi : hmTcd t.1 = n ↔ t.1 = k) : (I m 6 = nI n ↔ t.1 = k) := by
  rw [h.2.2.1, nI_eq (by have := hmTcd_le t.1; omega) (by omega)]
  exact hi
theorem hmAm.kept {I I' : xI} {L L' : xL} {m : Nat} {T : List Nat} {t : hmTok} {r : List hmTok} (h : hmAm I L m T t r) (e1 : ∀ k, k = 3 ∨ k = 4 ∨ k = 5 ∨ k = 6 ∨ k = 8 → I' m k = I m k) (e2 : I' (m + 1) = I (m + 1)) (e3 : L' m 7 = L m 7) : hmAm I' L' m T t r := by
  obtain ⟨⟨a1, a2, a3⟩, b1, b2, b3, b4, b5, b6, b7, b8, b9⟩ := h
  exact ⟨⟨a1, by rw [e1 3 (by omega)]; exact a2, fun i hi => by rw [e2]; exact a3 i hi⟩, by rw [e1 5 (by omega)]; exact b1, by rw [e1 6 (by omega)]; exact b2, fun q => by rw [e3]; exact b3 q, fun q => by rw [e1 8 (by omega)]; exact b4 q, b5, b6, fun q => by rw [e1 4 (by omega)]; exact b7 q, b8, b9⟩
theorem hmAm_next {I : xI} {L : xL} {m : Nat} {T : List Nat} {t : hmTok} {r : List hmTok} (h : hmAm I L m T t r) (ht : ¬ t.1 = 0) : ∃ t' r' q, r = t' :: r' ∧ I m 4 = nI q ∧ hmTsR T (t' :: r') q := by
  obtain ⟨q, h5, h6⟩ := h.2.2.2.2.2.2.2.1 ht
  cases r with
  | nil => exact absurd h6 (by simp [hmTsR])
  | cons t' r' => exact ⟨t', r', q, rfl, h5, h6⟩
set_option maxHeartbeats 4000000 in
theorem mc_nxt {d : Nat} {sh : xSh} {R : xR} {L : xL} {I : xI} {Q : xQ} {m : Nat} {T : List Nat} {t : hmTok} {r : List hmTok} (hm : xModel sh R m) (hA : hmAm I L m T t r) (hc : ∀ x, x ∈ T → x < 127) (ht : ¬ t.1 = 0) (hQ : ∀ t' r' I' L', r = t' :: r' → hmNf m I I' → hmNl m L L' → hmAm I' L' m T t' r' → Q none 0 sh R L' I') : Ex (d + 1) 0 0 MX9_nextToken 0 sh R L I 0 [some (.ref m), none] [] Q := by
  obtain ⟨t', r', q, e, h5, h6⟩ := hmAm_next hA ht
  exact mc_nextToken hm hA.1 hc h5 h6 (fun I' L' g1 g2 g3 => hQ t' r' I' L' e g1 g2 g3)
set_option maxHeartbeats 4000000 in
theorem mc_isWord {d : Nat} {sh : xSh} {R : xR} {L : xL} {I : xI} {Q : xQ} {m : Nat} {T : List Nat} {t : hmTok} {r : List hmTok} (hm : xModel sh R m) (hA : hmAm I L m T t r) {wv : Int64} {l : List Nat} (hw : wv = hmE27 l) (hl : hmWd l) (hQ : Q (some (.int (hmB (hmIsW t l)))) 0 sh R L I) : Ex d 0 0 MX9_isWord 0 sh R L I 0 [some (.ref m), some (.long wv), none] [] Q := by
  have k4 := hA.sk.2.2.2
  have q1 := hA.tk (n := 1) (k := 2) (by decide) rfl (hmTcd_1 k4)
  have q2 := hA.tk (n := 2) (k := 3) (by decide) rfl (hmTcd_2 k4)
  have q3 := hA.tk (n := 3) (k := 4) (by decide) rfl (hmTcd_3 k4)
  refine Ex_aload_n 1 (i := 0) dX9_isWord_0 rfl rfl rfl ?_
  refine Ex_gI 4 (I m 6) dX9_isWord_1 fX9_154 (xMs_0 hm) rfl rfl rfl ?_
  refine Ex_iconst 5 (v := 1) dX9_isWord_4 (by decide) rfl ?_
  refine Ex_icmp_ne 8 21 dX9_isWord_5 (by decide) rfl (fun c1 => ?_) (fun c1 => ?_)
  · refine Ex_iconst 22 (v := 0) dX9_isWord_21 (by decide) rfl ?_
    refine Ex_iret dX9_isWord_22 rfl (by decide) (Or.inl rfl) ?_
    have e : hmB (hmIsW t l) = 0 := by
      rw [hmB_0]
      unfold hmIsW
      exact decide_eq_false (fun q => c1 (q1.mpr q.1))
    rw [← e]
    exact hQ
  · refine Ex_aload_n 9 (i := 0) dX9_isWord_8 rfl rfl rfl ?_
    refine Ex_gL 12 (L m 7) dX9_isWord_9 fX9_147 (xMs_0 hm) rfl rfl ?_
    refine Ex_lload_n 13 (i := 1) dX9_isWord_12 rfl rfl rfl ?_
    refine Ex_lcmp 14 dX9_isWord_13 rfl ?_
    refine Ex_if_ne 17 21 dX9_isWord_14 (by decide) rfl (fun c2 => ?_) (fun c2 => ?_)
    · refine Ex_iconst 22 (v := 0) dX9_isWord_21 (by decide) rfl ?_
      refine Ex_iret dX9_isWord_22 rfl (by decide) (Or.inl rfl) ?_
      have e : hmB (hmIsW t l) = 0 := by
        have t2 := q1.mp c1
        rw [hmB_0]
        unfold hmIsW
        refine decide_eq_false (fun q => c2 (hm_lg0.mpr ?_))
        rw [hA.2.2.2.1 t2, hw, q.2]
      rw [← e]
      exact hQ
    · refine Ex_iconst 18 (v := 1) dX9_isWord_17 (by decide) rfl ?_
      refine Ex_goto 22 dX9_isWord_18 (by decide) ?_
      refine Ex_iret dX9_isWord_22 rfl (by decide) (Or.inl rfl) ?_
      have e : hmB (hmIsW t l) = 1 := by
        have t2 := q1.mp c1
        have h1 := hm_lg0.mp c2
        rw [hA.2.2.2.1 t2, hw] at h1
        have h2 := hA.sk.1 t2
        rw [hmB_1]
        unfold hmIsW
        exact decide_eq_true ⟨t2, hmE27_inj ⟨h2.1, h2.2.1⟩ hl h1⟩
      rw [← e]
      exact hQ
set_option maxHeartbeats 4000000 in
theorem mc_isSign {d : Nat} {sh : xSh} {R : xR} {L : xL} {I : xI} {Q : xQ} {m : Nat} {T : List Nat} {t : hmTok} {r : List hmTok} (hm : xModel sh R m) (hA : hmAm I L m T t r) {c : Nat} (hcc : c < 128) (hQ : Q (some (.int (hmB (hmIsS t c)))) 0 sh R L I) : Ex d 0 0 MX9_isSign 0 sh R L I 0 [some (.ref m), some (.int (nI c))] [] Q := by
  have k4 := hA.sk.2.2.2
  have q1 := hA.tk (n := 1) (k := 2) (by decide) rfl (hmTcd_1 k4)
  have q2 := hA.tk (n := 2) (k := 3) (by decide) rfl (hmTcd_2 k4)
  have q3 := hA.tk (n := 3) (k := 4) (by decide) rfl (hmTcd_3 k4)
  refine Ex_aload_n 1 (i := 0) dX9_isSign_0 rfl rfl rfl ?_
  refine Ex_gI 4 (I m 6) dX9_isSign_1 fX9_154 (xMs_0 hm) rfl rfl rfl ?_
  refine Ex_iconst 5 (v := 3) dX9_isSign_4 (by decide) rfl ?_
  refine Ex_icmp_ne 8 25 dX9_isSign_5 (by decide) rfl (fun c1 => ?_) (fun c1 => ?_)
  · refine Ex_iconst 26 (v := 0) dX9_isSign_25 (by decide) rfl ?_
    refine Ex_iret dX9_isSign_26 rfl (by decide) (Or.inl rfl) ?_
    have e : hmB (hmIsS t c) = 0 := by
      rw [hmB_0]
      unfold hmIsS
      exact decide_eq_false (fun q => c1 (q3.mpr q.1))
    rw [← e]
    exact hQ
  · have t4 := q3.mp c1
    have h5 := hA.2.2.2.2.2.1 t4
    have h1000 := hA.1.1
    have tlt := hA.sk
    refine Ex_aload_n 9 (i := 0) dX9_isSign_8 rfl rfl rfl ?_
    refine Ex_getR 12 dX9_isSign_9 fX9_7 (xMs_0 hm) rfl (xMr_2 hm) rfl ?_
    refine Ex_aload_n 13 (i := 0) dX9_isSign_12 rfl rfl rfl ?_
    refine Ex_gI 16 (I m 5) dX9_isSign_13 fX9_144 (xMs_0 hm) rfl rfl rfl ?_
    rw [hA.2.1]
    refine Ex_aI 17 t.2.2 (I (m + 1) t.2.2) dX9_isSign_16 (xMs_1 hm) rfl (by omega) (by decide) rfl rfl ?_
    rw [hA.1.2.2 _ h5.1]
    refine Ex_iload_n 18 (i := 1) dX9_isSign_17 rfl rfl rfl ?_
    refine Ex_icmp_ne 21 25 dX9_isSign_18 (by decide) rfl (fun c2 => ?_) (fun c2 => ?_)
    · refine Ex_iconst 26 (v := 0) dX9_isSign_25 (by decide) rfl ?_
      refine Ex_iret dX9_isSign_26 rfl (by decide) (Or.inl rfl) ?_
      have e : hmB (hmIsS t c) = 0 := by
        rw [hmB_0]
        unfold hmIsS
        refine decide_eq_false (fun q => c2 ?_)
        have q2 := q.2
        rw [h5.2] at q2
        simp only [List.cons.injEq, and_true] at q2
        rw [q2]
      rw [← e]
      exact hQ
    · refine Ex_iconst 22 (v := 1) dX9_isSign_21 (by decide) rfl ?_
      refine Ex_goto 26 dX9_isSign_22 (by decide) ?_
      refine Ex_iret dX9_isSign_26 rfl (by decide) (Or.inl rfl) ?_
      have e : hmB (hmIsS t c) = 1 := by
        obtain ⟨x, hx, hx8⟩ := tlt.2.2.1 t4
        have hx9 := hm_sg_lt hx8
        rw [h5.2] at hx
        simp only [List.cons.injEq, and_true] at hx
        have h3 : T.getD t.2.2 0 = c := (nI_eq (by omega) (by omega)).mp c2
        rw [hmB_1]
        unfold hmIsS
        exact decide_eq_true ⟨t4, by rw [h5.2, h3]⟩
      rw [← e]
      exact hQ
set_option maxHeartbeats 4000000 in
theorem mc_fails {d : Nat} {sh : xSh} {R : xR} {L : xL} {I : xI} {Q : xQ} {m : Nat} {T : List Nat} {t : hmTok} {r : List hmTok} (hm : xModel sh R m) (hA : hmAm I L m T t r) {k : Nat} (hQ : Q (some (.int 0)) 0 sh R L (va_up I m (va_up (I m) 9 (nI (hmFl k t))))) : Ex d 0 0 MX9_fails 0 sh R L I 0 [some (.ref m), some (.int (nI k))] [] Q := by
  refine Ex_aload_n 1 (i := 0) dX9_fails_0 rfl rfl rfl ?_
  refine Ex_iload_n 2 (i := 1) dX9_fails_1 rfl rfl rfl ?_
  refine Ex_bipush 4 (v := 16) dX9_fails_2 (by decide) rfl ?_
  refine Ex_aload_n 5 (i := 0) dX9_fails_4 rfl rfl rfl ?_
  refine Ex_gI 8 (I m 5) dX9_fails_5 fX9_144 (xMs_0 hm) rfl rfl rfl ?_
  rw [hA.2.1]
  refine Ex_imul 9 dX9_fails_8 rfl ?_
  rw [show (16 : Int32) = nI 16 from rfl, pk_mul]
  refine Ex_iadd 10 dX9_fails_9 rfl ?_
  rw [hm_addN]
  refine Ex_pI 13 (I m) (va_up I m (va_up (I m) 9 (nI (hmFl k t)))) dX9_fails_10 fX9_165 rfl (xMs_0 hm) rfl (fun _ => rfl) rfl rfl rfl rfl ?_
  refine Ex_iconst 14 (v := 0) dX9_fails_13 (by decide) rfl ?_
  refine Ex_iret dX9_fails_14 rfl (by decide) (Or.inl rfl) ?_
  exact hQ
set_option maxHeartbeats 4000000 in
theorem mc_puts {d : Nat} {sh : xSh} {R : xR} {L : xL} {I : xI} {Q : xQ} {m k : Nat} {x : Int32} (hm : xModel sh R m) (hk : I m 19 = nI k) (hk2 : k < 2000) (hQ : Q none 0 sh R L (va_up (va_up I (m + 10) (va_up (I (m + 10)) k x)) m (va_up (I m) 19 (nI (k + 1))))) : Ex d 0 0 MX9_puts 0 sh R L I 0 [some (.ref m), some (.int x)] [] Q := by
  refine Ex_aload_n 1 (i := 0) dX9_puts_0 rfl rfl rfl ?_
  refine Ex_getR 4 dX9_puts_1 fX9_38 (xMs_0 hm) rfl (xMr_18 hm) rfl ?_
  refine Ex_aload_n 5 (i := 0) dX9_puts_4 rfl rfl rfl ?_
  refine Ex_gI 8 (I m 19) dX9_puts_5 fX9_168 (xMs_0 hm) rfl rfl rfl ?_
  rw [hk]
  refine Ex_iload_n 9 (i := 1) dX9_puts_8 rfl rfl rfl ?_
  refine Ex_sI 10 k (I (m + 10)) (va_up I (m + 10) (va_up (I (m + 10)) k x)) dX9_puts_9 (xMs_10 hm) rfl (by omega) (by decide) rfl rfl rfl ?_
  refine Ex_aload_n 11 (i := 0) dX9_puts_10 rfl rfl rfl ?_
  refine Ex_dup 12 dX9_puts_11 rfl rfl ?_
  refine Ex_gI 15 (I m 19) dX9_puts_12 fX9_168 (xMs_0 hm) rfl (congrFun (va_up_ne _ _ (by omega)) _) rfl ?_
  rw [hk]
  refine Ex_iconst 16 (v := 1) dX9_puts_15 (by decide) rfl ?_
  refine Ex_iadd 17 dX9_puts_16 rfl ?_
  rw [nI_1]
  refine Ex_pI 20 (I m) (va_up (va_up I (m + 10) (va_up (I (m + 10)) k x)) m (va_up (I m) 19 (nI (k + 1)))) dX9_puts_17 fX9_168 rfl (xMs_0 hm) rfl (fun _ => rfl) (va_up_ne _ _ (by omega)) rfl rfl rfl ?_
  refine Ex_ret0 dX9_puts_20 rfl (Or.inl rfl) ?_
  exact hQ
theorem hm_weq27 {l w : List Nat} {v c : Int64} (hl : hmWd l) (hw : hmWd w) (hv : v = hmE27 l) (hc : c = hmE27 w) : (lg_cmp v c = 0 ↔ l = w) := by
  rw [hm_lg0, hv, hc]
  exact ⟨fun q => hmE27_inj hl hw q, fun q => by rw [q]⟩
/-- the code of a fact, or 0 -/
def hmFc (t : hmTok) : Int32 := if 12 ≤ hmKd t ∧ hmKd t ≤ 15 then nI (hmKd t - 11) else 0
set_option maxHeartbeats 4000000 in
theorem mc_fact {d : Nat} {sh : xSh} {R : xR} {L : xL} {I : xI} {Q : xQ} {m : Nat} {T : List Nat} {t : hmTok} {r : List hmTok} (hm : xModel sh R m) (hA : hmAm I L m T t r) (hQ : Q (some (.int (hmFc t))) 0 sh R L I) : Ex d 0 0 MX9_fact 0 sh R L I 0 [some (.ref m)] [] Q := by
  have k4 := hA.sk.2.2.2
  have q1 := hA.tk (n := 1) (k := 2) (by decide) rfl (hmTcd_1 k4)
  have q2 := hA.tk (n := 2) (k := 3) (by decide) rfl (hmTcd_2 k4)
  have q3 := hA.tk (n := 3) (k := 4) (by decide) rfl (hmTcd_3 k4)
  refine Ex_aload_n 1 (i := 0) dX9_fact_0 rfl rfl rfl ?_
  refine Ex_gI 4 (I m 6) dX9_fact_1 fX9_154 (xMs_0 hm) rfl rfl rfl ?_
  refine Ex_iconst 5 (v := 1) dX9_fact_4 (by decide) rfl ?_
  refine Ex_icmp_eq 8 10 dX9_fact_5 (by decide) rfl (fun c1 => ?_) (fun c1 => ?_)
  · have t2 := q1.mp c1
    have hv := hA.2.2.2.1 t2
    have hl : hmWd t.2.1 := ⟨(hA.sk.1 t2).1, (hA.sk.1 t2).2.1⟩
    have ek : hmKd t = hmKw t.2.1 := by unfold hmKd; rw [if_neg (by omega), if_pos t2]
    refine Ex_aload_n 11 (i := 0) dX9_fact_10 rfl rfl rfl ?_
    refine Ex_gL 14 (L m 7) dX9_fact_11 fX9_147 (xMs_0 hm) rfl rfl ?_
    rw [hv]
    refine Ex_ldc2 17 (v := 161437) dX9_fact_14 kX9_171 rfl ?_
    refine Ex_lcmp 18 dX9_fact_17 rfl ?_
    refine Ex_if_ne 21 23 dX9_fact_18 (by decide) rfl (fun c2 => ?_) (fun c2 => ?_)
    · refine Ex_aload_n 24 (i := 0) dX9_fact_23 rfl rfl rfl ?_
      refine Ex_gL 27 (L m 7) dX9_fact_24 fX9_147 (xMs_0 hm) rfl rfl ?_
      rw [hv]
      refine Ex_ldc2 30 (v := 9632) dX9_fact_27 kX9_173 rfl ?_
      refine Ex_lcmp 31 dX9_fact_30 rfl ?_
      refine Ex_if_ne 34 36 dX9_fact_31 (by decide) rfl (fun c3 => ?_) (fun c3 => ?_)
      · refine Ex_aload_n 37 (i := 0) dX9_fact_36 rfl rfl rfl ?_
        refine Ex_gL 40 (L m 7) dX9_fact_37 fX9_147 (xMs_0 hm) rfl rfl ?_
        rw [hv]
        refine Ex_ldc2 43 (v := 11570) dX9_fact_40 kX9_175 rfl ?_
        refine Ex_lcmp 44 dX9_fact_43 rfl ?_
        refine Ex_if_ne 47 51 dX9_fact_44 (by decide) rfl (fun c4 => ?_) (fun c4 => ?_)
        · refine Ex_aload_n 52 (i := 0) dX9_fact_51 rfl rfl rfl ?_
          refine Ex_gL 55 (L m 7) dX9_fact_52 fX9_147 (xMs_0 hm) rfl rfl ?_
          rw [hv]
          refine Ex_ldc2 58 (v := 291335149) dX9_fact_55 kX9_177 rfl ?_
          refine Ex_lcmp 59 dX9_fact_58 rfl ?_
          refine Ex_if_ne 62 66 dX9_fact_59 (by decide) rfl (fun c5 => ?_) (fun c5 => ?_)
          · refine Ex_iconst 67 (v := 0) dX9_fact_66 (by decide) rfl ?_
            refine Ex_iret dX9_fact_67 rfl rfl (Or.inl rfl) ?_
            have e : hmFc t = 0 := by
              have n12 : ¬ t.2.1 = wHeld := fun q => c2 ((hm_weq27 hl (w := wHeld) (by unfold hmWd; decide) rfl (by decide +kernel)).mpr q)
              have n13 : ¬ t.2.1 = wMet := fun q => c3 ((hm_weq27 hl (w := wMet) (by unfold hmWd; decide) rfl (by decide +kernel)).mpr q)
              have n14 : ¬ t.2.1 = wOwn := fun q => c4 ((hm_weq27 hl (w := wOwn) (by unfold hmWd; decide) rfl (by decide +kernel)).mpr q)
              have n15 : ¬ t.2.1 = wTheirs := fun q => c5 ((hm_weq27 hl (w := wTheirs) (by unfold hmWd; decide) rfl (by decide +kernel)).mpr q)
              unfold hmFc
              refine if_neg (fun q => ?_)
              rw [ek] at q
              unfold hmKw at q
              by_cases z1 : t.2.1 = wNot
              · rw [if_pos z1] at q; omega
              by_cases z2 : t.2.1 = wAnd
              · rw [if_neg z1, if_pos z2] at q; omega
              by_cases z3 : t.2.1 = wOr
              · rw [if_neg z1, if_neg z2, if_pos z3] at q; omega
              rw [if_neg z1, if_neg z2, if_neg z3, if_neg n12, if_neg n13, if_neg n14, if_neg n15] at q
              omega
            rw [← e]
            exact hQ
          · refine Ex_iconst 63 (v := 4) dX9_fact_62 (by decide) rfl ?_
            refine Ex_goto 67 dX9_fact_63 (by decide) ?_
            refine Ex_iret dX9_fact_67 rfl rfl (Or.inl rfl) ?_
            have e : hmFc t = 4 := by
              have h := (hm_weq27 hl (w := wTheirs) (by unfold hmWd; decide) rfl (by decide +kernel)).mp c5
              unfold hmFc
              rw [ek, h]
              decide
            rw [← e]
            exact hQ
        · refine Ex_iconst 48 (v := 3) dX9_fact_47 (by decide) rfl ?_
          refine Ex_goto 67 dX9_fact_48 (by decide) ?_
          refine Ex_iret dX9_fact_67 rfl rfl (Or.inl rfl) ?_
          have e : hmFc t = 3 := by
            have h := (hm_weq27 hl (w := wOwn) (by unfold hmWd; decide) rfl (by decide +kernel)).mp c4
            unfold hmFc
            rw [ek, h]
            decide
          rw [← e]
          exact hQ
      · refine Ex_iconst 35 (v := 2) dX9_fact_34 (by decide) rfl ?_
        refine Ex_iret dX9_fact_35 rfl rfl (Or.inl rfl) ?_
        have e : hmFc t = 2 := by
          have h := (hm_weq27 hl (w := wMet) (by unfold hmWd; decide) rfl (by decide +kernel)).mp c3
          unfold hmFc
          rw [ek, h]
          decide
        rw [← e]
        exact hQ
    · refine Ex_iconst 22 (v := 1) dX9_fact_21 (by decide) rfl ?_
      refine Ex_iret dX9_fact_22 rfl rfl (Or.inl rfl) ?_
      have e : hmFc t = 1 := by
        have h := (hm_weq27 hl (w := wHeld) (by unfold hmWd; decide) rfl (by decide +kernel)).mp c2
        unfold hmFc
        rw [ek, h]
        decide
      rw [← e]
      exact hQ
  · refine Ex_iconst 9 (v := 0) dX9_fact_8 (by decide) rfl ?_
    refine Ex_iret dX9_fact_9 rfl rfl (Or.inl rfl) ?_
    have e : hmFc t = 0 := by
      have t2 : ¬ t.1 = 2 := fun q => c1 (q1.mpr q)
      unfold hmFc
      refine if_neg (fun q => ?_)
      have hq := q
      unfold hmKd at hq
      have a1 := hmKs_le (t.2.1.getD 0 0)
      by_cases b1 : t.1 = 4
      · rw [if_pos b1] at hq
        omega
      · rw [if_neg b1, if_neg t2] at hq
        by_cases b2 : t.1 = 3
        · rw [if_pos b2] at hq
          omega
        · rw [if_neg b2] at hq
          omega
    rw [← e]
    exact hQ
set_option maxHeartbeats 4000000 in
theorem mc_isKept {d : Nat} {sh : xSh} {R : xR} {L : xL} {I : xI} {Q : xQ} {m : Nat} {T : List Nat} {t : hmTok} {r : List hmTok} (hm : xModel sh R m) (hA : hmAm I L m T t r) (hQ : Q (some (.int (hmB (!hmNm t)))) 0 sh R L I) : Ex d 0 0 MX9_isKept 0 sh R L I 0 [some (.ref m)] [] Q := by
  have k4 := hA.sk.2.2.2
  have q1 := hA.tk (n := 1) (k := 2) (by decide) rfl (hmTcd_1 k4)
  have q2 := hA.tk (n := 2) (k := 3) (by decide) rfl (hmTcd_2 k4)
  have q3 := hA.tk (n := 3) (k := 4) (by decide) rfl (hmTcd_3 k4)
  refine Ex_aload_n 1 (i := 0) dX9_isKept_0 rfl rfl rfl ?_
  refine Ex_gI 4 (I m 6) dX9_isKept_1 fX9_154 (xMs_0 hm) rfl rfl rfl ?_
  refine Ex_iconst 5 (v := 1) dX9_isKept_4 (by decide) rfl ?_
  refine Ex_icmp_eq 8 10 dX9_isKept_5 (by decide) rfl (fun c1 => ?_) (fun c1 => ?_)
  · have t2 := q1.mp c1
    have hv := hA.2.2.2.1 t2
    have hl : hmWd t.2.1 := ⟨(hA.sk.1 t2).1, (hA.sk.1 t2).2.1⟩
    refine Ex_aload_n 11 (i := 0) dX9_isKept_10 rfl rfl rfl ?_
    refine Ex_gL 14 (L m 7) dX9_isKept_11 fX9_147 (xMs_0 hm) rfl rfl ?_
    rw [hv]
    refine Ex_ldc2 17 (v := 43823259) dX9_isKept_14 kX9_216 rfl ?_
    refine Ex_lcmp 18 dX9_isKept_17 rfl ?_
    refine Ex_if_eq 21 197 dX9_isKept_18 (by decide) rfl (fun c2 => ?_) (fun c2 => ?_)
    · refine Ex_iconst 198 (v := 1) dX9_isKept_197 (by decide) rfl ?_
      refine Ex_goto 202 dX9_isKept_198 (by decide) ?_
      refine Ex_iret dX9_isKept_202 rfl (by decide) (Or.inl rfl) ?_
      have e : hmB (!hmNm t) = 1 := by
        have h := (hm_weq27 hl (w := wCaller) (by unfold hmWd; decide) rfl (by decide +kernel)).mp c2
        rw [hmB_1]
        unfold hmNm
        rw [decide_eq_false (fun q => q.2 (by rw [h]; decide))]
        rfl
      rw [← e]
      exact hQ
    · refine Ex_aload_n 22 (i := 0) dX9_isKept_21 rfl rfl rfl ?_
      refine Ex_gL 25 (L m 7) dX9_isKept_22 fX9_147 (xMs_0 hm) rfl rfl ?_
      rw [hv]
      refine Ex_ldc2 28 (v := 8015076851) dX9_isKept_25 kX9_218 rfl ?_
      refine Ex_lcmp 29 dX9_isKept_28 rfl ?_
      refine Ex_if_eq 32 197 dX9_isKept_29 (by decide) rfl (fun c3 => ?_) (fun c3 => ?_)
      · refine Ex_iconst 198 (v := 1) dX9_isKept_197 (by decide) rfl ?_
        refine Ex_goto 202 dX9_isKept_198 (by decide) ?_
        refine Ex_iret dX9_isKept_202 rfl (by decide) (Or.inl rfl) ?_
        have e : hmB (!hmNm t) = 1 := by
          have h := (hm_weq27 hl (w := wTrouble) (by unfold hmWd; decide) rfl (by decide +kernel)).mp c3
          rw [hmB_1]
          unfold hmNm
          rw [decide_eq_false (fun q => q.2 (by rw [h]; decide))]
          rfl
        rw [← e]
        exact hQ
      · refine Ex_aload_n 33 (i := 0) dX9_isKept_32 rfl rfl rfl ?_
        refine Ex_gL 36 (L m 7) dX9_isKept_33 fX9_147 (xMs_0 hm) rfl rfl ?_
        rw [hv]
        refine Ex_ldc2 39 (v := 6132988) dX9_isKept_36 kX9_220 rfl ?_
        refine Ex_lcmp 40 dX9_isKept_39 rfl ?_
        refine Ex_if_eq 43 197 dX9_isKept_40 (by decide) rfl (fun c4 => ?_) (fun c4 => ?_)
        · refine Ex_iconst 198 (v := 1) dX9_isKept_197 (by decide) rfl ?_
          refine Ex_goto 202 dX9_isKept_198 (by decide) ?_
          refine Ex_iret dX9_isKept_202 rfl (by decide) (Or.inl rfl) ?_
          have e : hmB (!hmNm t) = 1 := by
            have h := (hm_weq27 hl (w := wKnows) (by unfold hmWd; decide) rfl (by decide +kernel)).mp c4
            rw [hmB_1]
            unfold hmNm
            rw [decide_eq_false (fun q => q.2 (by rw [h]; decide))]
            rfl
          rw [← e]
          exact hQ
        · refine Ex_aload_n 44 (i := 0) dX9_isKept_43 rfl rfl rfl ?_
          refine Ex_gL 47 (L m 7) dX9_isKept_44 fX9_147 (xMs_0 hm) rfl rfl ?_
          rw [hv]
          refine Ex_ldc2 50 (v := 4555648) dX9_isKept_47 kX9_222 rfl ?_
          refine Ex_lcmp 51 dX9_isKept_50 rfl ?_
          refine Ex_if_eq 54 197 dX9_isKept_51 (by decide) rfl (fun c5 => ?_) (fun c5 => ?_)
          · refine Ex_iconst 198 (v := 1) dX9_isKept_197 (by decide) rfl ?_
            refine Ex_goto 202 dX9_isKept_198 (by decide) ?_
            refine Ex_iret dX9_isKept_202 rfl (by decide) (Or.inl rfl) ?_
            have e : hmB (!hmNm t) = 1 := by
              have h := (hm_weq27 hl (w := wHolds) (by unfold hmWd; decide) rfl (by decide +kernel)).mp c5
              rw [hmB_1]
              unfold hmNm
              rw [decide_eq_false (fun q => q.2 (by rw [h]; decide))]
              rfl
            rw [← e]
            exact hQ
          · refine Ex_aload_n 55 (i := 0) dX9_isKept_54 rfl rfl rfl ?_
            refine Ex_gL 58 (L m 7) dX9_isKept_55 fX9_147 (xMs_0 hm) rfl rfl ?_
            rw [hv]
            refine Ex_ldc2 61 (v := 10656676) dX9_isKept_58 kX9_224 rfl ?_
            refine Ex_lcmp 62 dX9_isKept_61 rfl ?_
            refine Ex_if_eq 65 197 dX9_isKept_62 (by decide) rfl (fun c6 => ?_) (fun c6 => ?_)
            · refine Ex_iconst 198 (v := 1) dX9_isKept_197 (by decide) rfl ?_
              refine Ex_goto 202 dX9_isKept_198 (by decide) ?_
              refine Ex_iret dX9_isKept_202 rfl (by decide) (Or.inl rfl) ?_
              have e : hmB (!hmNm t) = 1 := by
                have h := (hm_weq27 hl (w := wTakes) (by unfold hmWd; decide) rfl (by decide +kernel)).mp c6
                rw [hmB_1]
                unfold hmNm
                rw [decide_eq_false (fun q => q.2 (by rw [h]; decide))]
                rfl
              rw [← e]
              exact hQ
            · refine Ex_aload_n 66 (i := 0) dX9_isKept_65 rfl rfl rfl ?_
              refine Ex_gL 69 (L m 7) dX9_isKept_66 fX9_147 (xMs_0 hm) rfl rfl ?_
              rw [hv]
              refine Ex_ldc2 72 (v := 23034893311) dX9_isKept_69 kX9_226 rfl ?_
              refine Ex_lcmp 73 dX9_isKept_72 rfl ?_
              refine Ex_if_eq 76 197 dX9_isKept_73 (by decide) rfl (fun c7 => ?_) (fun c7 => ?_)
              · refine Ex_iconst 198 (v := 1) dX9_isKept_197 (by decide) rfl ?_
                refine Ex_goto 202 dX9_isKept_198 (by decide) ?_
                refine Ex_iret dX9_isKept_202 rfl (by decide) (Or.inl rfl) ?_
                have e : hmB (!hmNm t) = 1 := by
                  have h := (hm_weq27 hl (w := wBelieves) (by unfold hmWd; decide) rfl (by decide +kernel)).mp c7
                  rw [hmB_1]
                  unfold hmNm
                  rw [decide_eq_false (fun q => q.2 (by rw [h]; decide))]
                  rfl
                rw [← e]
                exact hQ
              · refine Ex_aload_n 77 (i := 0) dX9_isKept_76 rfl rfl rfl ?_
                refine Ex_gL 80 (L m 7) dX9_isKept_77 fX9_147 (xMs_0 hm) rfl rfl ?_
                rw [hv]
                refine Ex_ldc2 83 (v := 361240) dX9_isKept_80 kX9_228 rfl ?_
                refine Ex_lcmp 84 dX9_isKept_83 rfl ?_
                refine Ex_if_eq 87 197 dX9_isKept_84 (by decide) rfl (fun c8 => ?_) (fun c8 => ?_)
                · refine Ex_iconst 198 (v := 1) dX9_isKept_197 (by decide) rfl ?_
                  refine Ex_goto 202 dX9_isKept_198 (by decide) ?_
                  refine Ex_iret dX9_isKept_202 rfl (by decide) (Or.inl rfl) ?_
                  have e : hmB (!hmNm t) = 1 := by
                    have h := (hm_weq27 hl (w := wRing) (by unfold hmWd; decide) rfl (by decide +kernel)).mp c8
                    rw [hmB_1]
                    unfold hmNm
                    rw [decide_eq_false (fun q => q.2 (by rw [h]; decide))]
                    rfl
                  rw [← e]
                  exact hQ
                · refine Ex_aload_n 88 (i := 0) dX9_isKept_87 rfl rfl rfl ?_
                  refine Ex_gL 91 (L m 7) dX9_isKept_88 fX9_147 (xMs_0 hm) rfl rfl ?_
                  rw [hv]
                  refine Ex_ldc2 94 (v := 11103) dX9_isKept_91 kX9_230 rfl ?_
                  refine Ex_lcmp 95 dX9_isKept_94 rfl ?_
                  refine Ex_if_eq 98 197 dX9_isKept_95 (by decide) rfl (fun c9 => ?_) (fun c9 => ?_)
                  · refine Ex_iconst 198 (v := 1) dX9_isKept_197 (by decide) rfl ?_
                    refine Ex_goto 202 dX9_isKept_198 (by decide) ?_
                    refine Ex_iret dX9_isKept_202 rfl (by decide) (Or.inl rfl) ?_
                    have e : hmB (!hmNm t) = 1 := by
                      have h := (hm_weq27 hl (w := wOff) (by unfold hmWd; decide) rfl (by decide +kernel)).mp c9
                      rw [hmB_1]
                      unfold hmNm
                      rw [decide_eq_false (fun q => q.2 (by rw [h]; decide))]
                      rfl
                    rw [← e]
                    exact hQ
                  · refine Ex_aload_n 99 (i := 0) dX9_isKept_98 rfl rfl rfl ?_
                    refine Ex_gL 102 (L m 7) dX9_isKept_99 fX9_147 (xMs_0 hm) rfl rfl ?_
                    rw [hv]
                    refine Ex_ldc2 105 (v := 390787) dX9_isKept_102 kX9_232 rfl ?_
                    refine Ex_lcmp 106 dX9_isKept_105 rfl ?_
                    refine Ex_if_eq 109 197 dX9_isKept_106 (by decide) rfl (fun c10 => ?_) (fun c10 => ?_)
                    · refine Ex_iconst 198 (v := 1) dX9_isKept_197 (by decide) rfl ?_
                      refine Ex_goto 202 dX9_isKept_198 (by decide) ?_
                      refine Ex_iret dX9_isKept_202 rfl (by decide) (Or.inl rfl) ?_
                      have e : hmB (!hmNm t) = 1 := by
                        have h := (hm_weq27 hl (w := wSwap) (by unfold hmWd; decide) rfl (by decide +kernel)).mp c10
                        rw [hmB_1]
                        unfold hmNm
                        rw [decide_eq_false (fun q => q.2 (by rw [h]; decide))]
                        rfl
                      rw [← e]
                      exact hQ
                    · refine Ex_aload_n 110 (i := 0) dX9_isKept_109 rfl rfl rfl ?_
                      refine Ex_gL 113 (L m 7) dX9_isKept_110 fX9_147 (xMs_0 hm) rfl rfl ?_
                      rw [hv]
                      refine Ex_ldc2 116 (v := 191610176) dX9_isKept_113 kX9_234 rfl ?_
                      refine Ex_lcmp 117 dX9_isKept_116 rfl ?_
                      refine Ex_if_eq 120 197 dX9_isKept_117 (by decide) rfl (fun c11 => ?_) (fun c11 => ?_)
                      · refine Ex_iconst 198 (v := 1) dX9_isKept_197 (by decide) rfl ?_
                        refine Ex_goto 202 dX9_isKept_198 (by decide) ?_
                        refine Ex_iret dX9_isKept_202 rfl (by decide) (Or.inl rfl) ?_
                        have e : hmB (!hmNm t) = 1 := by
                          have h := (hm_weq27 hl (w := wMinute) (by unfold hmWd; decide) rfl (by decide +kernel)).mp c11
                          rw [hmB_1]
                          unfold hmNm
                          rw [decide_eq_false (fun q => q.2 (by rw [h]; decide))]
                          rfl
                        rw [← e]
                        exact hQ
                      · refine Ex_aload_n 121 (i := 0) dX9_isKept_120 rfl rfl rfl ?_
                        refine Ex_gL 124 (L m 7) dX9_isKept_121 fX9_147 (xMs_0 hm) rfl rfl ?_
                        rw [hv]
                        refine Ex_ldc2 127 (v := 8740238) dX9_isKept_124 kX9_236 rfl ?_
                        refine Ex_lcmp 128 dX9_isKept_127 rfl ?_
                        refine Ex_if_eq 131 197 dX9_isKept_128 (by decide) rfl (fun c12 => ?_) (fun c12 => ?_)
                        · refine Ex_iconst 198 (v := 1) dX9_isKept_197 (by decide) rfl ?_
                          refine Ex_goto 202 dX9_isKept_198 (by decide) ?_
                          refine Ex_iret dX9_isKept_202 rfl (by decide) (Or.inl rfl) ?_
                          have e : hmB (!hmNm t) = 1 := by
                            have h := (hm_weq27 hl (w := wPlain) (by unfold hmWd; decide) rfl (by decide +kernel)).mp c12
                            rw [hmB_1]
                            unfold hmNm
                            rw [decide_eq_false (fun q => q.2 (by rw [h]; decide))]
                            rfl
                          rw [← e]
                          exact hQ
                        · refine Ex_aload_n 132 (i := 0) dX9_isKept_131 rfl rfl rfl ?_
                          refine Ex_gL 135 (L m 7) dX9_isKept_132 fX9_147 (xMs_0 hm) rfl rfl ?_
                          rw [hv]
                          refine Ex_ldc2 138 (v := 14092) dX9_isKept_135 kX9_238 rfl ?_
                          refine Ex_lcmp 139 dX9_isKept_138 rfl ?_
                          refine Ex_if_eq 142 197 dX9_isKept_139 (by decide) rfl (fun c13 => ?_) (fun c13 => ?_)
                          · refine Ex_iconst 198 (v := 1) dX9_isKept_197 (by decide) rfl ?_
                            refine Ex_goto 202 dX9_isKept_198 (by decide) ?_
                            refine Ex_iret dX9_isKept_202 rfl (by decide) (Or.inl rfl) ?_
                            have e : hmB (!hmNm t) = 1 := by
                              have h := (hm_weq27 hl (w := wShy) (by unfold hmWd; decide) rfl (by decide +kernel)).mp c13
                              rw [hmB_1]
                              unfold hmNm
                              rw [decide_eq_false (fun q => q.2 (by rw [h]; decide))]
                              rfl
                            rw [← e]
                            exact hQ
                          · refine Ex_aload_n 143 (i := 0) dX9_isKept_142 rfl rfl rfl ?_
                            refine Ex_gL 146 (L m 7) dX9_isKept_143 fX9_147 (xMs_0 hm) rfl rfl ?_
                            rw [hv]
                            refine Ex_ldc2 149 (v := 108802051) dX9_isKept_146 kX9_240 rfl ?_
                            refine Ex_lcmp 150 dX9_isKept_149 rfl ?_
                            refine Ex_if_eq 153 197 dX9_isKept_150 (by decide) rfl (fun c14 => ?_) (fun c14 => ?_)
                            · refine Ex_iconst 198 (v := 1) dX9_isKept_197 (by decide) rfl ?_
                              refine Ex_goto 202 dX9_isKept_198 (by decide) ?_
                              refine Ex_iret dX9_isKept_202 rfl (by decide) (Or.inl rfl) ?_
                              have e : hmB (!hmNm t) = 1 := by
                                have h := (hm_weq27 hl (w := wGossip) (by unfold hmWd; decide) rfl (by decide +kernel)).mp c14
                                rw [hmB_1]
                                unfold hmNm
                                rw [decide_eq_false (fun q => q.2 (by rw [h]; decide))]
                                rfl
                              rw [← e]
                              exact hQ
                            · refine Ex_aload_n 154 (i := 0) dX9_isKept_153 rfl rfl rfl ?_
                              refine Ex_gL 157 (L m 7) dX9_isKept_154 fX9_147 (xMs_0 hm) rfl rfl ?_
                              rw [hv]
                              refine Ex_ldc2 160 (v := 82410) dX9_isKept_157 kX9_242 rfl ?_
                              refine Ex_lcmp 161 dX9_isKept_160 rfl ?_
                              refine Ex_if_eq 164 197 dX9_isKept_161 (by decide) rfl (fun c15 => ?_) (fun c15 => ?_)
                              · refine Ex_iconst 198 (v := 1) dX9_isKept_197 (by decide) rfl ?_
                                refine Ex_goto 202 dX9_isKept_198 (by decide) ?_
                                refine Ex_iret dX9_isKept_202 rfl (by decide) (Or.inl rfl) ?_
                                have e : hmB (!hmNm t) = 1 := by
                                  have h := (hm_weq27 hl (w := wDeaf) (by unfold hmWd; decide) rfl (by decide +kernel)).mp c15
                                  rw [hmB_1]
                                  unfold hmNm
                                  rw [decide_eq_false (fun q => q.2 (by rw [h]; decide))]
                                  rfl
                                rw [← e]
                                exact hQ
                              · refine Ex_aload_n 165 (i := 0) dX9_isKept_164 rfl rfl rfl ?_
                                refine Ex_gL 168 (L m 7) dX9_isKept_165 fX9_147 (xMs_0 hm) rfl rfl ?_
                                rw [hv]
                                refine Ex_ldc2 171 (v := 10631) dX9_isKept_168 kX9_183 rfl ?_
                                refine Ex_lcmp 172 dX9_isKept_171 rfl ?_
                                refine Ex_if_eq 175 197 dX9_isKept_172 (by decide) rfl (fun c16 => ?_) (fun c16 => ?_)
                                · refine Ex_iconst 198 (v := 1) dX9_isKept_197 (by decide) rfl ?_
                                  refine Ex_goto 202 dX9_isKept_198 (by decide) ?_
                                  refine Ex_iret dX9_isKept_202 rfl (by decide) (Or.inl rfl) ?_
                                  have e : hmB (!hmNm t) = 1 := by
                                    have h := (hm_weq27 hl (w := wNot) (by unfold hmWd; decide) rfl (by decide +kernel)).mp c16
                                    rw [hmB_1]
                                    unfold hmNm
                                    rw [decide_eq_false (fun q => q.2 (by rw [h]; decide))]
                                    rfl
                                  rw [← e]
                                  exact hQ
                                · refine Ex_aload_n 176 (i := 0) dX9_isKept_175 rfl rfl rfl ?_
                                  refine Ex_gL 179 (L m 7) dX9_isKept_176 fX9_147 (xMs_0 hm) rfl rfl ?_
                                  rw [hv]
                                  refine Ex_ldc2 182 (v := 1111) dX9_isKept_179 kX9_203 rfl ?_
                                  refine Ex_lcmp 183 dX9_isKept_182 rfl ?_
                                  refine Ex_if_eq 186 197 dX9_isKept_183 (by decide) rfl (fun c17 => ?_) (fun c17 => ?_)
                                  · refine Ex_iconst 198 (v := 1) dX9_isKept_197 (by decide) rfl ?_
                                    refine Ex_goto 202 dX9_isKept_198 (by decide) ?_
                                    refine Ex_iret dX9_isKept_202 rfl (by decide) (Or.inl rfl) ?_
                                    have e : hmB (!hmNm t) = 1 := by
                                      have h := (hm_weq27 hl (w := wAnd) (by unfold hmWd; decide) rfl (by decide +kernel)).mp c17
                                      rw [hmB_1]
                                      unfold hmNm
                                      rw [decide_eq_false (fun q => q.2 (by rw [h]; decide))]
                                      rfl
                                    rw [← e]
                                    exact hQ
                                  · refine Ex_aload_n 187 (i := 0) dX9_isKept_186 rfl rfl rfl ?_
                                    refine Ex_gL 190 (L m 7) dX9_isKept_187 fX9_147 (xMs_0 hm) rfl rfl ?_
                                    rw [hv]
                                    refine Ex_ldc2 193 (v := 423) dX9_isKept_190 kX9_205 rfl ?_
                                    refine Ex_lcmp 194 dX9_isKept_193 rfl ?_
                                    refine Ex_if_ne 197 201 dX9_isKept_194 (by decide) rfl (fun c18 => ?_) (fun c18 => ?_)
                                    · refine Ex_iconst 202 (v := 0) dX9_isKept_201 (by decide) rfl ?_
                                      refine Ex_iret dX9_isKept_202 rfl (by decide) (Or.inl rfl) ?_
                                      have e : hmB (!hmNm t) = 0 := by
                                        have n0 : ¬ t.2.1 = wCaller := fun q => c2 ((hm_weq27 hl (w := wCaller) (by unfold hmWd; decide) rfl (by decide +kernel)).mpr q)
                                        have n1 : ¬ t.2.1 = wTrouble := fun q => c3 ((hm_weq27 hl (w := wTrouble) (by unfold hmWd; decide) rfl (by decide +kernel)).mpr q)
                                        have n2 : ¬ t.2.1 = wKnows := fun q => c4 ((hm_weq27 hl (w := wKnows) (by unfold hmWd; decide) rfl (by decide +kernel)).mpr q)
                                        have n3 : ¬ t.2.1 = wHolds := fun q => c5 ((hm_weq27 hl (w := wHolds) (by unfold hmWd; decide) rfl (by decide +kernel)).mpr q)
                                        have n4 : ¬ t.2.1 = wTakes := fun q => c6 ((hm_weq27 hl (w := wTakes) (by unfold hmWd; decide) rfl (by decide +kernel)).mpr q)
                                        have n5 : ¬ t.2.1 = wBelieves := fun q => c7 ((hm_weq27 hl (w := wBelieves) (by unfold hmWd; decide) rfl (by decide +kernel)).mpr q)
                                        have n6 : ¬ t.2.1 = wRing := fun q => c8 ((hm_weq27 hl (w := wRing) (by unfold hmWd; decide) rfl (by decide +kernel)).mpr q)
                                        have n7 : ¬ t.2.1 = wOff := fun q => c9 ((hm_weq27 hl (w := wOff) (by unfold hmWd; decide) rfl (by decide +kernel)).mpr q)
                                        have n8 : ¬ t.2.1 = wSwap := fun q => c10 ((hm_weq27 hl (w := wSwap) (by unfold hmWd; decide) rfl (by decide +kernel)).mpr q)
                                        have n9 : ¬ t.2.1 = wMinute := fun q => c11 ((hm_weq27 hl (w := wMinute) (by unfold hmWd; decide) rfl (by decide +kernel)).mpr q)
                                        have n10 : ¬ t.2.1 = wPlain := fun q => c12 ((hm_weq27 hl (w := wPlain) (by unfold hmWd; decide) rfl (by decide +kernel)).mpr q)
                                        have n11 : ¬ t.2.1 = wShy := fun q => c13 ((hm_weq27 hl (w := wShy) (by unfold hmWd; decide) rfl (by decide +kernel)).mpr q)
                                        have n12 : ¬ t.2.1 = wGossip := fun q => c14 ((hm_weq27 hl (w := wGossip) (by unfold hmWd; decide) rfl (by decide +kernel)).mpr q)
                                        have n13 : ¬ t.2.1 = wDeaf := fun q => c15 ((hm_weq27 hl (w := wDeaf) (by unfold hmWd; decide) rfl (by decide +kernel)).mpr q)
                                        have n14 : ¬ t.2.1 = wNot := fun q => c16 ((hm_weq27 hl (w := wNot) (by unfold hmWd; decide) rfl (by decide +kernel)).mpr q)
                                        have n15 : ¬ t.2.1 = wAnd := fun q => c17 ((hm_weq27 hl (w := wAnd) (by unfold hmWd; decide) rfl (by decide +kernel)).mpr q)
                                        have n16 : ¬ t.2.1 = wOr := fun q => c18 ((hm_weq27 hl (w := wOr) (by unfold hmWd; decide) rfl (by decide +kernel)).mpr q)
                                        have hh : t.2.1 ∉ hmRes := fun q => by
                                          simp only [hmRes, List.mem_cons, List.not_mem_nil, or_false] at q
                                          rcases q with q | q | q | q | q | q | q | q | q | q | q | q | q | q | q | q | q <;> contradiction
                                        rw [hmB_0]
                                        unfold hmNm
                                        rw [decide_eq_true ⟨t2, hh⟩]
                                        rfl
                                      rw [← e]
                                      exact hQ
                                    · refine Ex_iconst 198 (v := 1) dX9_isKept_197 (by decide) rfl ?_
                                      refine Ex_goto 202 dX9_isKept_198 (by decide) ?_
                                      refine Ex_iret dX9_isKept_202 rfl (by decide) (Or.inl rfl) ?_
                                      have e : hmB (!hmNm t) = 1 := by
                                        have h := (hm_weq27 hl (w := wOr) (by unfold hmWd; decide) rfl (by decide +kernel)).mp c18
                                        rw [hmB_1]
                                        unfold hmNm
                                        rw [decide_eq_false (fun q => q.2 (by rw [h]; decide))]
                                        rfl
                                      rw [← e]
                                      exact hQ
  · refine Ex_iconst 9 (v := 1) dX9_isKept_8 (by decide) rfl ?_
    refine Ex_iret dX9_isKept_9 rfl (by decide) (Or.inl rfl) ?_
    have e : hmB (!hmNm t) = 1 := by
      rw [hmB_1]
      unfold hmNm
      rw [decide_eq_false (fun q => c1 (q1.mpr q.1))]
      rfl
    rw [← e]
    exact hQ
set_option maxHeartbeats 4000000 in
theorem mc_needsWord {d : Nat} {sh : xSh} {R : xR} {L : xL} {I : xI} {Q : xQ} {m : Nat} {T : List Nat} {t : hmTok} {r : List hmTok} (hm : xModel sh R m) (hA : hmAm I L m T t r) (hc : ∀ x, x ∈ T → x < 127) {wv : Int64} {l : List Nat} (hw : wv = hmE27 l) (hl : hmWd l) (hF : hmIsW t l = false → Q (some (.int 0)) 0 sh R L (va_up I m (va_up (I m) 9 (nI (hmFl 1 t))))) (hQ : hmIsW t l = true → ∀ t' r' I' L', r = t' :: r' → hmNf m I I' → hmNl m L L' → hmAm I' L' m T t' r' → Q (some (.int 1)) 0 sh R L' I') : Ex (d + 2) 0 0 MX9_needsWord 0 sh R L I 0 [some (.ref m), some (.long wv), none] [] Q := by
  refine Ex_aload_n 1 (i := 0) dX9_needsWord_0 rfl rfl rfl ?_
  refine Ex_lload_n 2 (i := 1) dX9_needsWord_1 rfl rfl rfl ?_
  refine Ex_callV (M' := MX9_isWord) 5 [.long wv] (rest := []) dX9_needsWord_2 lX9_185 mX9_isWord rfl (xMs_0 hm) rfl (Nat.le_of_ble_eq_true rfl) (Nat.le_of_ble_eq_true rfl) rfl ?_
  refine mc_isWord hm hA hw hl ?_
  simp only [Option.toList, List.cons_append, List.nil_append]
  refine Ex_if_ne 8 14 dX9_needsWord_5 (by decide) rfl (fun c1 => ?_) (fun c1 => ?_)
  · refine Ex_aload_n 15 (i := 0) dX9_needsWord_14 rfl rfl rfl ?_
    refine Ex_callV (M' := MX9_nextToken) 18 [] (rest := []) dX9_needsWord_15 lX9_200 mX9_nextToken rfl (xMs_0 hm) rfl (Nat.le_of_ble_eq_true rfl) (Nat.le_of_ble_eq_true rfl) rfl ?_
    refine mc_nxt hm hA hc (fun q => by have h := hmB_ne c1; simp [hmIsW, q] at h) (fun t1 r1 I1 L1 er1 gs1 gt1 hA1 => ?_)
    simp only [Option.toList, List.nil_append, List.cons_append]
    refine Ex_iconst 19 (v := 1) dX9_needsWord_18 (by decide) rfl ?_
    refine Ex_iret dX9_needsWord_19 rfl (by decide) (Or.inl rfl) ?_
    exact hQ (hmB_ne c1) t1 r1 I1 L1 er1 gs1 gt1 hA1
  · refine Ex_aload_n 9 (i := 0) dX9_needsWord_8 rfl rfl rfl ?_
    refine Ex_iconst 10 (v := 1) dX9_needsWord_9 (by decide) rfl ?_
    refine Ex_callV (M' := MX9_fails) 13 [.int 1] (rest := []) dX9_needsWord_10 lX9_193 mX9_fails rfl (xMs_0 hm) rfl (Nat.le_of_ble_eq_true rfl) (Nat.le_of_ble_eq_true rfl) rfl ?_
    refine mc_fails (k := 1) hm hA ?_
    simp only [Option.toList, List.nil_append, List.cons_append]
    refine Ex_iret dX9_needsWord_13 rfl (by decide) (Or.inl rfl) ?_
    exact hF (hmB_eq c1)
set_option maxHeartbeats 4000000 in
theorem mc_closes {d : Nat} {sh : xSh} {R : xR} {L : xL} {I : xI} {Q : xQ} {m : Nat} {T : List Nat} {t : hmTok} {r : List hmTok} (hm : xModel sh R m) (hA : hmAm I L m T t r) (hc : ∀ x, x ∈ T → x < 127) (hF : hmIsS t 59 = false → Q (some (.int 0)) 0 sh R L (va_up I m (va_up (I m) 9 (nI (hmFl 1 t))))) (hQ : hmIsS t 59 = true → ∀ t' r' I' L', r = t' :: r' → hmNf m I I' → hmNl m L L' → hmAm I' L' m T t' r' → Q (some (.int 1)) 0 sh R L' I') : Ex (d + 2) 0 0 MX9_closes 0 sh R L I 0 [some (.ref m)] [] Q := by
  refine Ex_aload_n 1 (i := 0) dX9_closes_0 rfl rfl rfl ?_
  refine Ex_bipush 3 (v := 59) dX9_closes_1 (by decide) rfl ?_
  refine Ex_callV (M' := MX9_isSign) 6 [.int 59] (rest := []) dX9_closes_3 lX9_189 mX9_isSign rfl (xMs_0 hm) rfl (Nat.le_of_ble_eq_true rfl) (Nat.le_of_ble_eq_true rfl) rfl ?_
  refine mc_isSign hm hA (c := 59) (by decide) ?_
  simp only [Option.toList, List.cons_append, List.nil_append]
  refine Ex_if_ne 9 15 dX9_closes_6 (by decide) rfl (fun c1 => ?_) (fun c1 => ?_)
  · refine Ex_aload_n 16 (i := 0) dX9_closes_15 rfl rfl rfl ?_
    refine Ex_callV (M' := MX9_nextToken) 19 [] (rest := []) dX9_closes_16 lX9_200 mX9_nextToken rfl (xMs_0 hm) rfl (Nat.le_of_ble_eq_true rfl) (Nat.le_of_ble_eq_true rfl) rfl ?_
    refine mc_nxt hm hA hc (fun q => by have h := hmB_ne c1; simp [hmIsS, q] at h) (fun t1 r1 I1 L1 er1 gs1 gt1 hA1 => ?_)
    simp only [Option.toList, List.nil_append, List.cons_append]
    refine Ex_iconst 20 (v := 1) dX9_closes_19 (by decide) rfl ?_
    refine Ex_iret dX9_closes_20 rfl (by decide) (Or.inl rfl) ?_
    exact hQ (hmB_ne c1) t1 r1 I1 L1 er1 gs1 gt1 hA1
  · refine Ex_aload_n 10 (i := 0) dX9_closes_9 rfl rfl rfl ?_
    refine Ex_iconst 11 (v := 1) dX9_closes_10 (by decide) rfl ?_
    refine Ex_callV (M' := MX9_fails) 14 [.int 1] (rest := []) dX9_closes_11 lX9_193 mX9_fails rfl (xMs_0 hm) rfl (Nat.le_of_ble_eq_true rfl) (Nat.le_of_ble_eq_true rfl) rfl ?_
    refine mc_fails (k := 1) hm hA ?_
    simp only [Option.toList, List.nil_append, List.cons_append]
    refine Ex_iret dX9_closes_14 rfl (by decide) (Or.inl rfl) ?_
    exact hF (hmB_eq c1)
theorem hmWith_N {v lo hi : Nat} (hv : v < 2 ^ 31) (hlo : lo < 2 ^ 31) (hhi : hi < 2 ^ 31) : (hmWith (nI v) (nI lo) (nI hi) = true ↔ lo ≤ v ∧ v ≤ hi) := by
  unfold hmWith
  rw [decide_eq_true_eq, nI_ltI hv hlo, nI_ltI hhi hv]
  omega
set_option maxHeartbeats 4000000 in
theorem mc_needsNumber {d : Nat} {sh : xSh} {R : xR} {L : xL} {I : xI} {Q : xQ} {m : Nat} {T : List Nat} {t : hmTok} {r : List hmTok} (hm : xModel sh R m) (hA : hmAm I L m T t r) (hc : ∀ x, x ∈ T → x < 127) {lo hi : Nat} (hlo : lo < 10000) (hhi : hi < 10000) (hF1 : ¬ t.1 = 3 → Q (some (.int 0)) 0 sh R L (va_up I m (va_up (I m) 9 (nI (hmFl 1 t))))) (hF4 : t.1 = 3 → (hmDec t.2.1 < lo ∨ hi < hmDec t.2.1) → Q (some (.int 0)) 0 sh R L (va_up I m (va_up (I m) 9 (nI (hmFl 4 t))))) (hQ : t.1 = 3 → lo ≤ hmDec t.2.1 → hmDec t.2.1 ≤ hi → ∀ t' r' I' L', r = t' :: r' → ((∀ x, x ≠ m → I' x = I x) ∧ ∀ k, k ≠ 4 → k ≠ 5 → k ≠ 6 → k ≠ 8 → k ≠ 33 → I' m k = I m k) → I' m 33 = nI (hmDec t.2.1) → hmNl m L L' → hmAm I' L' m T t' r' → Q (some (.int 1)) 0 sh R L' I') : Ex (d + 2) 0 0 MX9_needsNumber 0 sh R L I 0 [some (.ref m), some (.int (nI lo)), some (.int (nI hi))] [] Q := by
  have k4 := hA.sk.2.2.2
  have q1 := hA.tk (n := 1) (k := 2) (by decide) rfl (hmTcd_1 k4)
  have q2 := hA.tk (n := 2) (k := 3) (by decide) rfl (hmTcd_2 k4)
  have q3 := hA.tk (n := 3) (k := 4) (by decide) rfl (hmTcd_3 k4)
  refine Ex_aload_n 1 (i := 0) dX9_needsNumber_0 rfl rfl rfl ?_
  refine Ex_gI 4 (I m 6) dX9_needsNumber_1 fX9_154 (xMs_0 hm) rfl rfl rfl ?_
  refine Ex_iconst 5 (v := 2) dX9_needsNumber_4 (by decide) rfl ?_
  refine Ex_icmp_eq 8 14 dX9_needsNumber_5 (by decide) rfl (fun c1 => ?_) (fun c1 => ?_)
  · have t3 := q2.mp c1
    have hv := hA.2.2.2.2.1 t3
    have hd4 := hA.sk.2.1 t3
    refine Ex_aload_n 15 (i := 0) dX9_needsNumber_14 rfl rfl rfl ?_
    refine Ex_gI 18 (I m 8) dX9_needsNumber_15 fX9_151 (xMs_0 hm) rfl rfl rfl ?_
    rw [hv]
    refine Ex_iload_n 19 (i := 1) dX9_needsNumber_18 rfl rfl rfl ?_
    refine Ex_iload_n 20 (i := 2) dX9_needsNumber_19 rfl rfl rfl ?_
    refine Ex_callS (M' := MX9_within) 23 [.int (nI (hmDec t.2.1)), .int (nI lo), .int (nI hi)] (rest := []) dX9_needsNumber_20 lX9_244 mX9_within rfl rfl (Nat.le_of_ble_eq_true rfl) (Nat.le_of_ble_eq_true rfl) rfl ?_
    refine mc_within ?_
    simp only [Option.toList, List.cons_append, List.nil_append]
    refine Ex_if_ne 26 32 dX9_needsNumber_23 (by decide) rfl (fun c2 => ?_) (fun c2 => ?_)
    · refine Ex_aload_n 33 (i := 0) dX9_needsNumber_32 rfl rfl rfl ?_
      refine Ex_aload_n 34 (i := 0) dX9_needsNumber_33 rfl rfl rfl ?_
      refine Ex_gI 37 (I m 8) dX9_needsNumber_34 fX9_151 (xMs_0 hm) rfl rfl rfl ?_
      rw [hv]
      refine Ex_pI 40 (I m) (va_up I m (va_up (I m) 33 (nI (hmDec t.2.1)))) dX9_needsNumber_37 fX9_248 rfl (xMs_0 hm) rfl (fun _ => rfl) rfl rfl rfl rfl ?_
      have hA2 : hmAm (va_up I m (va_up (I m) 33 (nI (hmDec t.2.1)))) L m T t r := hA.kept (fun k hk => by rw [va_up_self, va_up_ne _ _ (by omega)]) (va_up_ne _ _ (by omega)) rfl
      refine Ex_aload_n 41 (i := 0) dX9_needsNumber_40 rfl rfl rfl ?_
      refine Ex_callV (M' := MX9_nextToken) 44 [] (rest := []) dX9_needsNumber_41 lX9_200 mX9_nextToken rfl (xMs_0 hm) rfl (Nat.le_of_ble_eq_true rfl) (Nat.le_of_ble_eq_true rfl) rfl ?_
      refine mc_nxt hm hA2 hc (by omega) (fun t1 r1 I1 L1 er1 gs1 gt1 hA1 => ?_)
      simp only [Option.toList, List.nil_append, List.cons_append]
      refine Ex_iconst 45 (v := 1) dX9_needsNumber_44 (by decide) rfl ?_
      refine Ex_iret dX9_needsNumber_45 rfl (by decide) (Or.inl rfl) ?_
      have h := (hmWith_N (by omega) (by omega) (by omega)).mp (hmB_ne c2)
      exact hQ t3 h.1 h.2 t1 r1 I1 L1 er1 ⟨fun x p => by rw [gs1.1 x p, va_up_ne _ _ p], fun k p1 p2 p3 p4 p5 => by rw [gs1.2 k p1 p2 p3 p4, va_up_self, va_up_ne _ _ p5]⟩ (by rw [gs1.2 33 (by omega) (by omega) (by omega) (by omega), va_up_self, va_up_self]) gt1 hA1
    · refine Ex_aload_n 27 (i := 0) dX9_needsNumber_26 rfl rfl rfl ?_
      refine Ex_iconst 28 (v := 4) dX9_needsNumber_27 (by decide) rfl ?_
      refine Ex_callV (M' := MX9_fails) 31 [.int 4] (rest := []) dX9_needsNumber_28 lX9_193 mX9_fails rfl (xMs_0 hm) rfl (Nat.le_of_ble_eq_true rfl) (Nat.le_of_ble_eq_true rfl) rfl ?_
      refine mc_fails (k := 4) hm hA ?_
      simp only [Option.toList, List.nil_append, List.cons_append]
      refine Ex_iret dX9_needsNumber_31 rfl (by decide) (Or.inl rfl) ?_
      refine hF4 t3 ?_
      have h := hmB_eq c2
      have h2 : ¬ (lo ≤ hmDec t.2.1 ∧ hmDec t.2.1 ≤ hi) := fun q => by rw [(hmWith_N (by omega) (by omega) (by omega)).mpr q] at h; exact absurd h (by decide)
      omega
  · refine Ex_aload_n 9 (i := 0) dX9_needsNumber_8 rfl rfl rfl ?_
    refine Ex_iconst 10 (v := 1) dX9_needsNumber_9 (by decide) rfl ?_
    refine Ex_callV (M' := MX9_fails) 13 [.int 1] (rest := []) dX9_needsNumber_10 lX9_193 mX9_fails rfl (xMs_0 hm) rfl (Nat.le_of_ble_eq_true rfl) (Nat.le_of_ble_eq_true rfl) rfl ?_
    refine mc_fails (k := 1) hm hA ?_
    simp only [Option.toList, List.nil_append, List.cons_append]
    refine Ex_iret dX9_needsNumber_13 rfl (by decide) (Or.inl rfl) ?_
    exact hF1 (fun q => c1 (q2.mpr q))
