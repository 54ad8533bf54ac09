set_option maxHeartbeats 4000000 in
theorem mc_reads_loop {d : Nat} {sh : xSh} {R : xR} {L : xL} {I : xI} {Q : xQ} {m : Nat} {T : List Nat} (hm : xModel sh R m) (hc : ∀ x, x ∈ T → x < 127) {ts : List hmTok} (hF : ∀ F I' L', (hmLm ts true [(0, false)] []) = .inl F → 1 ≤ F → F < 20000 → hmRf m I I' → hmNl m L L' → I' m 9 = nI F → Q (some (.int 0)) 0 sh R L' I') (hQ : ∀ cd t' r' I' L', (hmLm ts true [(0, false)] []) = .inr (cd, t' :: r') → hmRf m I I' → hmNl m L L' → hmCd I' m cd → hmAm I' L' m T t' r' → Q (some (.int 1)) 0 sh R L' I') : ∀ (n : Nat) (t : hmTok) (r : List hmTok) (lv : hmLv) (cs : List Int32) (w : Bool) (J : xI) (LL : xL) (dp : Nat), (t :: r).length ≤ n → cs.length + (t :: r).length ≤ 1001 → lv.length = dp + 1 → hmLk lv → lv.length ≤ 6 → (hmLm ts true [(0, false)] []) = hmLm (t :: r) w lv cs → hmRf m I J → hmNl m L LL → hmOp J m lv → hmCd J m cs → hmAm J LL m T t r → Ex (d + 2) 0 0 MX9_reads 0 sh R LL J 11 [some (.ref m), some (.int (nI dp)), some (.int (hmB w)), none, none, none] [] Q := by
  intro n
  induction n with
  | zero =>
    intro t r lv cs w J LL dp hn
    simp at hn
  | succ n ih =>
    intro t r lv cs w J LL dp hn hb hl hlk hl6 he gJ gL ho hcd hA
    have sk := hA.sk
    have hk4 := sk.2.2.2
    have hq2 := hA.tk (n := 2) (k := 3) (by decide) rfl (hmTcd_2 hk4)
    have k5 := hm_kS (t := t) sk (c := 43) (k := 5) (by decide) (by decide)
    have k6 := hm_kS (t := t) sk (c := 45) (k := 6) (by decide) (by decide)
    have k7 := hm_kS (t := t) sk (c := 42) (k := 7) (by decide) (by decide)
    have k8 := hm_kS (t := t) sk (c := 60) (k := 8) (by decide) (by decide)
    have k9 := hm_kS (t := t) sk (c := 61) (k := 9) (by decide) (by decide)
    have k10 := hm_kW (t := t) sk (l := wAnd) (k := 10) (by decide) (by decide)
    have k11 := hm_kW (t := t) sk (l := wOr) (k := 11) (by decide) (by decide)
    have k3 := hm_kS (t := t) sk (c := 41) (k := 3) (by decide) (by decide)
    have k4 := hm_kS (t := t) sk (c := 59) (k := 4) (by decide) (by decide)
    have k2 := hm_kS (t := t) sk (c := 40) (k := 2) (by decide) (by decide)
    have k1 := hm_kW (t := t) sk (l := wNot) (k := 1) (by decide) (by decide)
    have hr0 : ¬ t.1 = 0 → 2 ≤ (t :: r).length := fun q => by
      obtain ⟨t', r', _, e, _, _⟩ := hmAm_next hA q
      rw [e]
      simp
    cases lv with
    | nil => exact absurd hlk id
    | cons hd lr =>
      obtain ⟨x, c⟩ := hd
      have hdp : dp = lr.length := by rw [List.length_cons] at hl; omega
      subst hdp
      rw [List.length_cons] at hl6
      have hcmp := ho.1
      cases w with
      | false =>
        refine Ex_l (ls' := [some (.ref m), some (.int (nI lr.length)), some (.int 0), none, none, none]) rfl ?_
        by_cases n5 : hmKd t = 5
        · have hk := n5
          have eS : hmLm (t :: r) false ((x, c) :: lr) cs = hmLm r true ((x, c) :: lr) (cs ++ [20]) := by rw [hm_step_op (by omega), hk]; rfl
          have ht0 : ¬ t.1 = 0 := fun q => by rw [hm_k0 q] at hk; omega
          have hr2 := hr0 ht0
          have e5 : (hmB (hmIsS t 43)) = 1 := by rw [k5, hmB_1]; exact decide_eq_true (by omega)
          have e6 : (hmB (hmIsS t 45)) = 0 := by rw [k6, hmB_0]; exact decide_eq_false (by omega)
          have e7 : (hmB (hmIsS t 42)) = 0 := by rw [k7, hmB_0]; exact decide_eq_false (by omega)
          have e8 : (hmB (hmIsS t 60)) = 0 := by rw [k8, hmB_0]; exact decide_eq_false (by omega)
          have e9 : (hmB (hmIsS t 61)) = 0 := by rw [k9, hmB_0]; exact decide_eq_false (by omega)
          have e10 : (hmB (hmIsW t wAnd)) = 0 := by rw [k10, hmB_0]; exact decide_eq_false (by omega)
          have e11 : (hmB (hmIsW t wOr)) = 0 := by rw [k11, hmB_0]; exact decide_eq_false (by omega)
          have e3 : (hmB (hmIsS t 41)) = 0 := by rw [k3, hmB_0]; exact decide_eq_false (by omega)
          have e4 : (hmB (hmIsS t 59)) = 0 := by rw [k4, hmB_0]; exact decide_eq_false (by omega)
          refine Ex_iload_n 12 (i := 2) dX9_reads_11 rfl rfl rfl ?_
          refine Ex_if_eq 15 179 dX9_reads_12 (by decide) rfl (fun c1 => ?_) (fun c1 => absurd c1 (fun q => q (by decide)))
          refine Ex_aload_n 180 (i := 0) dX9_reads_179 rfl rfl rfl ?_
          refine Ex_bipush 182 (v := 43) dX9_reads_180 (by decide) rfl ?_
          refine Ex_callV (M' := MX9_isSign) 185 [.int 43] (rest := []) dX9_reads_182 lX9_189 mX9_isSign rfl (xMs_0 hm) rfl (Nat.le_of_ble_eq_true rfl) (Nat.le_of_ble_eq_true rfl) rfl ?_
          refine mc_isSign hm hA (c := 43) (by decide) ?_
          simp only [Option.toList, List.cons_append, List.nil_append]
          rw [e5]
          refine Ex_if_ne 188 206 dX9_reads_185 (by decide) rfl (fun c2 => ?_) (fun c2 => absurd c2 (by decide))
          refine Ex_aload_n 207 (i := 0) dX9_reads_206 rfl rfl rfl ?_
          refine Ex_aload_n 208 (i := 0) dX9_reads_207 rfl rfl rfl ?_
          refine Ex_bipush 210 (v := 43) dX9_reads_208 (by decide) rfl ?_
          refine Ex_callV (M' := MX9_isSign) 213 [.int 43] (rest := [.ref m]) dX9_reads_210 lX9_189 mX9_isSign rfl (xMs_0 hm) rfl (Nat.le_of_ble_eq_true rfl) (Nat.le_of_ble_eq_true rfl) rfl ?_
          refine mc_isSign hm hA (c := 43) (by decide) ?_
          simp only [Option.toList, List.cons_append, List.nil_append]
          rw [e5]
          refine Ex_if_eq 216 221 dX9_reads_213 (by decide) rfl (fun c3 => absurd c3 (by decide)) (fun c3 => ?_)
          refine Ex_bipush 218 (v := 20) dX9_reads_216 (by decide) rfl ?_
          refine Ex_goto 237 dX9_reads_218 (by decide) ?_
          refine Ex_callV (M' := MX9_puts) 240 [.int 20] (rest := []) dX9_reads_237 lX9_196 mX9_puts rfl (xMs_0 hm) rfl (Nat.le_of_ble_eq_true rfl) (Nat.le_of_ble_eq_true rfl) rfl ?_
          refine mc_puts (k := 1000 + cs.length) hm hcd.1 (by omega) ?_
          simp only [Option.toList, List.nil_append, List.cons_append]
          refine Ex_iconst 241 (v := 1) dX9_reads_240 (by decide) rfl ?_
          refine Ex_istore_n 242 (i := 2) (ls' := [some (.ref m), some (.int (nI lr.length)), some (.int 1), none, none, none]) dX9_reads_241 rfl (Nat.le_of_ble_eq_true rfl) rfl rfl rfl ?_
          refine Ex_goto 424 dX9_reads_242 (by decide) ?_
          refine Ex_aload_n 425 (i := 0) dX9_reads_424 rfl rfl rfl ?_
          refine Ex_callV (M' := MX9_nextToken) 428 [] (rest := []) dX9_reads_425 lX9_200 mX9_nextToken rfl (xMs_0 hm) rfl (Nat.le_of_ble_eq_true rfl) (Nat.le_of_ble_eq_true rfl) rfl ?_
          have hAx : hmAm (va_up (va_up J (m + 10) (va_up (J (m + 10)) (1000 + cs.length) 20)) m (va_up (J m) 19 (nI (1000 + cs.length + 1)))) LL m T t r := hA.kept (fun k hk => by rw [va_up_self, va_up_ne _ _ (by omega)]) (by rw [va_up_ne _ _ (by omega), va_up_ne _ _ (by omega)]) rfl
          refine mc_nxt hm hAx hc ht0 (fun t1 r1 I1 L1 er1 gs1 gt1 hA1 => ?_)
          simp only [Option.toList, List.nil_append, List.cons_append]
          refine Ex_goto 11 dX9_reads_428 (by decide) ?_
          refine Ex_fgt (ls' := [some (.ref m), some (.int (nI lr.length)), some (.int 1), none, none, none]) (by simp [xsub]) ?_
          have gM : hmRf m I (va_up (va_up J (m + 10) (va_up (J (m + 10)) (1000 + cs.length) 20)) m (va_up (J m) 19 (nI (1000 + cs.length + 1)))) := by
            have z0 := gJ.tr (hmRf.pt (m := m) (k := 1000 + cs.length) (I := J) (x := 20) (v := nI (1000 + cs.length + 1)) (by omega))
            exact z0
          have eL : (hmLm ts true [(0, false)] []) = hmLm (t1 :: r1) true ((x, c) :: lr) (cs ++ [20]) := by rw [he, eS, er1]
          have hcd1 : hmCd I1 m (cs ++ [20]) := (hcd.put (x := 20)).kept (by rw [gs1.2 19 (by omega) (by omega) (by omega) (by omega)]) (by rw [gs1.1 (m + 10) (by omega)])
          rw [er1] at hn hb
          have zz : (t :: t1 :: r1).length = (t1 :: r1).length + 1 := rfl
          have zc : (cs ++ [20]).length = cs.length + 1 := by rw [List.length_append]; rfl
          exact ih t1 r1 ((x, c) :: lr) (cs ++ [20]) true I1 L1 lr.length (by omega) (by omega) (by rw [List.length_cons]) hlk (by rw [List.length_cons]; omega) eL (gM.tr (hmRf.nf gs1)) (gL.tr gt1) (hmOp.kept _ ho (fun k hk => by rw [gs1.1 (m + 11) (by omega), gs1.1 (m + 12) (by omega), va_up_ne _ _ (by omega), va_up_ne _ _ (by omega), va_up_ne _ _ (by omega), va_up_ne _ _ (by omega)]; exact ⟨rfl, rfl⟩)) hcd1 hA1
        by_cases n6 : hmKd t = 6
        · have hk := n6
          have eS : hmLm (t :: r) false ((x, c) :: lr) cs = hmLm r true ((x, c) :: lr) (cs ++ [21]) := by rw [hm_step_op (by omega), hk]; rfl
          have ht0 : ¬ t.1 = 0 := fun q => by rw [hm_k0 q] at hk; omega
          have hr2 := hr0 ht0
          have e5 : (hmB (hmIsS t 43)) = 0 := by rw [k5, hmB_0]; exact decide_eq_false (by omega)
          have e6 : (hmB (hmIsS t 45)) = 1 := by rw [k6, hmB_1]; exact decide_eq_true (by omega)
          have e7 : (hmB (hmIsS t 42)) = 0 := by rw [k7, hmB_0]; exact decide_eq_false (by omega)
          have e8 : (hmB (hmIsS t 60)) = 0 := by rw [k8, hmB_0]; exact decide_eq_false (by omega)
          have e9 : (hmB (hmIsS t 61)) = 0 := by rw [k9, hmB_0]; exact decide_eq_false (by omega)
          have e10 : (hmB (hmIsW t wAnd)) = 0 := by rw [k10, hmB_0]; exact decide_eq_false (by omega)
          have e11 : (hmB (hmIsW t wOr)) = 0 := by rw [k11, hmB_0]; exact decide_eq_false (by omega)
          have e3 : (hmB (hmIsS t 41)) = 0 := by rw [k3, hmB_0]; exact decide_eq_false (by omega)
          have e4 : (hmB (hmIsS t 59)) = 0 := by rw [k4, hmB_0]; exact decide_eq_false (by omega)
          refine Ex_iload_n 12 (i := 2) dX9_reads_11 rfl rfl rfl ?_
          refine Ex_if_eq 15 179 dX9_reads_12 (by decide) rfl (fun c1 => ?_) (fun c1 => absurd c1 (fun q => q (by decide)))
          refine Ex_aload_n 180 (i := 0) dX9_reads_179 rfl rfl rfl ?_
          refine Ex_bipush 182 (v := 43) dX9_reads_180 (by decide) rfl ?_
          refine Ex_callV (M' := MX9_isSign) 185 [.int 43] (rest := []) dX9_reads_182 lX9_189 mX9_isSign rfl (xMs_0 hm) rfl (Nat.le_of_ble_eq_true rfl) (Nat.le_of_ble_eq_true rfl) rfl ?_
          refine mc_isSign hm hA (c := 43) (by decide) ?_
          simp only [Option.toList, List.cons_append, List.nil_append]
          rw [e5]
          refine Ex_if_ne 188 206 dX9_reads_185 (by decide) rfl (fun c2 => absurd c2 (fun q => q (by decide))) (fun c2 => ?_)
          refine Ex_aload_n 189 (i := 0) dX9_reads_188 rfl rfl rfl ?_
          refine Ex_bipush 191 (v := 45) dX9_reads_189 (by decide) rfl ?_
          refine Ex_callV (M' := MX9_isSign) 194 [.int 45] (rest := []) dX9_reads_191 lX9_189 mX9_isSign rfl (xMs_0 hm) rfl (Nat.le_of_ble_eq_true rfl) (Nat.le_of_ble_eq_true rfl) rfl ?_
          refine mc_isSign hm hA (c := 45) (by decide) ?_
          simp only [Option.toList, List.cons_append, List.nil_append]
          rw [e6]
          refine Ex_if_ne 197 206 dX9_reads_194 (by decide) rfl (fun c3 => ?_) (fun c3 => absurd c3 (by decide))
          refine Ex_aload_n 207 (i := 0) dX9_reads_206 rfl rfl rfl ?_
          refine Ex_aload_n 208 (i := 0) dX9_reads_207 rfl rfl rfl ?_
          refine Ex_bipush 210 (v := 43) dX9_reads_208 (by decide) rfl ?_
          refine Ex_callV (M' := MX9_isSign) 213 [.int 43] (rest := [.ref m]) dX9_reads_210 lX9_189 mX9_isSign rfl (xMs_0 hm) rfl (Nat.le_of_ble_eq_true rfl) (Nat.le_of_ble_eq_true rfl) rfl ?_
          refine mc_isSign hm hA (c := 43) (by decide) ?_
          simp only [Option.toList, List.cons_append, List.nil_append]
          rw [e5]
          refine Ex_if_eq 216 221 dX9_reads_213 (by decide) rfl (fun c4 => ?_) (fun c4 => absurd c4 (fun q => q (by decide)))
          refine Ex_aload_n 222 (i := 0) dX9_reads_221 rfl rfl rfl ?_
          refine Ex_bipush 224 (v := 45) dX9_reads_222 (by decide) rfl ?_
          refine Ex_callV (M' := MX9_isSign) 227 [.int 45] (rest := [.ref m]) dX9_reads_224 lX9_189 mX9_isSign rfl (xMs_0 hm) rfl (Nat.le_of_ble_eq_true rfl) (Nat.le_of_ble_eq_true rfl) rfl ?_
          refine mc_isSign hm hA (c := 45) (by decide) ?_
          simp only [Option.toList, List.cons_append, List.nil_append]
          rw [e6]
          refine Ex_if_eq 230 235 dX9_reads_227 (by decide) rfl (fun c5 => absurd c5 (by decide)) (fun c5 => ?_)
          refine Ex_bipush 232 (v := 21) dX9_reads_230 (by decide) rfl ?_
          refine Ex_goto 237 dX9_reads_232 (by decide) ?_
          refine Ex_callV (M' := MX9_puts) 240 [.int 21] (rest := []) dX9_reads_237 lX9_196 mX9_puts rfl (xMs_0 hm) rfl (Nat.le_of_ble_eq_true rfl) (Nat.le_of_ble_eq_true rfl) rfl ?_
          refine mc_puts (k := 1000 + cs.length) hm hcd.1 (by omega) ?_
          simp only [Option.toList, List.nil_append, List.cons_append]
          refine Ex_iconst 241 (v := 1) dX9_reads_240 (by decide) rfl ?_
          refine Ex_istore_n 242 (i := 2) (ls' := [some (.ref m), some (.int (nI lr.length)), some (.int 1), none, none, none]) dX9_reads_241 rfl (Nat.le_of_ble_eq_true rfl) rfl rfl rfl ?_
          refine Ex_goto 424 dX9_reads_242 (by decide) ?_
          refine Ex_aload_n 425 (i := 0) dX9_reads_424 rfl rfl rfl ?_
          refine Ex_callV (M' := MX9_nextToken) 428 [] (rest := []) dX9_reads_425 lX9_200 mX9_nextToken rfl (xMs_0 hm) rfl (Nat.le_of_ble_eq_true rfl) (Nat.le_of_ble_eq_true rfl) rfl ?_
          have hAx : hmAm (va_up (va_up J (m + 10) (va_up (J (m + 10)) (1000 + cs.length) 21)) m (va_up (J m) 19 (nI (1000 + cs.length + 1)))) LL m T t r := hA.kept (fun k hk => by rw [va_up_self, va_up_ne _ _ (by omega)]) (by rw [va_up_ne _ _ (by omega), va_up_ne _ _ (by omega)]) rfl
          refine mc_nxt hm hAx hc ht0 (fun t1 r1 I1 L1 er1 gs1 gt1 hA1 => ?_)
          simp only [Option.toList, List.nil_append, List.cons_append]
          refine Ex_goto 11 dX9_reads_428 (by decide) ?_
          refine Ex_fgt (ls' := [some (.ref m), some (.int (nI lr.length)), some (.int 1), none, none, none]) (by simp [xsub]) ?_
          have gM : hmRf m I (va_up (va_up J (m + 10) (va_up (J (m + 10)) (1000 + cs.length) 21)) m (va_up (J m) 19 (nI (1000 + cs.length + 1)))) := by
            have z0 := gJ.tr (hmRf.pt (m := m) (k := 1000 + cs.length) (I := J) (x := 21) (v := nI (1000 + cs.length + 1)) (by omega))
            exact z0
          have eL : (hmLm ts true [(0, false)] []) = hmLm (t1 :: r1) true ((x, c) :: lr) (cs ++ [21]) := by rw [he, eS, er1]
          have hcd1 : hmCd I1 m (cs ++ [21]) := (hcd.put (x := 21)).kept (by rw [gs1.2 19 (by omega) (by omega) (by omega) (by omega)]) (by rw [gs1.1 (m + 10) (by omega)])
          rw [er1] at hn hb
          have zz : (t :: t1 :: r1).length = (t1 :: r1).length + 1 := rfl
          have zc : (cs ++ [21]).length = cs.length + 1 := by rw [List.length_append]; rfl
          exact ih t1 r1 ((x, c) :: lr) (cs ++ [21]) true I1 L1 lr.length (by omega) (by omega) (by rw [List.length_cons]) hlk (by rw [List.length_cons]; omega) eL (gM.tr (hmRf.nf gs1)) (gL.tr gt1) (hmOp.kept _ ho (fun k hk => by rw [gs1.1 (m + 11) (by omega), gs1.1 (m + 12) (by omega), va_up_ne _ _ (by omega), va_up_ne _ _ (by omega), va_up_ne _ _ (by omega), va_up_ne _ _ (by omega)]; exact ⟨rfl, rfl⟩)) hcd1 hA1
        by_cases n7 : hmKd t = 7
        · have hk := n7
          have eS : hmLm (t :: r) false ((x, c) :: lr) cs = hmLm r true ((x, c) :: lr) (cs ++ [22]) := by rw [hm_step_op (by omega), hk]; rfl
          have ht0 : ¬ t.1 = 0 := fun q => by rw [hm_k0 q] at hk; omega
          have hr2 := hr0 ht0
          have e5 : (hmB (hmIsS t 43)) = 0 := by rw [k5, hmB_0]; exact decide_eq_false (by omega)
          have e6 : (hmB (hmIsS t 45)) = 0 := by rw [k6, hmB_0]; exact decide_eq_false (by omega)
          have e7 : (hmB (hmIsS t 42)) = 1 := by rw [k7, hmB_1]; exact decide_eq_true (by omega)
          have e8 : (hmB (hmIsS t 60)) = 0 := by rw [k8, hmB_0]; exact decide_eq_false (by omega)
          have e9 : (hmB (hmIsS t 61)) = 0 := by rw [k9, hmB_0]; exact decide_eq_false (by omega)
          have e10 : (hmB (hmIsW t wAnd)) = 0 := by rw [k10, hmB_0]; exact decide_eq_false (by omega)
          have e11 : (hmB (hmIsW t wOr)) = 0 := by rw [k11, hmB_0]; exact decide_eq_false (by omega)
          have e3 : (hmB (hmIsS t 41)) = 0 := by rw [k3, hmB_0]; exact decide_eq_false (by omega)
          have e4 : (hmB (hmIsS t 59)) = 0 := by rw [k4, hmB_0]; exact decide_eq_false (by omega)
          refine Ex_iload_n 12 (i := 2) dX9_reads_11 rfl rfl rfl ?_
          refine Ex_if_eq 15 179 dX9_reads_12 (by decide) rfl (fun c1 => ?_) (fun c1 => absurd c1 (fun q => q (by decide)))
          refine Ex_aload_n 180 (i := 0) dX9_reads_179 rfl rfl rfl ?_
          refine Ex_bipush 182 (v := 43) dX9_reads_180 (by decide) rfl ?_
          refine Ex_callV (M' := MX9_isSign) 185 [.int 43] (rest := []) dX9_reads_182 lX9_189 mX9_isSign rfl (xMs_0 hm) rfl (Nat.le_of_ble_eq_true rfl) (Nat.le_of_ble_eq_true rfl) rfl ?_
          refine mc_isSign hm hA (c := 43) (by decide) ?_
          simp only [Option.toList, List.cons_append, List.nil_append]
          rw [e5]
          refine Ex_if_ne 188 206 dX9_reads_185 (by decide) rfl (fun c2 => absurd c2 (fun q => q (by decide))) (fun c2 => ?_)
          refine Ex_aload_n 189 (i := 0) dX9_reads_188 rfl rfl rfl ?_
          refine Ex_bipush 191 (v := 45) dX9_reads_189 (by decide) rfl ?_
          refine Ex_callV (M' := MX9_isSign) 194 [.int 45] (rest := []) dX9_reads_191 lX9_189 mX9_isSign rfl (xMs_0 hm) rfl (Nat.le_of_ble_eq_true rfl) (Nat.le_of_ble_eq_true rfl) rfl ?_
          refine mc_isSign hm hA (c := 45) (by decide) ?_
          simp only [Option.toList, List.cons_append, List.nil_append]
          rw [e6]
          refine Ex_if_ne 197 206 dX9_reads_194 (by decide) rfl (fun c3 => absurd c3 (fun q => q (by decide))) (fun c3 => ?_)
          refine Ex_aload_n 198 (i := 0) dX9_reads_197 rfl rfl rfl ?_
          refine Ex_bipush 200 (v := 42) dX9_reads_198 (by decide) rfl ?_
          refine Ex_callV (M' := MX9_isSign) 203 [.int 42] (rest := []) dX9_reads_200 lX9_189 mX9_isSign rfl (xMs_0 hm) rfl (Nat.le_of_ble_eq_true rfl) (Nat.le_of_ble_eq_true rfl) rfl ?_
          refine mc_isSign hm hA (c := 42) (by decide) ?_
          simp only [Option.toList, List.cons_append, List.nil_append]
          rw [e7]
          refine Ex_if_eq 206 245 dX9_reads_203 (by decide) rfl (fun c4 => absurd c4 (by decide)) (fun c4 => ?_)
          refine Ex_aload_n 207 (i := 0) dX9_reads_206 rfl rfl rfl ?_
          refine Ex_aload_n 208 (i := 0) dX9_reads_207 rfl rfl rfl ?_
          refine Ex_bipush 210 (v := 43) dX9_reads_208 (by decide) rfl ?_
          refine Ex_callV (M' := MX9_isSign) 213 [.int 43] (rest := [.ref m]) dX9_reads_210 lX9_189 mX9_isSign rfl (xMs_0 hm) rfl (Nat.le_of_ble_eq_true rfl) (Nat.le_of_ble_eq_true rfl) rfl ?_
          refine mc_isSign hm hA (c := 43) (by decide) ?_
          simp only [Option.toList, List.cons_append, List.nil_append]
          rw [e5]
          refine Ex_if_eq 216 221 dX9_reads_213 (by decide) rfl (fun c5 => ?_) (fun c5 => absurd c5 (fun q => q (by decide)))
          refine Ex_aload_n 222 (i := 0) dX9_reads_221 rfl rfl rfl ?_
          refine Ex_bipush 224 (v := 45) dX9_reads_222 (by decide) rfl ?_
          refine Ex_callV (M' := MX9_isSign) 227 [.int 45] (rest := [.ref m]) dX9_reads_224 lX9_189 mX9_isSign rfl (xMs_0 hm) rfl (Nat.le_of_ble_eq_true rfl) (Nat.le_of_ble_eq_true rfl) rfl ?_
          refine mc_isSign hm hA (c := 45) (by decide) ?_
          simp only [Option.toList, List.cons_append, List.nil_append]
          rw [e6]
          refine Ex_if_eq 230 235 dX9_reads_227 (by decide) rfl (fun c6 => ?_) (fun c6 => absurd c6 (fun q => q (by decide)))
          refine Ex_bipush 237 (v := 22) dX9_reads_235 (by decide) rfl ?_
          refine Ex_callV (M' := MX9_puts) 240 [.int 22] (rest := []) dX9_reads_237 lX9_196 mX9_puts rfl (xMs_0 hm) rfl (Nat.le_of_ble_eq_true rfl) (Nat.le_of_ble_eq_true rfl) rfl ?_
          refine mc_puts (k := 1000 + cs.length) hm hcd.1 (by omega) ?_
          simp only [Option.toList, List.nil_append, List.cons_append]
          refine Ex_iconst 241 (v := 1) dX9_reads_240 (by decide) rfl ?_
          refine Ex_istore_n 242 (i := 2) (ls' := [some (.ref m), some (.int (nI lr.length)), some (.int 1), none, none, none]) dX9_reads_241 rfl (Nat.le_of_ble_eq_true rfl) rfl rfl rfl ?_
          refine Ex_goto 424 dX9_reads_242 (by decide) ?_
          refine Ex_aload_n 425 (i := 0) dX9_reads_424 rfl rfl rfl ?_
          refine Ex_callV (M' := MX9_nextToken) 428 [] (rest := []) dX9_reads_425 lX9_200 mX9_nextToken rfl (xMs_0 hm) rfl (Nat.le_of_ble_eq_true rfl) (Nat.le_of_ble_eq_true rfl) rfl ?_
          have hAx : hmAm (va_up (va_up J (m + 10) (va_up (J (m + 10)) (1000 + cs.length) 22)) m (va_up (J m) 19 (nI (1000 + cs.length + 1)))) LL m T t r := hA.kept (fun k hk => by rw [va_up_self, va_up_ne _ _ (by omega)]) (by rw [va_up_ne _ _ (by omega), va_up_ne _ _ (by omega)]) rfl
          refine mc_nxt hm hAx hc ht0 (fun t1 r1 I1 L1 er1 gs1 gt1 hA1 => ?_)
          simp only [Option.toList, List.nil_append, List.cons_append]
          refine Ex_goto 11 dX9_reads_428 (by decide) ?_
          refine Ex_fgt (ls' := [some (.ref m), some (.int (nI lr.length)), some (.int 1), none, none, none]) (by simp [xsub]) ?_
          have gM : hmRf m I (va_up (va_up J (m + 10) (va_up (J (m + 10)) (1000 + cs.length) 22)) m (va_up (J m) 19 (nI (1000 + cs.length + 1)))) := by
            have z0 := gJ.tr (hmRf.pt (m := m) (k := 1000 + cs.length) (I := J) (x := 22) (v := nI (1000 + cs.length + 1)) (by omega))
            exact z0
          have eL : (hmLm ts true [(0, false)] []) = hmLm (t1 :: r1) true ((x, c) :: lr) (cs ++ [22]) := by rw [he, eS, er1]
          have hcd1 : hmCd I1 m (cs ++ [22]) := (hcd.put (x := 22)).kept (by rw [gs1.2 19 (by omega) (by omega) (by omega) (by omega)]) (by rw [gs1.1 (m + 10) (by omega)])
          rw [er1] at hn hb
          have zz : (t :: t1 :: r1).length = (t1 :: r1).length + 1 := rfl
          have zc : (cs ++ [22]).length = cs.length + 1 := by rw [List.length_append]; rfl
          exact ih t1 r1 ((x, c) :: lr) (cs ++ [22]) true I1 L1 lr.length (by omega) (by omega) (by rw [List.length_cons]) hlk (by rw [List.length_cons]; omega) eL (gM.tr (hmRf.nf gs1)) (gL.tr gt1) (hmOp.kept _ ho (fun k hk => by rw [gs1.1 (m + 11) (by omega), gs1.1 (m + 12) (by omega), va_up_ne _ _ (by omega), va_up_ne _ _ (by omega), va_up_ne _ _ (by omega), va_up_ne _ _ (by omega)]; exact ⟨rfl, rfl⟩)) hcd1 hA1
        by_cases n8 : hmKd t = 8
        · have hk := n8
          cases c with
          | false =>
            have eS : hmLm (t :: r) false ((x, false) :: lr) cs = hmLm r true ((x, true) :: lr) (cs ++ [24]) := by rw [hm_step_cmp (by omega) rfl, hk]; rfl
            have ht0 : ¬ t.1 = 0 := fun q => by rw [hm_k0 q] at hk; omega
            have hr2 := hr0 ht0
            have e5 : (hmB (hmIsS t 43)) = 0 := by rw [k5, hmB_0]; exact decide_eq_false (by omega)
            have e6 : (hmB (hmIsS t 45)) = 0 := by rw [k6, hmB_0]; exact decide_eq_false (by omega)
            have e7 : (hmB (hmIsS t 42)) = 0 := by rw [k7, hmB_0]; exact decide_eq_false (by omega)
            have e8 : (hmB (hmIsS t 60)) = 1 := by rw [k8, hmB_1]; exact decide_eq_true (by omega)
            have e9 : (hmB (hmIsS t 61)) = 0 := by rw [k9, hmB_0]; exact decide_eq_false (by omega)
            have e10 : (hmB (hmIsW t wAnd)) = 0 := by rw [k10, hmB_0]; exact decide_eq_false (by omega)
            have e11 : (hmB (hmIsW t wOr)) = 0 := by rw [k11, hmB_0]; exact decide_eq_false (by omega)
            have e3 : (hmB (hmIsS t 41)) = 0 := by rw [k3, hmB_0]; exact decide_eq_false (by omega)
            have e4 : (hmB (hmIsS t 59)) = 0 := by rw [k4, hmB_0]; exact decide_eq_false (by omega)
            refine Ex_iload_n 12 (i := 2) dX9_reads_11 rfl rfl rfl ?_
            refine Ex_if_eq 15 179 dX9_reads_12 (by decide) rfl (fun c1 => ?_) (fun c1 => absurd c1 (fun q => q (by decide)))
            refine Ex_aload_n 180 (i := 0) dX9_reads_179 rfl rfl rfl ?_
            refine Ex_bipush 182 (v := 43) dX9_reads_180 (by decide) rfl ?_
            refine Ex_callV (M' := MX9_isSign) 185 [.int 43] (rest := []) dX9_reads_182 lX9_189 mX9_isSign rfl (xMs_0 hm) rfl (Nat.le_of_ble_eq_true rfl) (Nat.le_of_ble_eq_true rfl) rfl ?_
            refine mc_isSign hm hA (c := 43) (by decide) ?_
            simp only [Option.toList, List.cons_append, List.nil_append]
            rw [e5]
            refine Ex_if_ne 188 206 dX9_reads_185 (by decide) rfl (fun c2 => absurd c2 (fun q => q (by decide))) (fun c2 => ?_)
            refine Ex_aload_n 189 (i := 0) dX9_reads_188 rfl rfl rfl ?_
            refine Ex_bipush 191 (v := 45) dX9_reads_189 (by decide) rfl ?_
            refine Ex_callV (M' := MX9_isSign) 194 [.int 45] (rest := []) dX9_reads_191 lX9_189 mX9_isSign rfl (xMs_0 hm) rfl (Nat.le_of_ble_eq_true rfl) (Nat.le_of_ble_eq_true rfl) rfl ?_
            refine mc_isSign hm hA (c := 45) (by decide) ?_
            simp only [Option.toList, List.cons_append, List.nil_append]
            rw [e6]
            refine Ex_if_ne 197 206 dX9_reads_194 (by decide) rfl (fun c3 => absurd c3 (fun q => q (by decide))) (fun c3 => ?_)
            refine Ex_aload_n 198 (i := 0) dX9_reads_197 rfl rfl rfl ?_
            refine Ex_bipush 200 (v := 42) dX9_reads_198 (by decide) rfl ?_
            refine Ex_callV (M' := MX9_isSign) 203 [.int 42] (rest := []) dX9_reads_200 lX9_189 mX9_isSign rfl (xMs_0 hm) rfl (Nat.le_of_ble_eq_true rfl) (Nat.le_of_ble_eq_true rfl) rfl ?_
            refine mc_isSign hm hA (c := 42) (by decide) ?_
            simp only [Option.toList, List.cons_append, List.nil_append]
            rw [e7]
            refine Ex_if_eq 206 245 dX9_reads_203 (by decide) rfl (fun c4 => ?_) (fun c4 => absurd c4 (fun q => q (by decide)))
            refine Ex_aload_n 246 (i := 0) dX9_reads_245 rfl rfl rfl ?_
            refine Ex_bipush 248 (v := 60) dX9_reads_246 (by decide) rfl ?_
            refine Ex_callV (M' := MX9_isSign) 251 [.int 60] (rest := []) dX9_reads_248 lX9_189 mX9_isSign rfl (xMs_0 hm) rfl (Nat.le_of_ble_eq_true rfl) (Nat.le_of_ble_eq_true rfl) rfl ?_
            refine mc_isSign hm hA (c := 60) (by decide) ?_
            simp only [Option.toList, List.cons_append, List.nil_append]
            rw [e8]
            refine Ex_if_ne 254 263 dX9_reads_251 (by decide) rfl (fun c5 => ?_) (fun c5 => absurd c5 (by decide))
            refine Ex_aload_n 264 (i := 0) dX9_reads_263 rfl rfl rfl ?_
            refine Ex_getR 267 dX9_reads_264 fX9_44 (xMs_0 hm) rfl (xMr_22 hm) rfl ?_
            refine Ex_iload_n 268 (i := 1) dX9_reads_267 rfl rfl rfl ?_
            refine Ex_aZ 269 lr.length (J (m + 12) lr.length) dX9_reads_268 (xMs_12 hm) rfl (by omega) (by decide) rfl rfl ?_
            rw [show J (m + 12) lr.length = 0 from hcmp]
            refine Ex_if_ne 272 304 dX9_reads_269 (by decide) rfl (fun c6 => absurd c6 (fun q => q (by decide))) (fun c6 => ?_)
            refine Ex_aload_n 273 (i := 0) dX9_reads_272 rfl rfl rfl ?_
            refine Ex_aload_n 274 (i := 0) dX9_reads_273 rfl rfl rfl ?_
            refine Ex_bipush 276 (v := 60) dX9_reads_274 (by decide) rfl ?_
            refine Ex_callV (M' := MX9_isSign) 279 [.int 60] (rest := [.ref m]) dX9_reads_276 lX9_189 mX9_isSign rfl (xMs_0 hm) rfl (Nat.le_of_ble_eq_true rfl) (Nat.le_of_ble_eq_true rfl) rfl ?_
            refine mc_isSign hm hA (c := 60) (by decide) ?_
            simp only [Option.toList, List.cons_append, List.nil_append]
            rw [e8]
            refine Ex_if_eq 282 287 dX9_reads_279 (by decide) rfl (fun c7 => absurd c7 (by decide)) (fun c7 => ?_)
            refine Ex_bipush 284 (v := 24) dX9_reads_282 (by decide) rfl ?_
            refine Ex_goto 289 dX9_reads_284 (by decide) ?_
            refine Ex_callV (M' := MX9_puts) 292 [.int 24] (rest := []) dX9_reads_289 lX9_196 mX9_puts rfl (xMs_0 hm) rfl (Nat.le_of_ble_eq_true rfl) (Nat.le_of_ble_eq_true rfl) rfl ?_
            refine mc_puts (k := 1000 + cs.length) hm hcd.1 (by omega) ?_
            simp only [Option.toList, List.nil_append, List.cons_append]
            refine Ex_aload_n 293 (i := 0) dX9_reads_292 rfl rfl rfl ?_
            refine Ex_getR 296 dX9_reads_293 fX9_44 (xMs_0 hm) rfl (xMr_22 hm) rfl ?_
            refine Ex_iload_n 297 (i := 1) dX9_reads_296 rfl rfl rfl ?_
            refine Ex_iconst 298 (v := 1) dX9_reads_297 (by decide) rfl ?_
            refine Ex_sZ 299 lr.length (J (m + 12)) (va_up (va_up (va_up J (m + 10) (va_up (J (m + 10)) (1000 + cs.length) 24)) m (va_up (J m) 19 (nI (1000 + cs.length + 1)))) (m + 12) (va_up (J (m + 12)) lr.length (vp_nar .boolean 1))) dX9_reads_298 (xMs_12 hm) rfl (by omega) (by decide) ((va_up_ne _ _ (by omega)).trans (va_up_ne _ _ (by omega))) rfl rfl ?_
            refine Ex_iconst 300 (v := 1) dX9_reads_299 (by decide) rfl ?_
            refine Ex_istore_n 301 (i := 2) (ls' := [some (.ref m), some (.int (nI lr.length)), some (.int 1), none, none, none]) dX9_reads_300 rfl (Nat.le_of_ble_eq_true rfl) rfl rfl rfl ?_
            refine Ex_goto 424 dX9_reads_301 (by decide) ?_
            refine Ex_aload_n 425 (i := 0) dX9_reads_424 rfl rfl rfl ?_
            refine Ex_callV (M' := MX9_nextToken) 428 [] (rest := []) dX9_reads_425 lX9_200 mX9_nextToken rfl (xMs_0 hm) rfl (Nat.le_of_ble_eq_true rfl) (Nat.le_of_ble_eq_true rfl) rfl ?_
            have hAx : hmAm (va_up (va_up (va_up J (m + 10) (va_up (J (m + 10)) (1000 + cs.length) 24)) m (va_up (J m) 19 (nI (1000 + cs.length + 1)))) (m + 12) (va_up (J (m + 12)) lr.length (vp_nar .boolean 1))) LL m T t r := hA.kept (fun k hk => by rw [va_up_ne _ _ (by omega), va_up_self, va_up_ne _ _ (by omega)]) (by rw [va_up_ne _ _ (by omega), va_up_ne _ _ (by omega), va_up_ne _ _ (by omega)]) rfl
            refine mc_nxt hm hAx hc ht0 (fun t1 r1 I1 L1 er1 gs1 gt1 hA1 => ?_)
            simp only [Option.toList, List.nil_append, List.cons_append]
            refine Ex_goto 11 dX9_reads_428 (by decide) ?_
            refine Ex_fgt (ls' := [some (.ref m), some (.int (nI lr.length)), some (.int 1), none, none, none]) (by simp [xsub]) ?_
            have gM : hmRf m I (va_up (va_up (va_up J (m + 10) (va_up (J (m + 10)) (1000 + cs.length) 24)) m (va_up (J m) 19 (nI (1000 + cs.length + 1)))) (m + 12) (va_up (J (m + 12)) lr.length (vp_nar .boolean 1))) := by
              have z0 := gJ.tr (hmRf.pt (m := m) (k := 1000 + cs.length) (I := J) (x := 24) (v := nI (1000 + cs.length + 1)) (by omega))
              have z1 := z0.tr (hmRf.lv (a := m + 12) (k := lr.length) (v := (vp_nar .boolean 1)) (Or.inr rfl))
              rw [va_up_ne _ _ (show m + 12 ≠ m by omega), va_up_ne _ _ (show m + 12 ≠ m + 10 by omega)] at z1
              exact z1
            have eL : (hmLm ts true [(0, false)] []) = hmLm (t1 :: r1) true ((x, true) :: lr) (cs ++ [24]) := by rw [he, eS, er1]
            have hcd1 : hmCd I1 m (cs ++ [24]) := (hcd.put (x := 24)).kept (by rw [gs1.2 19 (by omega) (by omega) (by omega) (by omega), va_up_ne _ _ (by omega)]) (by rw [gs1.1 (m + 10) (by omega), va_up_ne _ _ (by omega)])
            rw [er1] at hn hb
            have zz : (t :: t1 :: r1).length = (t1 :: r1).length + 1 := rfl
            have zc : (cs ++ [24]).length = cs.length + 1 := by rw [List.length_append]; rfl
            exact ih t1 r1 ((x, true) :: lr) (cs ++ [24]) true I1 L1 lr.length (by omega) (by omega) (by rw [List.length_cons]) hlk (by rw [List.length_cons]; omega) eL (gM.tr (hmRf.nf gs1)) (gL.tr gt1) ⟨by rw [gs1.1 (m + 12) (by omega), va_up_self, va_up_self]; rfl, fun q => by rw [gs1.1 (m + 11) (by omega), va_up_ne _ _ (by omega), va_up_ne _ _ (by omega), va_up_ne _ _ (by omega)]; exact ho.2.1 q, hmOp.kept _ ho.2.2 (fun k hk => by rw [gs1.1 (m + 11) (by omega), gs1.1 (m + 12) (by omega), va_up_ne _ _ (by omega), va_up_ne _ _ (by omega), va_up_ne _ _ (by omega), va_up_self, va_up_ne _ _ (by omega)]; exact ⟨rfl, rfl⟩)⟩ hcd1 hA1
          | true =>
            have eS : hmLm (t :: r) false ((x, true) :: lr) cs = .inl (hmFl 1 t) := by
              rw [hmLm_f, if_neg (by omega), if_neg (fun q => absurd (show true = false from q.2) (by decide)), if_neg (by omega), if_neg (fun q => by omega), if_neg (fun q => by omega)]
              rfl
            have ht0 : ¬ t.1 = 0 := fun q => by rw [hm_k0 q] at hk; omega
            have hr2 := hr0 ht0
            have e5 : (hmB (hmIsS t 43)) = 0 := by rw [k5, hmB_0]; exact decide_eq_false (by omega)
            have e6 : (hmB (hmIsS t 45)) = 0 := by rw [k6, hmB_0]; exact decide_eq_false (by omega)
            have e7 : (hmB (hmIsS t 42)) = 0 := by rw [k7, hmB_0]; exact decide_eq_false (by omega)
            have e8 : (hmB (hmIsS t 60)) = 1 := by rw [k8, hmB_1]; exact decide_eq_true (by omega)
            have e9 : (hmB (hmIsS t 61)) = 0 := by rw [k9, hmB_0]; exact decide_eq_false (by omega)
            have e10 : (hmB (hmIsW t wAnd)) = 0 := by rw [k10, hmB_0]; exact decide_eq_false (by omega)
            have e11 : (hmB (hmIsW t wOr)) = 0 := by rw [k11, hmB_0]; exact decide_eq_false (by omega)
            have e3 : (hmB (hmIsS t 41)) = 0 := by rw [k3, hmB_0]; exact decide_eq_false (by omega)
            have e4 : (hmB (hmIsS t 59)) = 0 := by rw [k4, hmB_0]; exact decide_eq_false (by omega)
            refine Ex_iload_n 12 (i := 2) dX9_reads_11 rfl rfl rfl ?_
            refine Ex_if_eq 15 179 dX9_reads_12 (by decide) rfl (fun c1 => ?_) (fun c1 => absurd c1 (fun q => q (by decide)))
            refine Ex_aload_n 180 (i := 0) dX9_reads_179 rfl rfl rfl ?_
            refine Ex_bipush 182 (v := 43) dX9_reads_180 (by decide) rfl ?_
            refine Ex_callV (M' := MX9_isSign) 185 [.int 43] (rest := []) dX9_reads_182 lX9_189 mX9_isSign rfl (xMs_0 hm) rfl (Nat.le_of_ble_eq_true rfl) (Nat.le_of_ble_eq_true rfl) rfl ?_
            refine mc_isSign hm hA (c := 43) (by decide) ?_
            simp only [Option.toList, List.cons_append, List.nil_append]
            rw [e5]
            refine Ex_if_ne 188 206 dX9_reads_185 (by decide) rfl (fun c2 => absurd c2 (fun q => q (by decide))) (fun c2 => ?_)
            refine Ex_aload_n 189 (i := 0) dX9_reads_188 rfl rfl rfl ?_
            refine Ex_bipush 191 (v := 45) dX9_reads_189 (by decide) rfl ?_
            refine Ex_callV (M' := MX9_isSign) 194 [.int 45] (rest := []) dX9_reads_191 lX9_189 mX9_isSign rfl (xMs_0 hm) rfl (Nat.le_of_ble_eq_true rfl) (Nat.le_of_ble_eq_true rfl) rfl ?_
            refine mc_isSign hm hA (c := 45) (by decide) ?_
            simp only [Option.toList, List.cons_append, List.nil_append]
            rw [e6]
            refine Ex_if_ne 197 206 dX9_reads_194 (by decide) rfl (fun c3 => absurd c3 (fun q => q (by decide))) (fun c3 => ?_)
            refine Ex_aload_n 198 (i := 0) dX9_reads_197 rfl rfl rfl ?_
            refine Ex_bipush 200 (v := 42) dX9_reads_198 (by decide) rfl ?_
            refine Ex_callV (M' := MX9_isSign) 203 [.int 42] (rest := []) dX9_reads_200 lX9_189 mX9_isSign rfl (xMs_0 hm) rfl (Nat.le_of_ble_eq_true rfl) (Nat.le_of_ble_eq_true rfl) rfl ?_
            refine mc_isSign hm hA (c := 42) (by decide) ?_
            simp only [Option.toList, List.cons_append, List.nil_append]
            rw [e7]
            refine Ex_if_eq 206 245 dX9_reads_203 (by decide) rfl (fun c4 => ?_) (fun c4 => absurd c4 (fun q => q (by decide)))
            refine Ex_aload_n 246 (i := 0) dX9_reads_245 rfl rfl rfl ?_
            refine Ex_bipush 248 (v := 60) dX9_reads_246 (by decide) rfl ?_
            refine Ex_callV (M' := MX9_isSign) 251 [.int 60] (rest := []) dX9_reads_248 lX9_189 mX9_isSign rfl (xMs_0 hm) rfl (Nat.le_of_ble_eq_true rfl) (Nat.le_of_ble_eq_true rfl) rfl ?_
            refine mc_isSign hm hA (c := 60) (by decide) ?_
            simp only [Option.toList, List.cons_append, List.nil_append]
            rw [e8]
            refine Ex_if_ne 254 263 dX9_reads_251 (by decide) rfl (fun c5 => ?_) (fun c5 => absurd c5 (by decide))
            refine Ex_aload_n 264 (i := 0) dX9_reads_263 rfl rfl rfl ?_
            refine Ex_getR 267 dX9_reads_264 fX9_44 (xMs_0 hm) rfl (xMr_22 hm) rfl ?_
            refine Ex_iload_n 268 (i := 1) dX9_reads_267 rfl rfl rfl ?_
            refine Ex_aZ 269 lr.length (J (m + 12) lr.length) dX9_reads_268 (xMs_12 hm) rfl (by omega) (by decide) rfl rfl ?_
            rw [show J (m + 12) lr.length = 1 from hcmp]
            refine Ex_if_ne 272 304 dX9_reads_269 (by decide) rfl (fun c6 => ?_) (fun c6 => absurd c6 (by decide))
            refine Ex_aload_n 305 (i := 0) dX9_reads_304 rfl rfl rfl ?_
            refine Ex_ldc2 308 (v := 1111) dX9_reads_305 kX9_203 rfl ?_
            refine Ex_callV (M' := MX9_isWord) 311 [.long 1111] (rest := []) dX9_reads_308 lX9_185 mX9_isWord rfl (xMs_0 hm) rfl (Nat.le_of_ble_eq_true rfl) (Nat.le_of_ble_eq_true rfl) rfl ?_
            refine mc_isWord hm hA (l := wAnd) (by decide +kernel) (by unfold hmWd; decide) ?_
            simp only [Option.toList, List.cons_append, List.nil_append]
            rw [e10]
            refine Ex_if_ne 314 324 dX9_reads_311 (by decide) rfl (fun c7 => absurd c7 (fun q => q (by decide))) (fun c7 => ?_)
            refine Ex_aload_n 315 (i := 0) dX9_reads_314 rfl rfl rfl ?_
            refine Ex_ldc2 318 (v := 423) dX9_reads_315 kX9_205 rfl ?_
            refine Ex_callV (M' := MX9_isWord) 321 [.long 423] (rest := []) dX9_reads_318 lX9_185 mX9_isWord rfl (xMs_0 hm) rfl (Nat.le_of_ble_eq_true rfl) (Nat.le_of_ble_eq_true rfl) rfl ?_
            refine mc_isWord hm hA (l := wOr) (by decide +kernel) (by unfold hmWd; decide) ?_
            simp only [Option.toList, List.cons_append, List.nil_append]
            rw [e11]
            refine Ex_if_eq 324 357 dX9_reads_321 (by decide) rfl (fun c8 => ?_) (fun c8 => absurd c8 (fun q => q (by decide)))
            refine Ex_aload_n 358 (i := 0) dX9_reads_357 rfl rfl rfl ?_
            refine Ex_bipush 360 (v := 41) dX9_reads_358 (by decide) rfl ?_
            refine Ex_callV (M' := MX9_isSign) 363 [.int 41] (rest := []) dX9_reads_360 lX9_189 mX9_isSign rfl (xMs_0 hm) rfl (Nat.le_of_ble_eq_true rfl) (Nat.le_of_ble_eq_true rfl) rfl ?_
            refine mc_isSign hm hA (c := 41) (by decide) ?_
            simp only [Option.toList, List.cons_append, List.nil_append]
            rw [e3]
            refine Ex_if_eq 366 399 dX9_reads_363 (by decide) rfl (fun c9 => ?_) (fun c9 => absurd c9 (fun q => q (by decide)))
            refine Ex_iload_n 400 (i := 1) dX9_reads_399 rfl rfl rfl ?_
            refine Ex_if_ne 403 418 dX9_reads_400 (by decide) rfl (fun c10 => ?_) (fun c10 => ?_)
            · refine Ex_aload_n 419 (i := 0) dX9_reads_418 rfl rfl rfl ?_
              refine Ex_iconst 420 (v := 1) dX9_reads_419 (by decide) rfl ?_
              refine Ex_callV (M' := MX9_fails) 423 [.int 1] (rest := []) dX9_reads_420 lX9_193 mX9_fails rfl (xMs_0 hm) rfl (Nat.le_of_ble_eq_true rfl) (Nat.le_of_ble_eq_true rfl) rfl ?_
              refine mc_fails (k := 1) hm hA ?_
              simp only [Option.toList, List.nil_append, List.cons_append]
              refine Ex_iret dX9_reads_423 rfl (by decide) (Or.inl rfl) ?_
              have hfl := hmFl_lt (k := 1) (t := t) (by omega) (by omega) hA.pl
              exact hF (hmFl 1 t) _ LL (he.trans (eS)) hfl.1 hfl.2 (gJ.tr hmRf.fl) gL (by rw [va_up_self, va_up_self])
            · refine Ex_aload_n 404 (i := 0) dX9_reads_403 rfl rfl rfl ?_
              refine Ex_bipush 406 (v := 59) dX9_reads_404 (by decide) rfl ?_
              refine Ex_callV (M' := MX9_isSign) 409 [.int 59] (rest := []) dX9_reads_406 lX9_189 mX9_isSign rfl (xMs_0 hm) rfl (Nat.le_of_ble_eq_true rfl) (Nat.le_of_ble_eq_true rfl) rfl ?_
              refine mc_isSign hm hA (c := 59) (by decide) ?_
              simp only [Option.toList, List.cons_append, List.nil_append]
              rw [e4]
              refine Ex_if_eq 412 418 dX9_reads_409 (by decide) rfl (fun c11 => ?_) (fun c11 => absurd c11 (fun q => q (by decide)))
              refine Ex_aload_n 419 (i := 0) dX9_reads_418 rfl rfl rfl ?_
              refine Ex_iconst 420 (v := 1) dX9_reads_419 (by decide) rfl ?_
              refine Ex_callV (M' := MX9_fails) 423 [.int 1] (rest := []) dX9_reads_420 lX9_193 mX9_fails rfl (xMs_0 hm) rfl (Nat.le_of_ble_eq_true rfl) (Nat.le_of_ble_eq_true rfl) rfl ?_
              refine mc_fails (k := 1) hm hA ?_
              simp only [Option.toList, List.nil_append, List.cons_append]
              refine Ex_iret dX9_reads_423 rfl (by decide) (Or.inl rfl) ?_
              have hfl := hmFl_lt (k := 1) (t := t) (by omega) (by omega) hA.pl
              exact hF (hmFl 1 t) _ LL (he.trans (eS)) hfl.1 hfl.2 (gJ.tr hmRf.fl) gL (by rw [va_up_self, va_up_self])
        by_cases n9 : hmKd t = 9
        · have hk := n9
          cases c with
          | false =>
            have eS : hmLm (t :: r) false ((x, false) :: lr) cs = hmLm r true ((x, true) :: lr) (cs ++ [25]) := by rw [hm_step_cmp (by omega) rfl, hk]; rfl
            have ht0 : ¬ t.1 = 0 := fun q => by rw [hm_k0 q] at hk; omega
            have hr2 := hr0 ht0
            have e5 : (hmB (hmIsS t 43)) = 0 := by rw [k5, hmB_0]; exact decide_eq_false (by omega)
            have e6 : (hmB (hmIsS t 45)) = 0 := by rw [k6, hmB_0]; exact decide_eq_false (by omega)
            have e7 : (hmB (hmIsS t 42)) = 0 := by rw [k7, hmB_0]; exact decide_eq_false (by omega)
            have e8 : (hmB (hmIsS t 60)) = 0 := by rw [k8, hmB_0]; exact decide_eq_false (by omega)
            have e9 : (hmB (hmIsS t 61)) = 1 := by rw [k9, hmB_1]; exact decide_eq_true (by omega)
            have e10 : (hmB (hmIsW t wAnd)) = 0 := by rw [k10, hmB_0]; exact decide_eq_false (by omega)
            have e11 : (hmB (hmIsW t wOr)) = 0 := by rw [k11, hmB_0]; exact decide_eq_false (by omega)
            have e3 : (hmB (hmIsS t 41)) = 0 := by rw [k3, hmB_0]; exact decide_eq_false (by omega)
            have e4 : (hmB (hmIsS t 59)) = 0 := by rw [k4, hmB_0]; exact decide_eq_false (by omega)
            refine Ex_iload_n 12 (i := 2) dX9_reads_11 rfl rfl rfl ?_
            refine Ex_if_eq 15 179 dX9_reads_12 (by decide) rfl (fun c1 => ?_) (fun c1 => absurd c1 (fun q => q (by decide)))
            refine Ex_aload_n 180 (i := 0) dX9_reads_179 rfl rfl rfl ?_
            refine Ex_bipush 182 (v := 43) dX9_reads_180 (by decide) rfl ?_
            refine Ex_callV (M' := MX9_isSign) 185 [.int 43] (rest := []) dX9_reads_182 lX9_189 mX9_isSign rfl (xMs_0 hm) rfl (Nat.le_of_ble_eq_true rfl) (Nat.le_of_ble_eq_true rfl) rfl ?_
            refine mc_isSign hm hA (c := 43) (by decide) ?_
            simp only [Option.toList, List.cons_append, List.nil_append]
            rw [e5]
            refine Ex_if_ne 188 206 dX9_reads_185 (by decide) rfl (fun c2 => absurd c2 (fun q => q (by decide))) (fun c2 => ?_)
            refine Ex_aload_n 189 (i := 0) dX9_reads_188 rfl rfl rfl ?_
            refine Ex_bipush 191 (v := 45) dX9_reads_189 (by decide) rfl ?_
            refine Ex_callV (M' := MX9_isSign) 194 [.int 45] (rest := []) dX9_reads_191 lX9_189 mX9_isSign rfl (xMs_0 hm) rfl (Nat.le_of_ble_eq_true rfl) (Nat.le_of_ble_eq_true rfl) rfl ?_
            refine mc_isSign hm hA (c := 45) (by decide) ?_
            simp only [Option.toList, List.cons_append, List.nil_append]
            rw [e6]
            refine Ex_if_ne 197 206 dX9_reads_194 (by decide) rfl (fun c3 => absurd c3 (fun q => q (by decide))) (fun c3 => ?_)
            refine Ex_aload_n 198 (i := 0) dX9_reads_197 rfl rfl rfl ?_
            refine Ex_bipush 200 (v := 42) dX9_reads_198 (by decide) rfl ?_
            refine Ex_callV (M' := MX9_isSign) 203 [.int 42] (rest := []) dX9_reads_200 lX9_189 mX9_isSign rfl (xMs_0 hm) rfl (Nat.le_of_ble_eq_true rfl) (Nat.le_of_ble_eq_true rfl) rfl ?_
            refine mc_isSign hm hA (c := 42) (by decide) ?_
            simp only [Option.toList, List.cons_append, List.nil_append]
            rw [e7]
            refine Ex_if_eq 206 245 dX9_reads_203 (by decide) rfl (fun c4 => ?_) (fun c4 => absurd c4 (fun q => q (by decide)))
            refine Ex_aload_n 246 (i := 0) dX9_reads_245 rfl rfl rfl ?_
            refine Ex_bipush 248 (v := 60) dX9_reads_246 (by decide) rfl ?_
            refine Ex_callV (M' := MX9_isSign) 251 [.int 60] (rest := []) dX9_reads_248 lX9_189 mX9_isSign rfl (xMs_0 hm) rfl (Nat.le_of_ble_eq_true rfl) (Nat.le_of_ble_eq_true rfl) rfl ?_
            refine mc_isSign hm hA (c := 60) (by decide) ?_
            simp only [Option.toList, List.cons_append, List.nil_append]
            rw [e8]
            refine Ex_if_ne 254 263 dX9_reads_251 (by decide) rfl (fun c5 => absurd c5 (fun q => q (by decide))) (fun c5 => ?_)
            refine Ex_aload_n 255 (i := 0) dX9_reads_254 rfl rfl rfl ?_
            refine Ex_bipush 257 (v := 61) dX9_reads_255 (by decide) rfl ?_
            refine Ex_callV (M' := MX9_isSign) 260 [.int 61] (rest := []) dX9_reads_257 lX9_189 mX9_isSign rfl (xMs_0 hm) rfl (Nat.le_of_ble_eq_true rfl) (Nat.le_of_ble_eq_true rfl) rfl ?_
            refine mc_isSign hm hA (c := 61) (by decide) ?_
            simp only [Option.toList, List.cons_append, List.nil_append]
            rw [e9]
            refine Ex_if_eq 263 304 dX9_reads_260 (by decide) rfl (fun c6 => absurd c6 (by decide)) (fun c6 => ?_)
            refine Ex_aload_n 264 (i := 0) dX9_reads_263 rfl rfl rfl ?_
            refine Ex_getR 267 dX9_reads_264 fX9_44 (xMs_0 hm) rfl (xMr_22 hm) rfl ?_
            refine Ex_iload_n 268 (i := 1) dX9_reads_267 rfl rfl rfl ?_
            refine Ex_aZ 269 lr.length (J (m + 12) lr.length) dX9_reads_268 (xMs_12 hm) rfl (by omega) (by decide) rfl rfl ?_
            rw [show J (m + 12) lr.length = 0 from hcmp]
            refine Ex_if_ne 272 304 dX9_reads_269 (by decide) rfl (fun c7 => absurd c7 (fun q => q (by decide))) (fun c7 => ?_)
            refine Ex_aload_n 273 (i := 0) dX9_reads_272 rfl rfl rfl ?_
            refine Ex_aload_n 274 (i := 0) dX9_reads_273 rfl rfl rfl ?_
            refine Ex_bipush 276 (v := 60) dX9_reads_274 (by decide) rfl ?_
            refine Ex_callV (M' := MX9_isSign) 279 [.int 60] (rest := [.ref m]) dX9_reads_276 lX9_189 mX9_isSign rfl (xMs_0 hm) rfl (Nat.le_of_ble_eq_true rfl) (Nat.le_of_ble_eq_true rfl) rfl ?_
            refine mc_isSign hm hA (c := 60) (by decide) ?_
            simp only [Option.toList, List.cons_append, List.nil_append]
            rw [e8]
            refine Ex_if_eq 282 287 dX9_reads_279 (by decide) rfl (fun c8 => ?_) (fun c8 => absurd c8 (fun q => q (by decide)))
            refine Ex_bipush 289 (v := 25) dX9_reads_287 (by decide) rfl ?_
            refine Ex_callV (M' := MX9_puts) 292 [.int 25] (rest := []) dX9_reads_289 lX9_196 mX9_puts rfl (xMs_0 hm) rfl (Nat.le_of_ble_eq_true rfl) (Nat.le_of_ble_eq_true rfl) rfl ?_
            refine mc_puts (k := 1000 + cs.length) hm hcd.1 (by omega) ?_
            simp only [Option.toList, List.nil_append, List.cons_append]
            refine Ex_aload_n 293 (i := 0) dX9_reads_292 rfl rfl rfl ?_
            refine Ex_getR 296 dX9_reads_293 fX9_44 (xMs_0 hm) rfl (xMr_22 hm) rfl ?_
            refine Ex_iload_n 297 (i := 1) dX9_reads_296 rfl rfl rfl ?_
            refine Ex_iconst 298 (v := 1) dX9_reads_297 (by decide) rfl ?_
            refine Ex_sZ 299 lr.length (J (m + 12)) (va_up (va_up (va_up J (m + 10) (va_up (J (m + 10)) (1000 + cs.length) 25)) m (va_up (J m) 19 (nI (1000 + cs.length + 1)))) (m + 12) (va_up (J (m + 12)) lr.length (vp_nar .boolean 1))) dX9_reads_298 (xMs_12 hm) rfl (by omega) (by decide) ((va_up_ne _ _ (by omega)).trans (va_up_ne _ _ (by omega))) rfl rfl ?_
            refine Ex_iconst 300 (v := 1) dX9_reads_299 (by decide) rfl ?_
            refine Ex_istore_n 301 (i := 2) (ls' := [some (.ref m), some (.int (nI lr.length)), some (.int 1), none, none, none]) dX9_reads_300 rfl (Nat.le_of_ble_eq_true rfl) rfl rfl rfl ?_
            refine Ex_goto 424 dX9_reads_301 (by decide) ?_
            refine Ex_aload_n 425 (i := 0) dX9_reads_424 rfl rfl rfl ?_
            refine Ex_callV (M' := MX9_nextToken) 428 [] (rest := []) dX9_reads_425 lX9_200 mX9_nextToken rfl (xMs_0 hm) rfl (Nat.le_of_ble_eq_true rfl) (Nat.le_of_ble_eq_true rfl) rfl ?_
            have hAx : hmAm (va_up (va_up (va_up J (m + 10) (va_up (J (m + 10)) (1000 + cs.length) 25)) m (va_up (J m) 19 (nI (1000 + cs.length + 1)))) (m + 12) (va_up (J (m + 12)) lr.length (vp_nar .boolean 1))) LL m T t r := hA.kept (fun k hk => by rw [va_up_ne _ _ (by omega), va_up_self, va_up_ne _ _ (by omega)]) (by rw [va_up_ne _ _ (by omega), va_up_ne _ _ (by omega), va_up_ne _ _ (by omega)]) rfl
            refine mc_nxt hm hAx hc ht0 (fun t1 r1 I1 L1 er1 gs1 gt1 hA1 => ?_)
            simp only [Option.toList, List.nil_append, List.cons_append]
            refine Ex_goto 11 dX9_reads_428 (by decide) ?_
            refine Ex_fgt (ls' := [some (.ref m), some (.int (nI lr.length)), some (.int 1), none, none, none]) (by simp [xsub]) ?_
            have gM : hmRf m I (va_up (va_up (va_up J (m + 10) (va_up (J (m + 10)) (1000 + cs.length) 25)) m (va_up (J m) 19 (nI (1000 + cs.length + 1)))) (m + 12) (va_up (J (m + 12)) lr.length (vp_nar .boolean 1))) := by
              have z0 := gJ.tr (hmRf.pt (m := m) (k := 1000 + cs.length) (I := J) (x := 25) (v := nI (1000 + cs.length + 1)) (by omega))
              have z1 := z0.tr (hmRf.lv (a := m + 12) (k := lr.length) (v := (vp_nar .boolean 1)) (Or.inr rfl))
              rw [va_up_ne _ _ (show m + 12 ≠ m by omega), va_up_ne _ _ (show m + 12 ≠ m + 10 by omega)] at z1
              exact z1
            have eL : (hmLm ts true [(0, false)] []) = hmLm (t1 :: r1) true ((x, true) :: lr) (cs ++ [25]) := by rw [he, eS, er1]
            have hcd1 : hmCd I1 m (cs ++ [25]) := (hcd.put (x := 25)).kept (by rw [gs1.2 19 (by omega) (by omega) (by omega) (by omega), va_up_ne _ _ (by omega)]) (by rw [gs1.1 (m + 10) (by omega), va_up_ne _ _ (by omega)])
            rw [er1] at hn hb
            have zz : (t :: t1 :: r1).length = (t1 :: r1).length + 1 := rfl
            have zc : (cs ++ [25]).length = cs.length + 1 := by rw [List.length_append]; rfl
            exact ih t1 r1 ((x, true) :: lr) (cs ++ [25]) true I1 L1 lr.length (by omega) (by omega) (by rw [List.length_cons]) hlk (by rw [List.length_cons]; omega) eL (gM.tr (hmRf.nf gs1)) (gL.tr gt1) ⟨by rw [gs1.1 (m + 12) (by omega), va_up_self, va_up_self]; rfl, fun q => by rw [gs1.1 (m + 11) (by omega), va_up_ne _ _ (by omega), va_up_ne _ _ (by omega), va_up_ne _ _ (by omega)]; exact ho.2.1 q, hmOp.kept _ ho.2.2 (fun k hk => by rw [gs1.1 (m + 11) (by omega), gs1.1 (m + 12) (by omega), va_up_ne _ _ (by omega), va_up_ne _ _ (by omega), va_up_ne _ _ (by omega), va_up_self, va_up_ne _ _ (by omega)]; exact ⟨rfl, rfl⟩)⟩ hcd1 hA1
          | true =>
            have eS : hmLm (t :: r) false ((x, true) :: lr) cs = .inl (hmFl 1 t) := by
              rw [hmLm_f, if_neg (by omega), if_neg (fun q => absurd (show true = false from q.2) (by decide)), if_neg (by omega), if_neg (fun q => by omega), if_neg (fun q => by omega)]
              rfl
            have ht0 : ¬ t.1 = 0 := fun q => by rw [hm_k0 q] at hk; omega
            have hr2 := hr0 ht0
            have e5 : (hmB (hmIsS t 43)) = 0 := by rw [k5, hmB_0]; exact decide_eq_false (by omega)
            have e6 : (hmB (hmIsS t 45)) = 0 := by rw [k6, hmB_0]; exact decide_eq_false (by omega)
            have e7 : (hmB (hmIsS t 42)) = 0 := by rw [k7, hmB_0]; exact decide_eq_false (by omega)
            have e8 : (hmB (hmIsS t 60)) = 0 := by rw [k8, hmB_0]; exact decide_eq_false (by omega)
            have e9 : (hmB (hmIsS t 61)) = 1 := by rw [k9, hmB_1]; exact decide_eq_true (by omega)
            have e10 : (hmB (hmIsW t wAnd)) = 0 := by rw [k10, hmB_0]; exact decide_eq_false (by omega)
            have e11 : (hmB (hmIsW t wOr)) = 0 := by rw [k11, hmB_0]; exact decide_eq_false (by omega)
            have e3 : (hmB (hmIsS t 41)) = 0 := by rw [k3, hmB_0]; exact decide_eq_false (by omega)
            have e4 : (hmB (hmIsS t 59)) = 0 := by rw [k4, hmB_0]; exact decide_eq_false (by omega)
            refine Ex_iload_n 12 (i := 2) dX9_reads_11 rfl rfl rfl ?_
            refine Ex_if_eq 15 179 dX9_reads_12 (by decide) rfl (fun c1 => ?_) (fun c1 => absurd c1 (fun q => q (by decide)))
            refine Ex_aload_n 180 (i := 0) dX9_reads_179 rfl rfl rfl ?_
            refine Ex_bipush 182 (v := 43) dX9_reads_180 (by decide) rfl ?_
            refine Ex_callV (M' := MX9_isSign) 185 [.int 43] (rest := []) dX9_reads_182 lX9_189 mX9_isSign rfl (xMs_0 hm) rfl (Nat.le_of_ble_eq_true rfl) (Nat.le_of_ble_eq_true rfl) rfl ?_
            refine mc_isSign hm hA (c := 43) (by decide) ?_
            simp only [Option.toList, List.cons_append, List.nil_append]
            rw [e5]
            refine Ex_if_ne 188 206 dX9_reads_185 (by decide) rfl (fun c2 => absurd c2 (fun q => q (by decide))) (fun c2 => ?_)
            refine Ex_aload_n 189 (i := 0) dX9_reads_188 rfl rfl rfl ?_
            refine Ex_bipush 191 (v := 45) dX9_reads_189 (by decide) rfl ?_
            refine Ex_callV (M' := MX9_isSign) 194 [.int 45] (rest := []) dX9_reads_191 lX9_189 mX9_isSign rfl (xMs_0 hm) rfl (Nat.le_of_ble_eq_true rfl) (Nat.le_of_ble_eq_true rfl) rfl ?_
            refine mc_isSign hm hA (c := 45) (by decide) ?_
            simp only [Option.toList, List.cons_append, List.nil_append]
            rw [e6]
            refine Ex_if_ne 197 206 dX9_reads_194 (by decide) rfl (fun c3 => absurd c3 (fun q => q (by decide))) (fun c3 => ?_)
            refine Ex_aload_n 198 (i := 0) dX9_reads_197 rfl rfl rfl ?_
            refine Ex_bipush 200 (v := 42) dX9_reads_198 (by decide) rfl ?_
            refine Ex_callV (M' := MX9_isSign) 203 [.int 42] (rest := []) dX9_reads_200 lX9_189 mX9_isSign rfl (xMs_0 hm) rfl (Nat.le_of_ble_eq_true rfl) (Nat.le_of_ble_eq_true rfl) rfl ?_
            refine mc_isSign hm hA (c := 42) (by decide) ?_
            simp only [Option.toList, List.cons_append, List.nil_append]
            rw [e7]
            refine Ex_if_eq 206 245 dX9_reads_203 (by decide) rfl (fun c4 => ?_) (fun c4 => absurd c4 (fun q => q (by decide)))
            refine Ex_aload_n 246 (i := 0) dX9_reads_245 rfl rfl rfl ?_
            refine Ex_bipush 248 (v := 60) dX9_reads_246 (by decide) rfl ?_
            refine Ex_callV (M' := MX9_isSign) 251 [.int 60] (rest := []) dX9_reads_248 lX9_189 mX9_isSign rfl (xMs_0 hm) rfl (Nat.le_of_ble_eq_true rfl) (Nat.le_of_ble_eq_true rfl) rfl ?_
            refine mc_isSign hm hA (c := 60) (by decide) ?_
            simp only [Option.toList, List.cons_append, List.nil_append]
            rw [e8]
            refine Ex_if_ne 254 263 dX9_reads_251 (by decide) rfl (fun c5 => absurd c5 (fun q => q (by decide))) (fun c5 => ?_)
            refine Ex_aload_n 255 (i := 0) dX9_reads_254 rfl rfl rfl ?_
            refine Ex_bipush 257 (v := 61) dX9_reads_255 (by decide) rfl ?_
            refine Ex_callV (M' := MX9_isSign) 260 [.int 61] (rest := []) dX9_reads_257 lX9_189 mX9_isSign rfl (xMs_0 hm) rfl (Nat.le_of_ble_eq_true rfl) (Nat.le_of_ble_eq_true rfl) rfl ?_
            refine mc_isSign hm hA (c := 61) (by decide) ?_
            simp only [Option.toList, List.cons_append, List.nil_append]
            rw [e9]
            refine Ex_if_eq 263 304 dX9_reads_260 (by decide) rfl (fun c6 => absurd c6 (by decide)) (fun c6 => ?_)
            refine Ex_aload_n 264 (i := 0) dX9_reads_263 rfl rfl rfl ?_
            refine Ex_getR 267 dX9_reads_264 fX9_44 (xMs_0 hm) rfl (xMr_22 hm) rfl ?_
            refine Ex_iload_n 268 (i := 1) dX9_reads_267 rfl rfl rfl ?_
            refine Ex_aZ 269 lr.length (J (m + 12) lr.length) dX9_reads_268 (xMs_12 hm) rfl (by omega) (by decide) rfl rfl ?_
            rw [show J (m + 12) lr.length = 1 from hcmp]
            refine Ex_if_ne 272 304 dX9_reads_269 (by decide) rfl (fun c7 => ?_) (fun c7 => absurd c7 (by decide))
            refine Ex_aload_n 305 (i := 0) dX9_reads_304 rfl rfl rfl ?_
            refine Ex_ldc2 308 (v := 1111) dX9_reads_305 kX9_203 rfl ?_
            refine Ex_callV (M' := MX9_isWord) 311 [.long 1111] (rest := []) dX9_reads_308 lX9_185 mX9_isWord rfl (xMs_0 hm) rfl (Nat.le_of_ble_eq_true rfl) (Nat.le_of_ble_eq_true rfl) rfl ?_
            refine mc_isWord hm hA (l := wAnd) (by decide +kernel) (by unfold hmWd; decide) ?_
            simp only [Option.toList, List.cons_append, List.nil_append]
            rw [e10]
            refine Ex_if_ne 314 324 dX9_reads_311 (by decide) rfl (fun c8 => absurd c8 (fun q => q (by decide))) (fun c8 => ?_)
            refine Ex_aload_n 315 (i := 0) dX9_reads_314 rfl rfl rfl ?_
            refine Ex_ldc2 318 (v := 423) dX9_reads_315 kX9_205 rfl ?_
            refine Ex_callV (M' := MX9_isWord) 321 [.long 423] (rest := []) dX9_reads_318 lX9_185 mX9_isWord rfl (xMs_0 hm) rfl (Nat.le_of_ble_eq_true rfl) (Nat.le_of_ble_eq_true rfl) rfl ?_
            refine mc_isWord hm hA (l := wOr) (by decide +kernel) (by unfold hmWd; decide) ?_
            simp only [Option.toList, List.cons_append, List.nil_append]
            rw [e11]
            refine Ex_if_eq 324 357 dX9_reads_321 (by decide) rfl (fun c9 => ?_) (fun c9 => absurd c9 (fun q => q (by decide)))
            refine Ex_aload_n 358 (i := 0) dX9_reads_357 rfl rfl rfl ?_
            refine Ex_bipush 360 (v := 41) dX9_reads_358 (by decide) rfl ?_
            refine Ex_callV (M' := MX9_isSign) 363 [.int 41] (rest := []) dX9_reads_360 lX9_189 mX9_isSign rfl (xMs_0 hm) rfl (Nat.le_of_ble_eq_true rfl) (Nat.le_of_ble_eq_true rfl) rfl ?_
            refine mc_isSign hm hA (c := 41) (by decide) ?_
            simp only [Option.toList, List.cons_append, List.nil_append]
            rw [e3]
            refine Ex_if_eq 366 399 dX9_reads_363 (by decide) rfl (fun c10 => ?_) (fun c10 => absurd c10 (fun q => q (by decide)))
            refine Ex_iload_n 400 (i := 1) dX9_reads_399 rfl rfl rfl ?_
            refine Ex_if_ne 403 418 dX9_reads_400 (by decide) rfl (fun c11 => ?_) (fun c11 => ?_)
            · refine Ex_aload_n 419 (i := 0) dX9_reads_418 rfl rfl rfl ?_
              refine Ex_iconst 420 (v := 1) dX9_reads_419 (by decide) rfl ?_
              refine Ex_callV (M' := MX9_fails) 423 [.int 1] (rest := []) dX9_reads_420 lX9_193 mX9_fails rfl (xMs_0 hm) rfl (Nat.le_of_ble_eq_true rfl) (Nat.le_of_ble_eq_true rfl) rfl ?_
              refine mc_fails (k := 1) hm hA ?_
              simp only [Option.toList, List.nil_append, List.cons_append]
              refine Ex_iret dX9_reads_423 rfl (by decide) (Or.inl rfl) ?_
              have hfl := hmFl_lt (k := 1) (t := t) (by omega) (by omega) hA.pl
              exact hF (hmFl 1 t) _ LL (he.trans (eS)) hfl.1 hfl.2 (gJ.tr hmRf.fl) gL (by rw [va_up_self, va_up_self])
            · refine Ex_aload_n 404 (i := 0) dX9_reads_403 rfl rfl rfl ?_
              refine Ex_bipush 406 (v := 59) dX9_reads_404 (by decide) rfl ?_
              refine Ex_callV (M' := MX9_isSign) 409 [.int 59] (rest := []) dX9_reads_406 lX9_189 mX9_isSign rfl (xMs_0 hm) rfl (Nat.le_of_ble_eq_true rfl) (Nat.le_of_ble_eq_true rfl) rfl ?_
              refine mc_isSign hm hA (c := 59) (by decide) ?_
              simp only [Option.toList, List.cons_append, List.nil_append]
              rw [e4]
              refine Ex_if_eq 412 418 dX9_reads_409 (by decide) rfl (fun c12 => ?_) (fun c12 => absurd c12 (fun q => q (by decide)))
              refine Ex_aload_n 419 (i := 0) dX9_reads_418 rfl rfl rfl ?_
              refine Ex_iconst 420 (v := 1) dX9_reads_419 (by decide) rfl ?_
              refine Ex_callV (M' := MX9_fails) 423 [.int 1] (rest := []) dX9_reads_420 lX9_193 mX9_fails rfl (xMs_0 hm) rfl (Nat.le_of_ble_eq_true rfl) (Nat.le_of_ble_eq_true rfl) rfl ?_
              refine mc_fails (k := 1) hm hA ?_
              simp only [Option.toList, List.nil_append, List.cons_append]
              refine Ex_iret dX9_reads_423 rfl (by decide) (Or.inl rfl) ?_
              have hfl := hmFl_lt (k := 1) (t := t) (by omega) (by omega) hA.pl
              exact hF (hmFl 1 t) _ LL (he.trans (eS)) hfl.1 hfl.2 (gJ.tr hmRf.fl) gL (by rw [va_up_self, va_up_self])
        by_cases n10 : hmKd t = 10
        · have hk := n10
          have eS : hmLm (t :: r) false ((x, c) :: lr) cs = hmLm r true ((x, false) :: lr) (cs ++ [26]) := by rw [hm_step_join (by omega), hk]; rfl
          have ht0 : ¬ t.1 = 0 := fun q => by rw [hm_k0 q] at hk; omega
          have hr2 := hr0 ht0
          have e5 : (hmB (hmIsS t 43)) = 0 := by rw [k5, hmB_0]; exact decide_eq_false (by omega)
          have e6 : (hmB (hmIsS t 45)) = 0 := by rw [k6, hmB_0]; exact decide_eq_false (by omega)
          have e7 : (hmB (hmIsS t 42)) = 0 := by rw [k7, hmB_0]; exact decide_eq_false (by omega)
          have e8 : (hmB (hmIsS t 60)) = 0 := by rw [k8, hmB_0]; exact decide_eq_false (by omega)
          have e9 : (hmB (hmIsS t 61)) = 0 := by rw [k9, hmB_0]; exact decide_eq_false (by omega)
          have e10 : (hmB (hmIsW t wAnd)) = 1 := by rw [k10, hmB_1]; exact decide_eq_true (by omega)
          have e11 : (hmB (hmIsW t wOr)) = 0 := by rw [k11, hmB_0]; exact decide_eq_false (by omega)
          have e3 : (hmB (hmIsS t 41)) = 0 := by rw [k3, hmB_0]; exact decide_eq_false (by omega)
          have e4 : (hmB (hmIsS t 59)) = 0 := by rw [k4, hmB_0]; exact decide_eq_false (by omega)
          refine Ex_iload_n 12 (i := 2) dX9_reads_11 rfl rfl rfl ?_
          refine Ex_if_eq 15 179 dX9_reads_12 (by decide) rfl (fun c1 => ?_) (fun c1 => absurd c1 (fun q => q (by decide)))
          refine Ex_aload_n 180 (i := 0) dX9_reads_179 rfl rfl rfl ?_
          refine Ex_bipush 182 (v := 43) dX9_reads_180 (by decide) rfl ?_
          refine Ex_callV (M' := MX9_isSign) 185 [.int 43] (rest := []) dX9_reads_182 lX9_189 mX9_isSign rfl (xMs_0 hm) rfl (Nat.le_of_ble_eq_true rfl) (Nat.le_of_ble_eq_true rfl) rfl ?_
          refine mc_isSign hm hA (c := 43) (by decide) ?_
          simp only [Option.toList, List.cons_append, List.nil_append]
          rw [e5]
          refine Ex_if_ne 188 206 dX9_reads_185 (by decide) rfl (fun c2 => absurd c2 (fun q => q (by decide))) (fun c2 => ?_)
          refine Ex_aload_n 189 (i := 0) dX9_reads_188 rfl rfl rfl ?_
          refine Ex_bipush 191 (v := 45) dX9_reads_189 (by decide) rfl ?_
          refine Ex_callV (M' := MX9_isSign) 194 [.int 45] (rest := []) dX9_reads_191 lX9_189 mX9_isSign rfl (xMs_0 hm) rfl (Nat.le_of_ble_eq_true rfl) (Nat.le_of_ble_eq_true rfl) rfl ?_
          refine mc_isSign hm hA (c := 45) (by decide) ?_
          simp only [Option.toList, List.cons_append, List.nil_append]
          rw [e6]
          refine Ex_if_ne 197 206 dX9_reads_194 (by decide) rfl (fun c3 => absurd c3 (fun q => q (by decide))) (fun c3 => ?_)
          refine Ex_aload_n 198 (i := 0) dX9_reads_197 rfl rfl rfl ?_
          refine Ex_bipush 200 (v := 42) dX9_reads_198 (by decide) rfl ?_
          refine Ex_callV (M' := MX9_isSign) 203 [.int 42] (rest := []) dX9_reads_200 lX9_189 mX9_isSign rfl (xMs_0 hm) rfl (Nat.le_of_ble_eq_true rfl) (Nat.le_of_ble_eq_true rfl) rfl ?_
          refine mc_isSign hm hA (c := 42) (by decide) ?_
          simp only [Option.toList, List.cons_append, List.nil_append]
          rw [e7]
          refine Ex_if_eq 206 245 dX9_reads_203 (by decide) rfl (fun c4 => ?_) (fun c4 => absurd c4 (fun q => q (by decide)))
          refine Ex_aload_n 246 (i := 0) dX9_reads_245 rfl rfl rfl ?_
          refine Ex_bipush 248 (v := 60) dX9_reads_246 (by decide) rfl ?_
          refine Ex_callV (M' := MX9_isSign) 251 [.int 60] (rest := []) dX9_reads_248 lX9_189 mX9_isSign rfl (xMs_0 hm) rfl (Nat.le_of_ble_eq_true rfl) (Nat.le_of_ble_eq_true rfl) rfl ?_
          refine mc_isSign hm hA (c := 60) (by decide) ?_
          simp only [Option.toList, List.cons_append, List.nil_append]
          rw [e8]
          refine Ex_if_ne 254 263 dX9_reads_251 (by decide) rfl (fun c5 => absurd c5 (fun q => q (by decide))) (fun c5 => ?_)
          refine Ex_aload_n 255 (i := 0) dX9_reads_254 rfl rfl rfl ?_
          refine Ex_bipush 257 (v := 61) dX9_reads_255 (by decide) rfl ?_
          refine Ex_callV (M' := MX9_isSign) 260 [.int 61] (rest := []) dX9_reads_257 lX9_189 mX9_isSign rfl (xMs_0 hm) rfl (Nat.le_of_ble_eq_true rfl) (Nat.le_of_ble_eq_true rfl) rfl ?_
          refine mc_isSign hm hA (c := 61) (by decide) ?_
          simp only [Option.toList, List.cons_append, List.nil_append]
          rw [e9]
          refine Ex_if_eq 263 304 dX9_reads_260 (by decide) rfl (fun c6 => ?_) (fun c6 => absurd c6 (fun q => q (by decide)))
          refine Ex_aload_n 305 (i := 0) dX9_reads_304 rfl rfl rfl ?_
          refine Ex_ldc2 308 (v := 1111) dX9_reads_305 kX9_203 rfl ?_
          refine Ex_callV (M' := MX9_isWord) 311 [.long 1111] (rest := []) dX9_reads_308 lX9_185 mX9_isWord rfl (xMs_0 hm) rfl (Nat.le_of_ble_eq_true rfl) (Nat.le_of_ble_eq_true rfl) rfl ?_
          refine mc_isWord hm hA (l := wAnd) (by decide +kernel) (by unfold hmWd; decide) ?_
          simp only [Option.toList, List.cons_append, List.nil_append]
          rw [e10]
          refine Ex_if_ne 314 324 dX9_reads_311 (by decide) rfl (fun c7 => ?_) (fun c7 => absurd c7 (by decide))
          refine Ex_aload_n 325 (i := 0) dX9_reads_324 rfl rfl rfl ?_
          refine Ex_aload_n 326 (i := 0) dX9_reads_325 rfl rfl rfl ?_
          refine Ex_ldc2 329 (v := 1111) dX9_reads_326 kX9_203 rfl ?_
          refine Ex_callV (M' := MX9_isWord) 332 [.long 1111] (rest := [.ref m]) dX9_reads_329 lX9_185 mX9_isWord rfl (xMs_0 hm) rfl (Nat.le_of_ble_eq_true rfl) (Nat.le_of_ble_eq_true rfl) rfl ?_
          refine mc_isWord hm hA (l := wAnd) (by decide +kernel) (by unfold hmWd; decide) ?_
          simp only [Option.toList, List.cons_append, List.nil_append]
          rw [e10]
          refine Ex_if_eq 335 340 dX9_reads_332 (by decide) rfl (fun c8 => absurd c8 (by decide)) (fun c8 => ?_)
          refine Ex_bipush 337 (v := 26) dX9_reads_335 (by decide) rfl ?_
          refine Ex_goto 342 dX9_reads_337 (by decide) ?_
          refine Ex_callV (M' := MX9_puts) 345 [.int 26] (rest := []) dX9_reads_342 lX9_196 mX9_puts rfl (xMs_0 hm) rfl (Nat.le_of_ble_eq_true rfl) (Nat.le_of_ble_eq_true rfl) rfl ?_
          refine mc_puts (k := 1000 + cs.length) hm hcd.1 (by omega) ?_
          simp only [Option.toList, List.nil_append, List.cons_append]
          refine Ex_aload_n 346 (i := 0) dX9_reads_345 rfl rfl rfl ?_
          refine Ex_getR 349 dX9_reads_346 fX9_44 (xMs_0 hm) rfl (xMr_22 hm) rfl ?_
          refine Ex_iload_n 350 (i := 1) dX9_reads_349 rfl rfl rfl ?_
          refine Ex_iconst 351 (v := 0) dX9_reads_350 (by decide) rfl ?_
          refine Ex_sZ 352 lr.length (J (m + 12)) (va_up (va_up (va_up J (m + 10) (va_up (J (m + 10)) (1000 + cs.length) 26)) m (va_up (J m) 19 (nI (1000 + cs.length + 1)))) (m + 12) (va_up (J (m + 12)) lr.length (vp_nar .boolean 0))) dX9_reads_351 (xMs_12 hm) rfl (by omega) (by decide) ((va_up_ne _ _ (by omega)).trans (va_up_ne _ _ (by omega))) rfl rfl ?_
          refine Ex_iconst 353 (v := 1) dX9_reads_352 (by decide) rfl ?_
          refine Ex_istore_n 354 (i := 2) (ls' := [some (.ref m), some (.int (nI lr.length)), some (.int 1), none, none, none]) dX9_reads_353 rfl (Nat.le_of_ble_eq_true rfl) rfl rfl rfl ?_
          refine Ex_goto 424 dX9_reads_354 (by decide) ?_
          refine Ex_aload_n 425 (i := 0) dX9_reads_424 rfl rfl rfl ?_
          refine Ex_callV (M' := MX9_nextToken) 428 [] (rest := []) dX9_reads_425 lX9_200 mX9_nextToken rfl (xMs_0 hm) rfl (Nat.le_of_ble_eq_true rfl) (Nat.le_of_ble_eq_true rfl) rfl ?_
          have hAx : hmAm (va_up (va_up (va_up J (m + 10) (va_up (J (m + 10)) (1000 + cs.length) 26)) m (va_up (J m) 19 (nI (1000 + cs.length + 1)))) (m + 12) (va_up (J (m + 12)) lr.length (vp_nar .boolean 0))) LL m T t r := hA.kept (fun k hk => by rw [va_up_ne _ _ (by omega), va_up_self, va_up_ne _ _ (by omega)]) (by rw [va_up_ne _ _ (by omega), va_up_ne _ _ (by omega), va_up_ne _ _ (by omega)]) rfl
          refine mc_nxt hm hAx hc ht0 (fun t1 r1 I1 L1 er1 gs1 gt1 hA1 => ?_)
          simp only [Option.toList, List.nil_append, List.cons_append]
          refine Ex_goto 11 dX9_reads_428 (by decide) ?_
          refine Ex_fgt (ls' := [some (.ref m), some (.int (nI lr.length)), some (.int 1), none, none, none]) (by simp [xsub]) ?_
          have gM : hmRf m I (va_up (va_up (va_up J (m + 10) (va_up (J (m + 10)) (1000 + cs.length) 26)) m (va_up (J m) 19 (nI (1000 + cs.length + 1)))) (m + 12) (va_up (J (m + 12)) lr.length (vp_nar .boolean 0))) := by
            have z0 := gJ.tr (hmRf.pt (m := m) (k := 1000 + cs.length) (I := J) (x := 26) (v := nI (1000 + cs.length + 1)) (by omega))
            have z1 := z0.tr (hmRf.lv (a := m + 12) (k := lr.length) (v := (vp_nar .boolean 0)) (Or.inr rfl))
            rw [va_up_ne _ _ (show m + 12 ≠ m by omega), va_up_ne _ _ (show m + 12 ≠ m + 10 by omega)] at z1
            exact z1
          have eL : (hmLm ts true [(0, false)] []) = hmLm (t1 :: r1) true ((x, false) :: lr) (cs ++ [26]) := by rw [he, eS, er1]
          have hcd1 : hmCd I1 m (cs ++ [26]) := (hcd.put (x := 26)).kept (by rw [gs1.2 19 (by omega) (by omega) (by omega) (by omega), va_up_ne _ _ (by omega)]) (by rw [gs1.1 (m + 10) (by omega), va_up_ne _ _ (by omega)])
          rw [er1] at hn hb
          have zz : (t :: t1 :: r1).length = (t1 :: r1).length + 1 := rfl
          have zc : (cs ++ [26]).length = cs.length + 1 := by rw [List.length_append]; rfl
          exact ih t1 r1 ((x, false) :: lr) (cs ++ [26]) true I1 L1 lr.length (by omega) (by omega) (by rw [List.length_cons]) hlk (by rw [List.length_cons]; omega) eL (gM.tr (hmRf.nf gs1)) (gL.tr gt1) ⟨by rw [gs1.1 (m + 12) (by omega), va_up_self, va_up_self]; rfl, fun q => by rw [gs1.1 (m + 11) (by omega), va_up_ne _ _ (by omega), va_up_ne _ _ (by omega), va_up_ne _ _ (by omega)]; exact ho.2.1 q, hmOp.kept _ ho.2.2 (fun k hk => by rw [gs1.1 (m + 11) (by omega), gs1.1 (m + 12) (by omega), va_up_ne _ _ (by omega), va_up_ne _ _ (by omega), va_up_ne _ _ (by omega), va_up_self, va_up_ne _ _ (by omega)]; exact ⟨rfl, rfl⟩)⟩ hcd1 hA1
        by_cases n11 : hmKd t = 11
        · have hk := n11
          have eS : hmLm (t :: r) false ((x, c) :: lr) cs = hmLm r true ((x, false) :: lr) (cs ++ [27]) := by rw [hm_step_join (by omega), hk]; rfl
          have ht0 : ¬ t.1 = 0 := fun q => by rw [hm_k0 q] at hk; omega
          have hr2 := hr0 ht0
          have e5 : (hmB (hmIsS t 43)) = 0 := by rw [k5, hmB_0]; exact decide_eq_false (by omega)
          have e6 : (hmB (hmIsS t 45)) = 0 := by rw [k6, hmB_0]; exact decide_eq_false (by omega)
          have e7 : (hmB (hmIsS t 42)) = 0 := by rw [k7, hmB_0]; exact decide_eq_false (by omega)
          have e8 : (hmB (hmIsS t 60)) = 0 := by rw [k8, hmB_0]; exact decide_eq_false (by omega)
          have e9 : (hmB (hmIsS t 61)) = 0 := by rw [k9, hmB_0]; exact decide_eq_false (by omega)
          have e10 : (hmB (hmIsW t wAnd)) = 0 := by rw [k10, hmB_0]; exact decide_eq_false (by omega)
          have e11 : (hmB (hmIsW t wOr)) = 1 := by rw [k11, hmB_1]; exact decide_eq_true (by omega)
          have e3 : (hmB (hmIsS t 41)) = 0 := by rw [k3, hmB_0]; exact decide_eq_false (by omega)
          have e4 : (hmB (hmIsS t 59)) = 0 := by rw [k4, hmB_0]; exact decide_eq_false (by omega)
          refine Ex_iload_n 12 (i := 2) dX9_reads_11 rfl rfl rfl ?_
          refine Ex_if_eq 15 179 dX9_reads_12 (by decide) rfl (fun c1 => ?_) (fun c1 => absurd c1 (fun q => q (by decide)))
          refine Ex_aload_n 180 (i := 0) dX9_reads_179 rfl rfl rfl ?_
          refine Ex_bipush 182 (v := 43) dX9_reads_180 (by decide) rfl ?_
          refine Ex_callV (M' := MX9_isSign) 185 [.int 43] (rest := []) dX9_reads_182 lX9_189 mX9_isSign rfl (xMs_0 hm) rfl (Nat.le_of_ble_eq_true rfl) (Nat.le_of_ble_eq_true rfl) rfl ?_
          refine mc_isSign hm hA (c := 43) (by decide) ?_
          simp only [Option.toList, List.cons_append, List.nil_append]
          rw [e5]
          refine Ex_if_ne 188 206 dX9_reads_185 (by decide) rfl (fun c2 => absurd c2 (fun q => q (by decide))) (fun c2 => ?_)
          refine Ex_aload_n 189 (i := 0) dX9_reads_188 rfl rfl rfl ?_
          refine Ex_bipush 191 (v := 45) dX9_reads_189 (by decide) rfl ?_
          refine Ex_callV (M' := MX9_isSign) 194 [.int 45] (rest := []) dX9_reads_191 lX9_189 mX9_isSign rfl (xMs_0 hm) rfl (Nat.le_of_ble_eq_true rfl) (Nat.le_of_ble_eq_true rfl) rfl ?_
          refine mc_isSign hm hA (c := 45) (by decide) ?_
          simp only [Option.toList, List.cons_append, List.nil_append]
          rw [e6]
          refine Ex_if_ne 197 206 dX9_reads_194 (by decide) rfl (fun c3 => absurd c3 (fun q => q (by decide))) (fun c3 => ?_)
          refine Ex_aload_n 198 (i := 0) dX9_reads_197 rfl rfl rfl ?_
          refine Ex_bipush 200 (v := 42) dX9_reads_198 (by decide) rfl ?_
          refine Ex_callV (M' := MX9_isSign) 203 [.int 42] (rest := []) dX9_reads_200 lX9_189 mX9_isSign rfl (xMs_0 hm) rfl (Nat.le_of_ble_eq_true rfl) (Nat.le_of_ble_eq_true rfl) rfl ?_
          refine mc_isSign hm hA (c := 42) (by decide) ?_
          simp only [Option.toList, List.cons_append, List.nil_append]
          rw [e7]
          refine Ex_if_eq 206 245 dX9_reads_203 (by decide) rfl (fun c4 => ?_) (fun c4 => absurd c4 (fun q => q (by decide)))
          refine Ex_aload_n 246 (i := 0) dX9_reads_245 rfl rfl rfl ?_
          refine Ex_bipush 248 (v := 60) dX9_reads_246 (by decide) rfl ?_
          refine Ex_callV (M' := MX9_isSign) 251 [.int 60] (rest := []) dX9_reads_248 lX9_189 mX9_isSign rfl (xMs_0 hm) rfl (Nat.le_of_ble_eq_true rfl) (Nat.le_of_ble_eq_true rfl) rfl ?_
          refine mc_isSign hm hA (c := 60) (by decide) ?_
          simp only [Option.toList, List.cons_append, List.nil_append]
          rw [e8]
          refine Ex_if_ne 254 263 dX9_reads_251 (by decide) rfl (fun c5 => absurd c5 (fun q => q (by decide))) (fun c5 => ?_)
          refine Ex_aload_n 255 (i := 0) dX9_reads_254 rfl rfl rfl ?_
          refine Ex_bipush 257 (v := 61) dX9_reads_255 (by decide) rfl ?_
          refine Ex_callV (M' := MX9_isSign) 260 [.int 61] (rest := []) dX9_reads_257 lX9_189 mX9_isSign rfl (xMs_0 hm) rfl (Nat.le_of_ble_eq_true rfl) (Nat.le_of_ble_eq_true rfl) rfl ?_
          refine mc_isSign hm hA (c := 61) (by decide) ?_
          simp only [Option.toList, List.cons_append, List.nil_append]
          rw [e9]
          refine Ex_if_eq 263 304 dX9_reads_260 (by decide) rfl (fun c6 => ?_) (fun c6 => absurd c6 (fun q => q (by decide)))
          refine Ex_aload_n 305 (i := 0) dX9_reads_304 rfl rfl rfl ?_
          refine Ex_ldc2 308 (v := 1111) dX9_reads_305 kX9_203 rfl ?_
          refine Ex_callV (M' := MX9_isWord) 311 [.long 1111] (rest := []) dX9_reads_308 lX9_185 mX9_isWord rfl (xMs_0 hm) rfl (Nat.le_of_ble_eq_true rfl) (Nat.le_of_ble_eq_true rfl) rfl ?_
          refine mc_isWord hm hA (l := wAnd) (by decide +kernel) (by unfold hmWd; decide) ?_
          simp only [Option.toList, List.cons_append, List.nil_append]
          rw [e10]
          refine Ex_if_ne 314 324 dX9_reads_311 (by decide) rfl (fun c7 => absurd c7 (fun q => q (by decide))) (fun c7 => ?_)
          refine Ex_aload_n 315 (i := 0) dX9_reads_314 rfl rfl rfl ?_
          refine Ex_ldc2 318 (v := 423) dX9_reads_315 kX9_205 rfl ?_
          refine Ex_callV (M' := MX9_isWord) 321 [.long 423] (rest := []) dX9_reads_318 lX9_185 mX9_isWord rfl (xMs_0 hm) rfl (Nat.le_of_ble_eq_true rfl) (Nat.le_of_ble_eq_true rfl) rfl ?_
          refine mc_isWord hm hA (l := wOr) (by decide +kernel) (by unfold hmWd; decide) ?_
          simp only [Option.toList, List.cons_append, List.nil_append]
          rw [e11]
          refine Ex_if_eq 324 357 dX9_reads_321 (by decide) rfl (fun c8 => absurd c8 (by decide)) (fun c8 => ?_)
          refine Ex_aload_n 325 (i := 0) dX9_reads_324 rfl rfl rfl ?_
          refine Ex_aload_n 326 (i := 0) dX9_reads_325 rfl rfl rfl ?_
          refine Ex_ldc2 329 (v := 1111) dX9_reads_326 kX9_203 rfl ?_
          refine Ex_callV (M' := MX9_isWord) 332 [.long 1111] (rest := [.ref m]) dX9_reads_329 lX9_185 mX9_isWord rfl (xMs_0 hm) rfl (Nat.le_of_ble_eq_true rfl) (Nat.le_of_ble_eq_true rfl) rfl ?_
          refine mc_isWord hm hA (l := wAnd) (by decide +kernel) (by unfold hmWd; decide) ?_
          simp only [Option.toList, List.cons_append, List.nil_append]
          rw [e10]
          refine Ex_if_eq 335 340 dX9_reads_332 (by decide) rfl (fun c9 => ?_) (fun c9 => absurd c9 (fun q => q (by decide)))
          refine Ex_bipush 342 (v := 27) dX9_reads_340 (by decide) rfl ?_
          refine Ex_callV (M' := MX9_puts) 345 [.int 27] (rest := []) dX9_reads_342 lX9_196 mX9_puts rfl (xMs_0 hm) rfl (Nat.le_of_ble_eq_true rfl) (Nat.le_of_ble_eq_true rfl) rfl ?_
          refine mc_puts (k := 1000 + cs.length) hm hcd.1 (by omega) ?_
          simp only [Option.toList, List.nil_append, List.cons_append]
          refine Ex_aload_n 346 (i := 0) dX9_reads_345 rfl rfl rfl ?_
          refine Ex_getR 349 dX9_reads_346 fX9_44 (xMs_0 hm) rfl (xMr_22 hm) rfl ?_
          refine Ex_iload_n 350 (i := 1) dX9_reads_349 rfl rfl rfl ?_
          refine Ex_iconst 351 (v := 0) dX9_reads_350 (by decide) rfl ?_
          refine Ex_sZ 352 lr.length (J (m + 12)) (va_up (va_up (va_up J (m + 10) (va_up (J (m + 10)) (1000 + cs.length) 27)) m (va_up (J m) 19 (nI (1000 + cs.length + 1)))) (m + 12) (va_up (J (m + 12)) lr.length (vp_nar .boolean 0))) dX9_reads_351 (xMs_12 hm) rfl (by omega) (by decide) ((va_up_ne _ _ (by omega)).trans (va_up_ne _ _ (by omega))) rfl rfl ?_
          refine Ex_iconst 353 (v := 1) dX9_reads_352 (by decide) rfl ?_
          refine Ex_istore_n 354 (i := 2) (ls' := [some (.ref m), some (.int (nI lr.length)), some (.int 1), none, none, none]) dX9_reads_353 rfl (Nat.le_of_ble_eq_true rfl) rfl rfl rfl ?_
          refine Ex_goto 424 dX9_reads_354 (by decide) ?_
          refine Ex_aload_n 425 (i := 0) dX9_reads_424 rfl rfl rfl ?_
          refine Ex_callV (M' := MX9_nextToken) 428 [] (rest := []) dX9_reads_425 lX9_200 mX9_nextToken rfl (xMs_0 hm) rfl (Nat.le_of_ble_eq_true rfl) (Nat.le_of_ble_eq_true rfl) rfl ?_
          have hAx : hmAm (va_up (va_up (va_up J (m + 10) (va_up (J (m + 10)) (1000 + cs.length) 27)) m (va_up (J m) 19 (nI (1000 + cs.length + 1)))) (m + 12) (va_up (J (m + 12)) lr.length (vp_nar .boolean 0))) LL m T t r := hA.kept (fun k hk => by rw [va_up_ne _ _ (by omega), va_up_self, va_up_ne _ _ (by omega)]) (by rw [va_up_ne _ _ (by omega), va_up_ne _ _ (by omega), va_up_ne _ _ (by omega)]) rfl
          refine mc_nxt hm hAx hc ht0 (fun t1 r1 I1 L1 er1 gs1 gt1 hA1 => ?_)
          simp only [Option.toList, List.nil_append, List.cons_append]
          refine Ex_goto 11 dX9_reads_428 (by decide) ?_
          refine Ex_fgt (ls' := [some (.ref m), some (.int (nI lr.length)), some (.int 1), none, none, none]) (by simp [xsub]) ?_
          have gM : hmRf m I (va_up (va_up (va_up J (m + 10) (va_up (J (m + 10)) (1000 + cs.length) 27)) m (va_up (J m) 19 (nI (1000 + cs.length + 1)))) (m + 12) (va_up (J (m + 12)) lr.length (vp_nar .boolean 0))) := by
            have z0 := gJ.tr (hmRf.pt (m := m) (k := 1000 + cs.length) (I := J) (x := 27) (v := nI (1000 + cs.length + 1)) (by omega))
            have z1 := z0.tr (hmRf.lv (a := m + 12) (k := lr.length) (v := (vp_nar .boolean 0)) (Or.inr rfl))
            rw [va_up_ne _ _ (show m + 12 ≠ m by omega), va_up_ne _ _ (show m + 12 ≠ m + 10 by omega)] at z1
            exact z1
          have eL : (hmLm ts true [(0, false)] []) = hmLm (t1 :: r1) true ((x, false) :: lr) (cs ++ [27]) := by rw [he, eS, er1]
          have hcd1 : hmCd I1 m (cs ++ [27]) := (hcd.put (x := 27)).kept (by rw [gs1.2 19 (by omega) (by omega) (by omega) (by omega), va_up_ne _ _ (by omega)]) (by rw [gs1.1 (m + 10) (by omega), va_up_ne _ _ (by omega)])
          rw [er1] at hn hb
          have zz : (t :: t1 :: r1).length = (t1 :: r1).length + 1 := rfl
          have zc : (cs ++ [27]).length = cs.length + 1 := by rw [List.length_append]; rfl
          exact ih t1 r1 ((x, false) :: lr) (cs ++ [27]) true I1 L1 lr.length (by omega) (by omega) (by rw [List.length_cons]) hlk (by rw [List.length_cons]; omega) eL (gM.tr (hmRf.nf gs1)) (gL.tr gt1) ⟨by rw [gs1.1 (m + 12) (by omega), va_up_self, va_up_self]; rfl, fun q => by rw [gs1.1 (m + 11) (by omega), va_up_ne _ _ (by omega), va_up_ne _ _ (by omega), va_up_ne _ _ (by omega)]; exact ho.2.1 q, hmOp.kept _ ho.2.2 (fun k hk => by rw [gs1.1 (m + 11) (by omega), gs1.1 (m + 12) (by omega), va_up_ne _ _ (by omega), va_up_ne _ _ (by omega), va_up_ne _ _ (by omega), va_up_self, va_up_ne _ _ (by omega)]; exact ⟨rfl, rfl⟩)⟩ hcd1 hA1
        by_cases n3 : hmKd t = 3
        · have hk := n3
          by_cases hlr : lr = []
          · subst hlr
            have eS : hmLm (t :: r) false [(x, c)] cs = .inl (hmFl 1 t) := by
              rw [hmLm_f, if_neg (by omega), if_neg (fun q => by omega), if_neg (by omega), if_neg (fun q => absurd q.2 (by simp)), if_neg (fun q => by omega)]
              rfl
            have ht0 : ¬ t.1 = 0 := fun q => by rw [hm_k0 q] at hk; omega
            have hr2 := hr0 ht0
            have e5 : (hmB (hmIsS t 43)) = 0 := by rw [k5, hmB_0]; exact decide_eq_false (by omega)
            have e6 : (hmB (hmIsS t 45)) = 0 := by rw [k6, hmB_0]; exact decide_eq_false (by omega)
            have e7 : (hmB (hmIsS t 42)) = 0 := by rw [k7, hmB_0]; exact decide_eq_false (by omega)
            have e8 : (hmB (hmIsS t 60)) = 0 := by rw [k8, hmB_0]; exact decide_eq_false (by omega)
            have e9 : (hmB (hmIsS t 61)) = 0 := by rw [k9, hmB_0]; exact decide_eq_false (by omega)
            have e10 : (hmB (hmIsW t wAnd)) = 0 := by rw [k10, hmB_0]; exact decide_eq_false (by omega)
            have e11 : (hmB (hmIsW t wOr)) = 0 := by rw [k11, hmB_0]; exact decide_eq_false (by omega)
            have e3 : (hmB (hmIsS t 41)) = 1 := by rw [k3, hmB_1]; exact decide_eq_true (by omega)
            have e4 : (hmB (hmIsS t 59)) = 0 := by rw [k4, hmB_0]; exact decide_eq_false (by omega)
            refine Ex_iload_n 12 (i := 2) dX9_reads_11 rfl rfl rfl ?_
            refine Ex_if_eq 15 179 dX9_reads_12 (by decide) rfl (fun c1 => ?_) (fun c1 => absurd c1 (fun q => q (by decide)))
            refine Ex_aload_n 180 (i := 0) dX9_reads_179 rfl rfl rfl ?_
            refine Ex_bipush 182 (v := 43) dX9_reads_180 (by decide) rfl ?_
            refine Ex_callV (M' := MX9_isSign) 185 [.int 43] (rest := []) dX9_reads_182 lX9_189 mX9_isSign rfl (xMs_0 hm) rfl (Nat.le_of_ble_eq_true rfl) (Nat.le_of_ble_eq_true rfl) rfl ?_
            refine mc_isSign hm hA (c := 43) (by decide) ?_
            simp only [Option.toList, List.cons_append, List.nil_append]
            rw [e5]
            refine Ex_if_ne 188 206 dX9_reads_185 (by decide) rfl (fun c2 => absurd c2 (fun q => q (by decide))) (fun c2 => ?_)
            refine Ex_aload_n 189 (i := 0) dX9_reads_188 rfl rfl rfl ?_
            refine Ex_bipush 191 (v := 45) dX9_reads_189 (by decide) rfl ?_
            refine Ex_callV (M' := MX9_isSign) 194 [.int 45] (rest := []) dX9_reads_191 lX9_189 mX9_isSign rfl (xMs_0 hm) rfl (Nat.le_of_ble_eq_true rfl) (Nat.le_of_ble_eq_true rfl) rfl ?_
            refine mc_isSign hm hA (c := 45) (by decide) ?_
            simp only [Option.toList, List.cons_append, List.nil_append]
            rw [e6]
            refine Ex_if_ne 197 206 dX9_reads_194 (by decide) rfl (fun c3 => absurd c3 (fun q => q (by decide))) (fun c3 => ?_)
            refine Ex_aload_n 198 (i := 0) dX9_reads_197 rfl rfl rfl ?_
            refine Ex_bipush 200 (v := 42) dX9_reads_198 (by decide) rfl ?_
            refine Ex_callV (M' := MX9_isSign) 203 [.int 42] (rest := []) dX9_reads_200 lX9_189 mX9_isSign rfl (xMs_0 hm) rfl (Nat.le_of_ble_eq_true rfl) (Nat.le_of_ble_eq_true rfl) rfl ?_
            refine mc_isSign hm hA (c := 42) (by decide) ?_
            simp only [Option.toList, List.cons_append, List.nil_append]
            rw [e7]
            refine Ex_if_eq 206 245 dX9_reads_203 (by decide) rfl (fun c4 => ?_) (fun c4 => absurd c4 (fun q => q (by decide)))
            refine Ex_aload_n 246 (i := 0) dX9_reads_245 rfl rfl rfl ?_
            refine Ex_bipush 248 (v := 60) dX9_reads_246 (by decide) rfl ?_
            refine Ex_callV (M' := MX9_isSign) 251 [.int 60] (rest := []) dX9_reads_248 lX9_189 mX9_isSign rfl (xMs_0 hm) rfl (Nat.le_of_ble_eq_true rfl) (Nat.le_of_ble_eq_true rfl) rfl ?_
            refine mc_isSign hm hA (c := 60) (by decide) ?_
            simp only [Option.toList, List.cons_append, List.nil_append]
            rw [e8]
            refine Ex_if_ne 254 263 dX9_reads_251 (by decide) rfl (fun c5 => absurd c5 (fun q => q (by decide))) (fun c5 => ?_)
            refine Ex_aload_n 255 (i := 0) dX9_reads_254 rfl rfl rfl ?_
            refine Ex_bipush 257 (v := 61) dX9_reads_255 (by decide) rfl ?_
            refine Ex_callV (M' := MX9_isSign) 260 [.int 61] (rest := []) dX9_reads_257 lX9_189 mX9_isSign rfl (xMs_0 hm) rfl (Nat.le_of_ble_eq_true rfl) (Nat.le_of_ble_eq_true rfl) rfl ?_
            refine mc_isSign hm hA (c := 61) (by decide) ?_
            simp only [Option.toList, List.cons_append, List.nil_append]
            rw [e9]
            refine Ex_if_eq 263 304 dX9_reads_260 (by decide) rfl (fun c6 => ?_) (fun c6 => absurd c6 (fun q => q (by decide)))
            refine Ex_aload_n 305 (i := 0) dX9_reads_304 rfl rfl rfl ?_
            refine Ex_ldc2 308 (v := 1111) dX9_reads_305 kX9_203 rfl ?_
            refine Ex_callV (M' := MX9_isWord) 311 [.long 1111] (rest := []) dX9_reads_308 lX9_185 mX9_isWord rfl (xMs_0 hm) rfl (Nat.le_of_ble_eq_true rfl) (Nat.le_of_ble_eq_true rfl) rfl ?_
            refine mc_isWord hm hA (l := wAnd) (by decide +kernel) (by unfold hmWd; decide) ?_
            simp only [Option.toList, List.cons_append, List.nil_append]
            rw [e10]
            refine Ex_if_ne 314 324 dX9_reads_311 (by decide) rfl (fun c7 => absurd c7 (fun q => q (by decide))) (fun c7 => ?_)
            refine Ex_aload_n 315 (i := 0) dX9_reads_314 rfl rfl rfl ?_
            refine Ex_ldc2 318 (v := 423) dX9_reads_315 kX9_205 rfl ?_
            refine Ex_callV (M' := MX9_isWord) 321 [.long 423] (rest := []) dX9_reads_318 lX9_185 mX9_isWord rfl (xMs_0 hm) rfl (Nat.le_of_ble_eq_true rfl) (Nat.le_of_ble_eq_true rfl) rfl ?_
            refine mc_isWord hm hA (l := wOr) (by decide +kernel) (by unfold hmWd; decide) ?_
            simp only [Option.toList, List.cons_append, List.nil_append]
            rw [e11]
            refine Ex_if_eq 324 357 dX9_reads_321 (by decide) rfl (fun c8 => ?_) (fun c8 => absurd c8 (fun q => q (by decide)))
            refine Ex_aload_n 358 (i := 0) dX9_reads_357 rfl rfl rfl ?_
            refine Ex_bipush 360 (v := 41) dX9_reads_358 (by decide) rfl ?_
            refine Ex_callV (M' := MX9_isSign) 363 [.int 41] (rest := []) dX9_reads_360 lX9_189 mX9_isSign rfl (xMs_0 hm) rfl (Nat.le_of_ble_eq_true rfl) (Nat.le_of_ble_eq_true rfl) rfl ?_
            refine mc_isSign hm hA (c := 41) (by decide) ?_
            simp only [Option.toList, List.cons_append, List.nil_append]
            rw [e3]
            refine Ex_if_eq 366 399 dX9_reads_363 (by decide) rfl (fun c9 => absurd c9 (by decide)) (fun c9 => ?_)
            refine Ex_iload_n 367 (i := 1) dX9_reads_366 rfl rfl rfl ?_
            refine Ex_if_le 370 399 dX9_reads_367 (by decide) rfl (fun c10 => ?_) (fun c10 => absurd c10 (fun q => q (by decide)))
            refine Ex_iload_n 400 (i := 1) dX9_reads_399 rfl rfl rfl ?_
            refine Ex_if_ne 403 418 dX9_reads_400 (by decide) rfl (fun c11 => absurd c11 (fun q => q rfl)) (fun c11 => ?_)
            refine Ex_aload_n 404 (i := 0) dX9_reads_403 rfl rfl rfl ?_
            refine Ex_bipush 406 (v := 59) dX9_reads_404 (by decide) rfl ?_
            refine Ex_callV (M' := MX9_isSign) 409 [.int 59] (rest := []) dX9_reads_406 lX9_189 mX9_isSign rfl (xMs_0 hm) rfl (Nat.le_of_ble_eq_true rfl) (Nat.le_of_ble_eq_true rfl) rfl ?_
            refine mc_isSign hm hA (c := 59) (by decide) ?_
            simp only [Option.toList, List.cons_append, List.nil_append]
            rw [e4]
            refine Ex_if_eq 412 418 dX9_reads_409 (by decide) rfl (fun c12 => ?_) (fun c12 => absurd c12 (fun q => q (by decide)))
            refine Ex_aload_n 419 (i := 0) dX9_reads_418 rfl rfl rfl ?_
            refine Ex_iconst 420 (v := 1) dX9_reads_419 (by decide) rfl ?_
            refine Ex_callV (M' := MX9_fails) 423 [.int 1] (rest := []) dX9_reads_420 lX9_193 mX9_fails rfl (xMs_0 hm) rfl (Nat.le_of_ble_eq_true rfl) (Nat.le_of_ble_eq_true rfl) rfl ?_
            refine mc_fails (k := 1) hm hA ?_
            simp only [Option.toList, List.nil_append, List.cons_append]
            refine Ex_iret dX9_reads_423 rfl (by decide) (Or.inl rfl) ?_
            have hfl := hmFl_lt (k := 1) (t := t) (by omega) (by omega) hA.pl
            exact hF (hmFl 1 t) _ LL (he.trans (eS)) hfl.1 hfl.2 (gJ.tr hmRf.fl) gL (by rw [va_up_self, va_up_self])
          · obtain ⟨u9, hu9⟩ : ∃ u9, lr.length = u9 + 1 := ⟨lr.length - 1, by have h9 : ¬ lr.length = 0 := (fun q => hlr (List.length_eq_zero_iff.mp q)); omega⟩
            have hlk2 := (hlk.2 hlr).2
            rw [hu9]
            have eS : hmLm (t :: r) false ((x, c) :: lr) cs = hmLm r false (hmPn lr) (cs ++ [29]) := by
              rw [hmLm_f, if_neg (by omega), if_neg (fun q => by omega), if_neg (by omega), if_pos ⟨hk, by rw [List.length_cons]; omega⟩]
              rfl
            have ht0 : ¬ t.1 = 0 := fun q => by rw [hm_k0 q] at hk; omega
            have hr2 := hr0 ht0
            have e5 : (hmB (hmIsS t 43)) = 0 := by rw [k5, hmB_0]; exact decide_eq_false (by omega)
            have e6 : (hmB (hmIsS t 45)) = 0 := by rw [k6, hmB_0]; exact decide_eq_false (by omega)
            have e7 : (hmB (hmIsS t 42)) = 0 := by rw [k7, hmB_0]; exact decide_eq_false (by omega)
            have e8 : (hmB (hmIsS t 60)) = 0 := by rw [k8, hmB_0]; exact decide_eq_false (by omega)
            have e9 : (hmB (hmIsS t 61)) = 0 := by rw [k9, hmB_0]; exact decide_eq_false (by omega)
            have e10 : (hmB (hmIsW t wAnd)) = 0 := by rw [k10, hmB_0]; exact decide_eq_false (by omega)
            have e11 : (hmB (hmIsW t wOr)) = 0 := by rw [k11, hmB_0]; exact decide_eq_false (by omega)
            have e3 : (hmB (hmIsS t 41)) = 1 := by rw [k3, hmB_1]; exact decide_eq_true (by omega)
            have e4 : (hmB (hmIsS t 59)) = 0 := by rw [k4, hmB_0]; exact decide_eq_false (by omega)
            refine Ex_iload_n 12 (i := 2) dX9_reads_11 rfl rfl rfl ?_
            refine Ex_if_eq 15 179 dX9_reads_12 (by decide) rfl (fun c1 => ?_) (fun c1 => absurd c1 (fun q => q (by decide)))
            refine Ex_aload_n 180 (i := 0) dX9_reads_179 rfl rfl rfl ?_
            refine Ex_bipush 182 (v := 43) dX9_reads_180 (by decide) rfl ?_
            refine Ex_callV (M' := MX9_isSign) 185 [.int 43] (rest := []) dX9_reads_182 lX9_189 mX9_isSign rfl (xMs_0 hm) rfl (Nat.le_of_ble_eq_true rfl) (Nat.le_of_ble_eq_true rfl) rfl ?_
            refine mc_isSign hm hA (c := 43) (by decide) ?_
            simp only [Option.toList, List.cons_append, List.nil_append]
            rw [e5]
            refine Ex_if_ne 188 206 dX9_reads_185 (by decide) rfl (fun c2 => absurd c2 (fun q => q (by decide))) (fun c2 => ?_)
            refine Ex_aload_n 189 (i := 0) dX9_reads_188 rfl rfl rfl ?_
            refine Ex_bipush 191 (v := 45) dX9_reads_189 (by decide) rfl ?_
            refine Ex_callV (M' := MX9_isSign) 194 [.int 45] (rest := []) dX9_reads_191 lX9_189 mX9_isSign rfl (xMs_0 hm) rfl (Nat.le_of_ble_eq_true rfl) (Nat.le_of_ble_eq_true rfl) rfl ?_
            refine mc_isSign hm hA (c := 45) (by decide) ?_
            simp only [Option.toList, List.cons_append, List.nil_append]
            rw [e6]
            refine Ex_if_ne 197 206 dX9_reads_194 (by decide) rfl (fun c3 => absurd c3 (fun q => q (by decide))) (fun c3 => ?_)
            refine Ex_aload_n 198 (i := 0) dX9_reads_197 rfl rfl rfl ?_
            refine Ex_bipush 200 (v := 42) dX9_reads_198 (by decide) rfl ?_
            refine Ex_callV (M' := MX9_isSign) 203 [.int 42] (rest := []) dX9_reads_200 lX9_189 mX9_isSign rfl (xMs_0 hm) rfl (Nat.le_of_ble_eq_true rfl) (Nat.le_of_ble_eq_true rfl) rfl ?_
            refine mc_isSign hm hA (c := 42) (by decide) ?_
            simp only [Option.toList, List.cons_append, List.nil_append]
            rw [e7]
            refine Ex_if_eq 206 245 dX9_reads_203 (by decide) rfl (fun c4 => ?_) (fun c4 => absurd c4 (fun q => q (by decide)))
            refine Ex_aload_n 246 (i := 0) dX9_reads_245 rfl rfl rfl ?_
            refine Ex_bipush 248 (v := 60) dX9_reads_246 (by decide) rfl ?_
            refine Ex_callV (M' := MX9_isSign) 251 [.int 60] (rest := []) dX9_reads_248 lX9_189 mX9_isSign rfl (xMs_0 hm) rfl (Nat.le_of_ble_eq_true rfl) (Nat.le_of_ble_eq_true rfl) rfl ?_
            refine mc_isSign hm hA (c := 60) (by decide) ?_
            simp only [Option.toList, List.cons_append, List.nil_append]
            rw [e8]
            refine Ex_if_ne 254 263 dX9_reads_251 (by decide) rfl (fun c5 => absurd c5 (fun q => q (by decide))) (fun c5 => ?_)
            refine Ex_aload_n 255 (i := 0) dX9_reads_254 rfl rfl rfl ?_
            refine Ex_bipush 257 (v := 61) dX9_reads_255 (by decide) rfl ?_
            refine Ex_callV (M' := MX9_isSign) 260 [.int 61] (rest := []) dX9_reads_257 lX9_189 mX9_isSign rfl (xMs_0 hm) rfl (Nat.le_of_ble_eq_true rfl) (Nat.le_of_ble_eq_true rfl) rfl ?_
            refine mc_isSign hm hA (c := 61) (by decide) ?_
            simp only [Option.toList, List.cons_append, List.nil_append]
            rw [e9]
            refine Ex_if_eq 263 304 dX9_reads_260 (by decide) rfl (fun c6 => ?_) (fun c6 => absurd c6 (fun q => q (by decide)))
            refine Ex_aload_n 305 (i := 0) dX9_reads_304 rfl rfl rfl ?_
            refine Ex_ldc2 308 (v := 1111) dX9_reads_305 kX9_203 rfl ?_
            refine Ex_callV (M' := MX9_isWord) 311 [.long 1111] (rest := []) dX9_reads_308 lX9_185 mX9_isWord rfl (xMs_0 hm) rfl (Nat.le_of_ble_eq_true rfl) (Nat.le_of_ble_eq_true rfl) rfl ?_
            refine mc_isWord hm hA (l := wAnd) (by decide +kernel) (by unfold hmWd; decide) ?_
            simp only [Option.toList, List.cons_append, List.nil_append]
            rw [e10]
            refine Ex_if_ne 314 324 dX9_reads_311 (by decide) rfl (fun c7 => absurd c7 (fun q => q (by decide))) (fun c7 => ?_)
            refine Ex_aload_n 315 (i := 0) dX9_reads_314 rfl rfl rfl ?_
            refine Ex_ldc2 318 (v := 423) dX9_reads_315 kX9_205 rfl ?_
            refine Ex_callV (M' := MX9_isWord) 321 [.long 423] (rest := []) dX9_reads_318 lX9_185 mX9_isWord rfl (xMs_0 hm) rfl (Nat.le_of_ble_eq_true rfl) (Nat.le_of_ble_eq_true rfl) rfl ?_
            refine mc_isWord hm hA (l := wOr) (by decide +kernel) (by unfold hmWd; decide) ?_
            simp only [Option.toList, List.cons_append, List.nil_append]
            rw [e11]
            refine Ex_if_eq 324 357 dX9_reads_321 (by decide) rfl (fun c8 => ?_) (fun c8 => absurd c8 (fun q => q (by decide)))
            refine Ex_aload_n 358 (i := 0) dX9_reads_357 rfl rfl rfl ?_
            refine Ex_bipush 360 (v := 41) dX9_reads_358 (by decide) rfl ?_
            refine Ex_callV (M' := MX9_isSign) 363 [.int 41] (rest := []) dX9_reads_360 lX9_189 mX9_isSign rfl (xMs_0 hm) rfl (Nat.le_of_ble_eq_true rfl) (Nat.le_of_ble_eq_true rfl) rfl ?_
            refine mc_isSign hm hA (c := 41) (by decide) ?_
            simp only [Option.toList, List.cons_append, List.nil_append]
            rw [e3]
            refine Ex_if_eq 366 399 dX9_reads_363 (by decide) rfl (fun c9 => absurd c9 (by decide)) (fun c9 => ?_)
            refine Ex_iload_n 367 (i := 1) dX9_reads_366 rfl rfl rfl ?_
            refine Ex_if_le 370 399 dX9_reads_367 (by decide) rfl (fun c10 => absurd c10 (fun q => absurd (hm_le0 (by omega) q) (by omega))) (fun c10 => ?_)
            refine Ex_aload_n 371 (i := 0) dX9_reads_370 rfl rfl rfl ?_
            refine Ex_bipush 373 (v := 29) dX9_reads_371 (by decide) rfl ?_
            refine Ex_callV (M' := MX9_puts) 376 [.int 29] (rest := []) dX9_reads_373 lX9_196 mX9_puts rfl (xMs_0 hm) rfl (Nat.le_of_ble_eq_true rfl) (Nat.le_of_ble_eq_true rfl) rfl ?_
            refine mc_puts (k := 1000 + cs.length) hm hcd.1 (by omega) ?_
            simp only [Option.toList, List.nil_append, List.cons_append]
            refine Ex_iinc 379 (v := (nI u9)) (ls' := [some (.ref m), some (.int (nI u9)), some (.int 0), none, none, none]) dX9_reads_376 rfl (pk_m1 u9) (Nat.le_of_ble_eq_true rfl) rfl rfl rfl ?_
            refine mc_pop2 (x3 := 0) (x4 := 0) (x5 := 0) hm lr u9 hlk2 (hmOp.kept _ ho.2.2 (fun k hk => by rw [va_up_ne _ _ (by omega), va_up_ne _ _ (by omega), va_up_ne _ _ (by omega), va_up_ne _ _ (by omega)]; exact ⟨rfl, rfl⟩)) (by omega) (by omega) (fun u8 hu8 => ?_)
            refine Ex_aload_n 425 (i := 0) dX9_reads_424 rfl rfl rfl ?_
            refine Ex_callV (M' := MX9_nextToken) 428 [] (rest := []) dX9_reads_425 lX9_200 mX9_nextToken rfl (xMs_0 hm) rfl (Nat.le_of_ble_eq_true rfl) (Nat.le_of_ble_eq_true rfl) rfl ?_
            have hAx : hmAm (va_up (va_up J (m + 10) (va_up (J (m + 10)) (1000 + cs.length) 29)) m (va_up (J m) 19 (nI (1000 + cs.length + 1)))) LL m T t r := hA.kept (fun k hk => by rw [va_up_self, va_up_ne _ _ (by omega)]) (by rw [va_up_ne _ _ (by omega), va_up_ne _ _ (by omega)]) rfl
            refine mc_nxt hm hAx hc ht0 (fun t1 r1 I1 L1 er1 gs1 gt1 hA1 => ?_)
            simp only [Option.toList, List.nil_append, List.cons_append]
            refine Ex_goto 11 dX9_reads_428 (by decide) ?_
            refine Ex_fgt (ls' := [some (.ref m), some (.int (nI u8)), some (.int 0), none, none, none]) (by simp [xsub]) ?_
            have gM : hmRf m I (va_up (va_up J (m + 10) (va_up (J (m + 10)) (1000 + cs.length) 29)) m (va_up (J m) 19 (nI (1000 + cs.length + 1)))) := by
              have z0 := gJ.tr (hmRf.pt (m := m) (k := 1000 + cs.length) (I := J) (x := 29) (v := nI (1000 + cs.length + 1)) (by omega))
              exact z0
            have eL : (hmLm ts true [(0, false)] []) = hmLm (t1 :: r1) false (hmPn lr) (cs ++ [29]) := by rw [he, eS, er1]
            have hcd1 : hmCd I1 m (cs ++ [29]) := (hcd.put (x := 29)).kept (by rw [gs1.2 19 (by omega) (by omega) (by omega) (by omega)]) (by rw [gs1.1 (m + 10) (by omega)])
            rw [er1] at hn hb
            have zz : (t :: t1 :: r1).length = (t1 :: r1).length + 1 := rfl
            have zc : (cs ++ [29]).length = cs.length + 1 := by rw [List.length_append]; rfl
            exact ih t1 r1 (hmPn lr) (cs ++ [29]) false I1 L1 u8 (by omega) (by omega) hu8 (hmLk_pn _ hlk2) (by have := hmPn_len lr; omega) eL (gM.tr (hmRf.nf gs1)) (gL.tr gt1) (hmOp_pn _ (hmOp.kept _ ho.2.2 (fun k hk => by rw [gs1.1 (m + 11) (by omega), gs1.1 (m + 12) (by omega), va_up_ne _ _ (by omega), va_up_ne _ _ (by omega), va_up_ne _ _ (by omega), va_up_ne _ _ (by omega)]; exact ⟨rfl, rfl⟩))) hcd1 hA1
        by_cases n4 : hmKd t = 4
        · have hk := n4
          by_cases hlr : lr = []
          · subst hlr
            have eS : hmLm (t :: r) false [(x, c)] cs = .inr (cs, r) := by
              rw [hmLm_f, if_neg (by omega), if_neg (fun q => by omega), if_neg (by omega), if_neg (fun q => by omega), if_pos ⟨rfl, hk⟩]
            have ht0 : ¬ t.1 = 0 := fun q => by rw [hm_k0 q] at hk; omega
            have hr2 := hr0 ht0
            have e5 : (hmB (hmIsS t 43)) = 0 := by rw [k5, hmB_0]; exact decide_eq_false (by omega)
            have e6 : (hmB (hmIsS t 45)) = 0 := by rw [k6, hmB_0]; exact decide_eq_false (by omega)
            have e7 : (hmB (hmIsS t 42)) = 0 := by rw [k7, hmB_0]; exact decide_eq_false (by omega)
            have e8 : (hmB (hmIsS t 60)) = 0 := by rw [k8, hmB_0]; exact decide_eq_false (by omega)
            have e9 : (hmB (hmIsS t 61)) = 0 := by rw [k9, hmB_0]; exact decide_eq_false (by omega)
            have e10 : (hmB (hmIsW t wAnd)) = 0 := by rw [k10, hmB_0]; exact decide_eq_false (by omega)
            have e11 : (hmB (hmIsW t wOr)) = 0 := by rw [k11, hmB_0]; exact decide_eq_false (by omega)
            have e3 : (hmB (hmIsS t 41)) = 0 := by rw [k3, hmB_0]; exact decide_eq_false (by omega)
            have e4 : (hmB (hmIsS t 59)) = 1 := by rw [k4, hmB_1]; exact decide_eq_true (by omega)
            refine Ex_iload_n 12 (i := 2) dX9_reads_11 rfl rfl rfl ?_
            refine Ex_if_eq 15 179 dX9_reads_12 (by decide) rfl (fun c1 => ?_) (fun c1 => absurd c1 (fun q => q (by decide)))
            refine Ex_aload_n 180 (i := 0) dX9_reads_179 rfl rfl rfl ?_
            refine Ex_bipush 182 (v := 43) dX9_reads_180 (by decide) rfl ?_
            refine Ex_callV (M' := MX9_isSign) 185 [.int 43] (rest := []) dX9_reads_182 lX9_189 mX9_isSign rfl (xMs_0 hm) rfl (Nat.le_of_ble_eq_true rfl) (Nat.le_of_ble_eq_true rfl) rfl ?_
            refine mc_isSign hm hA (c := 43) (by decide) ?_
            simp only [Option.toList, List.cons_append, List.nil_append]
            rw [e5]
            refine Ex_if_ne 188 206 dX9_reads_185 (by decide) rfl (fun c2 => absurd c2 (fun q => q (by decide))) (fun c2 => ?_)
            refine Ex_aload_n 189 (i := 0) dX9_reads_188 rfl rfl rfl ?_
            refine Ex_bipush 191 (v := 45) dX9_reads_189 (by decide) rfl ?_
            refine Ex_callV (M' := MX9_isSign) 194 [.int 45] (rest := []) dX9_reads_191 lX9_189 mX9_isSign rfl (xMs_0 hm) rfl (Nat.le_of_ble_eq_true rfl) (Nat.le_of_ble_eq_true rfl) rfl ?_
            refine mc_isSign hm hA (c := 45) (by decide) ?_
            simp only [Option.toList, List.cons_append, List.nil_append]
            rw [e6]
            refine Ex_if_ne 197 206 dX9_reads_194 (by decide) rfl (fun c3 => absurd c3 (fun q => q (by decide))) (fun c3 => ?_)
            refine Ex_aload_n 198 (i := 0) dX9_reads_197 rfl rfl rfl ?_
            refine Ex_bipush 200 (v := 42) dX9_reads_198 (by decide) rfl ?_
            refine Ex_callV (M' := MX9_isSign) 203 [.int 42] (rest := []) dX9_reads_200 lX9_189 mX9_isSign rfl (xMs_0 hm) rfl (Nat.le_of_ble_eq_true rfl) (Nat.le_of_ble_eq_true rfl) rfl ?_
            refine mc_isSign hm hA (c := 42) (by decide) ?_
            simp only [Option.toList, List.cons_append, List.nil_append]
            rw [e7]
            refine Ex_if_eq 206 245 dX9_reads_203 (by decide) rfl (fun c4 => ?_) (fun c4 => absurd c4 (fun q => q (by decide)))
            refine Ex_aload_n 246 (i := 0) dX9_reads_245 rfl rfl rfl ?_
            refine Ex_bipush 248 (v := 60) dX9_reads_246 (by decide) rfl ?_
            refine Ex_callV (M' := MX9_isSign) 251 [.int 60] (rest := []) dX9_reads_248 lX9_189 mX9_isSign rfl (xMs_0 hm) rfl (Nat.le_of_ble_eq_true rfl) (Nat.le_of_ble_eq_true rfl) rfl ?_
            refine mc_isSign hm hA (c := 60) (by decide) ?_
            simp only [Option.toList, List.cons_append, List.nil_append]
            rw [e8]
            refine Ex_if_ne 254 263 dX9_reads_251 (by decide) rfl (fun c5 => absurd c5 (fun q => q (by decide))) (fun c5 => ?_)
            refine Ex_aload_n 255 (i := 0) dX9_reads_254 rfl rfl rfl ?_
            refine Ex_bipush 257 (v := 61) dX9_reads_255 (by decide) rfl ?_
            refine Ex_callV (M' := MX9_isSign) 260 [.int 61] (rest := []) dX9_reads_257 lX9_189 mX9_isSign rfl (xMs_0 hm) rfl (Nat.le_of_ble_eq_true rfl) (Nat.le_of_ble_eq_true rfl) rfl ?_
            refine mc_isSign hm hA (c := 61) (by decide) ?_
            simp only [Option.toList, List.cons_append, List.nil_append]
            rw [e9]
            refine Ex_if_eq 263 304 dX9_reads_260 (by decide) rfl (fun c6 => ?_) (fun c6 => absurd c6 (fun q => q (by decide)))
            refine Ex_aload_n 305 (i := 0) dX9_reads_304 rfl rfl rfl ?_
            refine Ex_ldc2 308 (v := 1111) dX9_reads_305 kX9_203 rfl ?_
            refine Ex_callV (M' := MX9_isWord) 311 [.long 1111] (rest := []) dX9_reads_308 lX9_185 mX9_isWord rfl (xMs_0 hm) rfl (Nat.le_of_ble_eq_true rfl) (Nat.le_of_ble_eq_true rfl) rfl ?_
            refine mc_isWord hm hA (l := wAnd) (by decide +kernel) (by unfold hmWd; decide) ?_
            simp only [Option.toList, List.cons_append, List.nil_append]
            rw [e10]
            refine Ex_if_ne 314 324 dX9_reads_311 (by decide) rfl (fun c7 => absurd c7 (fun q => q (by decide))) (fun c7 => ?_)
            refine Ex_aload_n 315 (i := 0) dX9_reads_314 rfl rfl rfl ?_
            refine Ex_ldc2 318 (v := 423) dX9_reads_315 kX9_205 rfl ?_
            refine Ex_callV (M' := MX9_isWord) 321 [.long 423] (rest := []) dX9_reads_318 lX9_185 mX9_isWord rfl (xMs_0 hm) rfl (Nat.le_of_ble_eq_true rfl) (Nat.le_of_ble_eq_true rfl) rfl ?_
            refine mc_isWord hm hA (l := wOr) (by decide +kernel) (by unfold hmWd; decide) ?_
            simp only [Option.toList, List.cons_append, List.nil_append]
            rw [e11]
            refine Ex_if_eq 324 357 dX9_reads_321 (by decide) rfl (fun c8 => ?_) (fun c8 => absurd c8 (fun q => q (by decide)))
            refine Ex_aload_n 358 (i := 0) dX9_reads_357 rfl rfl rfl ?_
            refine Ex_bipush 360 (v := 41) dX9_reads_358 (by decide) rfl ?_
            refine Ex_callV (M' := MX9_isSign) 363 [.int 41] (rest := []) dX9_reads_360 lX9_189 mX9_isSign rfl (xMs_0 hm) rfl (Nat.le_of_ble_eq_true rfl) (Nat.le_of_ble_eq_true rfl) rfl ?_
            refine mc_isSign hm hA (c := 41) (by decide) ?_
            simp only [Option.toList, List.cons_append, List.nil_append]
            rw [e3]
            refine Ex_if_eq 366 399 dX9_reads_363 (by decide) rfl (fun c9 => ?_) (fun c9 => absurd c9 (fun q => q (by decide)))
            refine Ex_iload_n 400 (i := 1) dX9_reads_399 rfl rfl rfl ?_
            refine Ex_if_ne 403 418 dX9_reads_400 (by decide) rfl (fun c10 => absurd c10 (fun q => q rfl)) (fun c10 => ?_)
            refine Ex_aload_n 404 (i := 0) dX9_reads_403 rfl rfl rfl ?_
            refine Ex_bipush 406 (v := 59) dX9_reads_404 (by decide) rfl ?_
            refine Ex_callV (M' := MX9_isSign) 409 [.int 59] (rest := []) dX9_reads_406 lX9_189 mX9_isSign rfl (xMs_0 hm) rfl (Nat.le_of_ble_eq_true rfl) (Nat.le_of_ble_eq_true rfl) rfl ?_
            refine mc_isSign hm hA (c := 59) (by decide) ?_
            simp only [Option.toList, List.cons_append, List.nil_append]
            rw [e4]
            refine Ex_if_eq 412 418 dX9_reads_409 (by decide) rfl (fun c11 => absurd c11 (by decide)) (fun c11 => ?_)
            refine Ex_aload_n 413 (i := 0) dX9_reads_412 rfl rfl rfl ?_
            refine Ex_callV (M' := MX9_nextToken) 416 [] (rest := []) dX9_reads_413 lX9_200 mX9_nextToken rfl (xMs_0 hm) rfl (Nat.le_of_ble_eq_true rfl) (Nat.le_of_ble_eq_true rfl) rfl ?_
            refine mc_nxt hm hA hc ht0 (fun t1 r1 I1 L1 er1 gs1 gt1 hA1 => ?_)
            simp only [Option.toList, List.nil_append, List.cons_append]
            refine Ex_iconst 417 (v := 1) dX9_reads_416 (by decide) rfl ?_
            refine Ex_iret dX9_reads_417 rfl (by decide) (Or.inl rfl) ?_
            exact hQ cs t1 r1 I1 L1 (by rw [he, eS, er1]) (gJ.tr (hmRf.nf gs1)) (gL.tr gt1) (hcd.kept (gs1.2 19 (by omega) (by omega) (by omega) (by omega)) (gs1.1 _ (by omega))) hA1
          · have h9 : ¬ lr.length = 0 := fun q => hlr (List.length_eq_zero_iff.mp q)
            have eS : hmLm (t :: r) false ((x, c) :: lr) cs = .inl (hmFl 1 t) := by
              rw [hmLm_f, if_neg (by omega), if_neg (fun q => by omega), if_neg (by omega), if_neg (fun q => by omega), if_neg (fun q => by have := q.1; rw [List.length_cons] at this; omega)]
              rfl
            have ht0 : ¬ t.1 = 0 := fun q => by rw [hm_k0 q] at hk; omega
            have hr2 := hr0 ht0
            have e5 : (hmB (hmIsS t 43)) = 0 := by rw [k5, hmB_0]; exact decide_eq_false (by omega)
            have e6 : (hmB (hmIsS t 45)) = 0 := by rw [k6, hmB_0]; exact decide_eq_false (by omega)
            have e7 : (hmB (hmIsS t 42)) = 0 := by rw [k7, hmB_0]; exact decide_eq_false (by omega)
            have e8 : (hmB (hmIsS t 60)) = 0 := by rw [k8, hmB_0]; exact decide_eq_false (by omega)
            have e9 : (hmB (hmIsS t 61)) = 0 := by rw [k9, hmB_0]; exact decide_eq_false (by omega)
            have e10 : (hmB (hmIsW t wAnd)) = 0 := by rw [k10, hmB_0]; exact decide_eq_false (by omega)
            have e11 : (hmB (hmIsW t wOr)) = 0 := by rw [k11, hmB_0]; exact decide_eq_false (by omega)
            have e3 : (hmB (hmIsS t 41)) = 0 := by rw [k3, hmB_0]; exact decide_eq_false (by omega)
            have e4 : (hmB (hmIsS t 59)) = 1 := by rw [k4, hmB_1]; exact decide_eq_true (by omega)
            refine Ex_iload_n 12 (i := 2) dX9_reads_11 rfl rfl rfl ?_
            refine Ex_if_eq 15 179 dX9_reads_12 (by decide) rfl (fun c1 => ?_) (fun c1 => absurd c1 (fun q => q (by decide)))
            refine Ex_aload_n 180 (i := 0) dX9_reads_179 rfl rfl rfl ?_
            refine Ex_bipush 182 (v := 43) dX9_reads_180 (by decide) rfl ?_
            refine Ex_callV (M' := MX9_isSign) 185 [.int 43] (rest := []) dX9_reads_182 lX9_189 mX9_isSign rfl (xMs_0 hm) rfl (Nat.le_of_ble_eq_true rfl) (Nat.le_of_ble_eq_true rfl) rfl ?_
            refine mc_isSign hm hA (c := 43) (by decide) ?_
            simp only [Option.toList, List.cons_append, List.nil_append]
            rw [e5]
            refine Ex_if_ne 188 206 dX9_reads_185 (by decide) rfl (fun c2 => absurd c2 (fun q => q (by decide))) (fun c2 => ?_)
            refine Ex_aload_n 189 (i := 0) dX9_reads_188 rfl rfl rfl ?_
            refine Ex_bipush 191 (v := 45) dX9_reads_189 (by decide) rfl ?_
            refine Ex_callV (M' := MX9_isSign) 194 [.int 45] (rest := []) dX9_reads_191 lX9_189 mX9_isSign rfl (xMs_0 hm) rfl (Nat.le_of_ble_eq_true rfl) (Nat.le_of_ble_eq_true rfl) rfl ?_
            refine mc_isSign hm hA (c := 45) (by decide) ?_
            simp only [Option.toList, List.cons_append, List.nil_append]
            rw [e6]
            refine Ex_if_ne 197 206 dX9_reads_194 (by decide) rfl (fun c3 => absurd c3 (fun q => q (by decide))) (fun c3 => ?_)
            refine Ex_aload_n 198 (i := 0) dX9_reads_197 rfl rfl rfl ?_
            refine Ex_bipush 200 (v := 42) dX9_reads_198 (by decide) rfl ?_
            refine Ex_callV (M' := MX9_isSign) 203 [.int 42] (rest := []) dX9_reads_200 lX9_189 mX9_isSign rfl (xMs_0 hm) rfl (Nat.le_of_ble_eq_true rfl) (Nat.le_of_ble_eq_true rfl) rfl ?_
            refine mc_isSign hm hA (c := 42) (by decide) ?_
            simp only [Option.toList, List.cons_append, List.nil_append]
            rw [e7]
            refine Ex_if_eq 206 245 dX9_reads_203 (by decide) rfl (fun c4 => ?_) (fun c4 => absurd c4 (fun q => q (by decide)))
            refine Ex_aload_n 246 (i := 0) dX9_reads_245 rfl rfl rfl ?_
            refine Ex_bipush 248 (v := 60) dX9_reads_246 (by decide) rfl ?_
            refine Ex_callV (M' := MX9_isSign) 251 [.int 60] (rest := []) dX9_reads_248 lX9_189 mX9_isSign rfl (xMs_0 hm) rfl (Nat.le_of_ble_eq_true rfl) (Nat.le_of_ble_eq_true rfl) rfl ?_
            refine mc_isSign hm hA (c := 60) (by decide) ?_
            simp only [Option.toList, List.cons_append, List.nil_append]
            rw [e8]
            refine Ex_if_ne 254 263 dX9_reads_251 (by decide) rfl (fun c5 => absurd c5 (fun q => q (by decide))) (fun c5 => ?_)
            refine Ex_aload_n 255 (i := 0) dX9_reads_254 rfl rfl rfl ?_
            refine Ex_bipush 257 (v := 61) dX9_reads_255 (by decide) rfl ?_
            refine Ex_callV (M' := MX9_isSign) 260 [.int 61] (rest := []) dX9_reads_257 lX9_189 mX9_isSign rfl (xMs_0 hm) rfl (Nat.le_of_ble_eq_true rfl) (Nat.le_of_ble_eq_true rfl) rfl ?_
            refine mc_isSign hm hA (c := 61) (by decide) ?_
            simp only [Option.toList, List.cons_append, List.nil_append]
            rw [e9]
            refine Ex_if_eq 263 304 dX9_reads_260 (by decide) rfl (fun c6 => ?_) (fun c6 => absurd c6 (fun q => q (by decide)))
            refine Ex_aload_n 305 (i := 0) dX9_reads_304 rfl rfl rfl ?_
            refine Ex_ldc2 308 (v := 1111) dX9_reads_305 kX9_203 rfl ?_
            refine Ex_callV (M' := MX9_isWord) 311 [.long 1111] (rest := []) dX9_reads_308 lX9_185 mX9_isWord rfl (xMs_0 hm) rfl (Nat.le_of_ble_eq_true rfl) (Nat.le_of_ble_eq_true rfl) rfl ?_
            refine mc_isWord hm hA (l := wAnd) (by decide +kernel) (by unfold hmWd; decide) ?_
            simp only [Option.toList, List.cons_append, List.nil_append]
            rw [e10]
            refine Ex_if_ne 314 324 dX9_reads_311 (by decide) rfl (fun c7 => absurd c7 (fun q => q (by decide))) (fun c7 => ?_)
            refine Ex_aload_n 315 (i := 0) dX9_reads_314 rfl rfl rfl ?_
            refine Ex_ldc2 318 (v := 423) dX9_reads_315 kX9_205 rfl ?_
            refine Ex_callV (M' := MX9_isWord) 321 [.long 423] (rest := []) dX9_reads_318 lX9_185 mX9_isWord rfl (xMs_0 hm) rfl (Nat.le_of_ble_eq_true rfl) (Nat.le_of_ble_eq_true rfl) rfl ?_
            refine mc_isWord hm hA (l := wOr) (by decide +kernel) (by unfold hmWd; decide) ?_
            simp only [Option.toList, List.cons_append, List.nil_append]
            rw [e11]
            refine Ex_if_eq 324 357 dX9_reads_321 (by decide) rfl (fun c8 => ?_) (fun c8 => absurd c8 (fun q => q (by decide)))
            refine Ex_aload_n 358 (i := 0) dX9_reads_357 rfl rfl rfl ?_
            refine Ex_bipush 360 (v := 41) dX9_reads_358 (by decide) rfl ?_
            refine Ex_callV (M' := MX9_isSign) 363 [.int 41] (rest := []) dX9_reads_360 lX9_189 mX9_isSign rfl (xMs_0 hm) rfl (Nat.le_of_ble_eq_true rfl) (Nat.le_of_ble_eq_true rfl) rfl ?_
            refine mc_isSign hm hA (c := 41) (by decide) ?_
            simp only [Option.toList, List.cons_append, List.nil_append]
            rw [e3]
            refine Ex_if_eq 366 399 dX9_reads_363 (by decide) rfl (fun c9 => ?_) (fun c9 => absurd c9 (fun q => q (by decide)))
            refine Ex_iload_n 400 (i := 1) dX9_reads_399 rfl rfl rfl ?_
            refine Ex_if_ne 403 418 dX9_reads_400 (by decide) rfl (fun c10 => ?_) (fun c10 => absurd c10 (fun q => absurd ((nI_eq (b := 0) (by omega) (by omega)).mp q) (by omega)))
            refine Ex_aload_n 419 (i := 0) dX9_reads_418 rfl rfl rfl ?_
            refine Ex_iconst 420 (v := 1) dX9_reads_419 (by decide) rfl ?_
            refine Ex_callV (M' := MX9_fails) 423 [.int 1] (rest := []) dX9_reads_420 lX9_193 mX9_fails rfl (xMs_0 hm) rfl (Nat.le_of_ble_eq_true rfl) (Nat.le_of_ble_eq_true rfl) rfl ?_
            refine mc_fails (k := 1) hm hA ?_
            simp only [Option.toList, List.nil_append, List.cons_append]
            refine Ex_iret dX9_reads_423 rfl (by decide) (Or.inl rfl) ?_
            have hfl := hmFl_lt (k := 1) (t := t) (by omega) (by omega) hA.pl
            exact hF (hmFl 1 t) _ LL (he.trans (eS)) hfl.1 hfl.2 (gJ.tr hmRf.fl) gL (by rw [va_up_self, va_up_self])
        have eS : hmLm (t :: r) false ((x, c) :: lr) cs = .inl (hmFl 1 t) := by
          rw [hmLm_f, if_neg (by omega), if_neg (fun q => by omega), if_neg (by omega), if_neg (fun q => by omega), if_neg (fun q => by omega)]
          rfl
        have e5 : (hmB (hmIsS t 43)) = 0 := by rw [k5, hmB_0]; exact decide_eq_false (by omega)
        have e6 : (hmB (hmIsS t 45)) = 0 := by rw [k6, hmB_0]; exact decide_eq_false (by omega)
        have e7 : (hmB (hmIsS t 42)) = 0 := by rw [k7, hmB_0]; exact decide_eq_false (by omega)
        have e8 : (hmB (hmIsS t 60)) = 0 := by rw [k8, hmB_0]; exact decide_eq_false (by omega)
        have e9 : (hmB (hmIsS t 61)) = 0 := by rw [k9, hmB_0]; exact decide_eq_false (by omega)
        have e10 : (hmB (hmIsW t wAnd)) = 0 := by rw [k10, hmB_0]; exact decide_eq_false (by omega)
        have e11 : (hmB (hmIsW t wOr)) = 0 := by rw [k11, hmB_0]; exact decide_eq_false (by omega)
        have e3 : (hmB (hmIsS t 41)) = 0 := by rw [k3, hmB_0]; exact decide_eq_false (by omega)
        have e4 : (hmB (hmIsS t 59)) = 0 := by rw [k4, hmB_0]; exact decide_eq_false (by omega)
        refine Ex_iload_n 12 (i := 2) dX9_reads_11 rfl rfl rfl ?_
        refine Ex_if_eq 15 179 dX9_reads_12 (by decide) rfl (fun c1 => ?_) (fun c1 => absurd c1 (fun q => q (by decide)))
        refine Ex_aload_n 180 (i := 0) dX9_reads_179 rfl rfl rfl ?_
        refine Ex_bipush 182 (v := 43) dX9_reads_180 (by decide) rfl ?_
        refine Ex_callV (M' := MX9_isSign) 185 [.int 43] (rest := []) dX9_reads_182 lX9_189 mX9_isSign rfl (xMs_0 hm) rfl (Nat.le_of_ble_eq_true rfl) (Nat.le_of_ble_eq_true rfl) rfl ?_
        refine mc_isSign hm hA (c := 43) (by decide) ?_
        simp only [Option.toList, List.cons_append, List.nil_append]
        rw [e5]
        refine Ex_if_ne 188 206 dX9_reads_185 (by decide) rfl (fun c2 => absurd c2 (fun q => q (by decide))) (fun c2 => ?_)
        refine Ex_aload_n 189 (i := 0) dX9_reads_188 rfl rfl rfl ?_
        refine Ex_bipush 191 (v := 45) dX9_reads_189 (by decide) rfl ?_
        refine Ex_callV (M' := MX9_isSign) 194 [.int 45] (rest := []) dX9_reads_191 lX9_189 mX9_isSign rfl (xMs_0 hm) rfl (Nat.le_of_ble_eq_true rfl) (Nat.le_of_ble_eq_true rfl) rfl ?_
        refine mc_isSign hm hA (c := 45) (by decide) ?_
        simp only [Option.toList, List.cons_append, List.nil_append]
        rw [e6]
        refine Ex_if_ne 197 206 dX9_reads_194 (by decide) rfl (fun c3 => absurd c3 (fun q => q (by decide))) (fun c3 => ?_)
        refine Ex_aload_n 198 (i := 0) dX9_reads_197 rfl rfl rfl ?_
        refine Ex_bipush 200 (v := 42) dX9_reads_198 (by decide) rfl ?_
        refine Ex_callV (M' := MX9_isSign) 203 [.int 42] (rest := []) dX9_reads_200 lX9_189 mX9_isSign rfl (xMs_0 hm) rfl (Nat.le_of_ble_eq_true rfl) (Nat.le_of_ble_eq_true rfl) rfl ?_
        refine mc_isSign hm hA (c := 42) (by decide) ?_
        simp only [Option.toList, List.cons_append, List.nil_append]
        rw [e7]
        refine Ex_if_eq 206 245 dX9_reads_203 (by decide) rfl (fun c4 => ?_) (fun c4 => absurd c4 (fun q => q (by decide)))
        refine Ex_aload_n 246 (i := 0) dX9_reads_245 rfl rfl rfl ?_
        refine Ex_bipush 248 (v := 60) dX9_reads_246 (by decide) rfl ?_
        refine Ex_callV (M' := MX9_isSign) 251 [.int 60] (rest := []) dX9_reads_248 lX9_189 mX9_isSign rfl (xMs_0 hm) rfl (Nat.le_of_ble_eq_true rfl) (Nat.le_of_ble_eq_true rfl) rfl ?_
        refine mc_isSign hm hA (c := 60) (by decide) ?_
        simp only [Option.toList, List.cons_append, List.nil_append]
        rw [e8]
        refine Ex_if_ne 254 263 dX9_reads_251 (by decide) rfl (fun c5 => absurd c5 (fun q => q (by decide))) (fun c5 => ?_)
        refine Ex_aload_n 255 (i := 0) dX9_reads_254 rfl rfl rfl ?_
        refine Ex_bipush 257 (v := 61) dX9_reads_255 (by decide) rfl ?_
        refine Ex_callV (M' := MX9_isSign) 260 [.int 61] (rest := []) dX9_reads_257 lX9_189 mX9_isSign rfl (xMs_0 hm) rfl (Nat.le_of_ble_eq_true rfl) (Nat.le_of_ble_eq_true rfl) rfl ?_
        refine mc_isSign hm hA (c := 61) (by decide) ?_
        simp only [Option.toList, List.cons_append, List.nil_append]
        rw [e9]
        refine Ex_if_eq 263 304 dX9_reads_260 (by decide) rfl (fun c6 => ?_) (fun c6 => absurd c6 (fun q => q (by decide)))
        refine Ex_aload_n 305 (i := 0) dX9_reads_304 rfl rfl rfl ?_
        refine Ex_ldc2 308 (v := 1111) dX9_reads_305 kX9_203 rfl ?_
        refine Ex_callV (M' := MX9_isWord) 311 [.long 1111] (rest := []) dX9_reads_308 lX9_185 mX9_isWord rfl (xMs_0 hm) rfl (Nat.le_of_ble_eq_true rfl) (Nat.le_of_ble_eq_true rfl) rfl ?_
        refine mc_isWord hm hA (l := wAnd) (by decide +kernel) (by unfold hmWd; decide) ?_
        simp only [Option.toList, List.cons_append, List.nil_append]
        rw [e10]
        refine Ex_if_ne 314 324 dX9_reads_311 (by decide) rfl (fun c7 => absurd c7 (fun q => q (by decide))) (fun c7 => ?_)
        refine Ex_aload_n 315 (i := 0) dX9_reads_314 rfl rfl rfl ?_
        refine Ex_ldc2 318 (v := 423) dX9_reads_315 kX9_205 rfl ?_
        refine Ex_callV (M' := MX9_isWord) 321 [.long 423] (rest := []) dX9_reads_318 lX9_185 mX9_isWord rfl (xMs_0 hm) rfl (Nat.le_of_ble_eq_true rfl) (Nat.le_of_ble_eq_true rfl) rfl ?_
        refine mc_isWord hm hA (l := wOr) (by decide +kernel) (by unfold hmWd; decide) ?_
        simp only [Option.toList, List.cons_append, List.nil_append]
        rw [e11]
        refine Ex_if_eq 324 357 dX9_reads_321 (by decide) rfl (fun c8 => ?_) (fun c8 => absurd c8 (fun q => q (by decide)))
        refine Ex_aload_n 358 (i := 0) dX9_reads_357 rfl rfl rfl ?_
        refine Ex_bipush 360 (v := 41) dX9_reads_358 (by decide) rfl ?_
        refine Ex_callV (M' := MX9_isSign) 363 [.int 41] (rest := []) dX9_reads_360 lX9_189 mX9_isSign rfl (xMs_0 hm) rfl (Nat.le_of_ble_eq_true rfl) (Nat.le_of_ble_eq_true rfl) rfl ?_
        refine mc_isSign hm hA (c := 41) (by decide) ?_
        simp only [Option.toList, List.cons_append, List.nil_append]
        rw [e3]
        refine Ex_if_eq 366 399 dX9_reads_363 (by decide) rfl (fun c9 => ?_) (fun c9 => absurd c9 (fun q => q (by decide)))
        refine Ex_iload_n 400 (i := 1) dX9_reads_399 rfl rfl rfl ?_
        refine Ex_if_ne 403 418 dX9_reads_400 (by decide) rfl (fun c10 => ?_) (fun c10 => ?_)
        · refine Ex_aload_n 419 (i := 0) dX9_reads_418 rfl rfl rfl ?_
          refine Ex_iconst 420 (v := 1) dX9_reads_419 (by decide) rfl ?_
          refine Ex_callV (M' := MX9_fails) 423 [.int 1] (rest := []) dX9_reads_420 lX9_193 mX9_fails rfl (xMs_0 hm) rfl (Nat.le_of_ble_eq_true rfl) (Nat.le_of_ble_eq_true rfl) rfl ?_
          refine mc_fails (k := 1) hm hA ?_
          simp only [Option.toList, List.nil_append, List.cons_append]
          refine Ex_iret dX9_reads_423 rfl (by decide) (Or.inl rfl) ?_
          have hfl := hmFl_lt (k := 1) (t := t) (by omega) (by omega) hA.pl
          exact hF (hmFl 1 t) _ LL (he.trans (eS)) hfl.1 hfl.2 (gJ.tr hmRf.fl) gL (by rw [va_up_self, va_up_self])
        · refine Ex_aload_n 404 (i := 0) dX9_reads_403 rfl rfl rfl ?_
          refine Ex_bipush 406 (v := 59) dX9_reads_404 (by decide) rfl ?_
          refine Ex_callV (M' := MX9_isSign) 409 [.int 59] (rest := []) dX9_reads_406 lX9_189 mX9_isSign rfl (xMs_0 hm) rfl (Nat.le_of_ble_eq_true rfl) (Nat.le_of_ble_eq_true rfl) rfl ?_
          refine mc_isSign hm hA (c := 59) (by decide) ?_
          simp only [Option.toList, List.cons_append, List.nil_append]
          rw [e4]
          refine Ex_if_eq 412 418 dX9_reads_409 (by decide) rfl (fun c11 => ?_) (fun c11 => absurd c11 (fun q => q (by decide)))
          refine Ex_aload_n 419 (i := 0) dX9_reads_418 rfl rfl rfl ?_
          refine Ex_iconst 420 (v := 1) dX9_reads_419 (by decide) rfl ?_
          refine Ex_callV (M' := MX9_fails) 423 [.int 1] (rest := []) dX9_reads_420 lX9_193 mX9_fails rfl (xMs_0 hm) rfl (Nat.le_of_ble_eq_true rfl) (Nat.le_of_ble_eq_true rfl) rfl ?_
          refine mc_fails (k := 1) hm hA ?_
          simp only [Option.toList, List.nil_append, List.cons_append]
          refine Ex_iret dX9_reads_423 rfl (by decide) (Or.inl rfl) ?_
          have hfl := hmFl_lt (k := 1) (t := t) (by omega) (by omega) hA.pl
          exact hF (hmFl 1 t) _ LL (he.trans (eS)) hfl.1 hfl.2 (gJ.tr hmRf.fl) gL (by rw [va_up_self, va_up_self])
      | true =>
        refine Ex_l (ls' := [some (.ref m), some (.int (nI lr.length)), some (.int 1), none, none, none]) rfl ?_
        by_cases hbad : hmKd t = 0 ∨ (3 ≤ hmKd t ∧ hmKd t ≤ 11)
        · have eS : hmLm (t :: r) true ((x, c) :: lr) cs = .inl (hmFl 1 t) := by rw [hmLm_t, if_pos hbad]; rfl
          have eF : hmFc t = 0 := if_neg (by omega)
          have t3 : ¬ t.1 = 3 := fun q => by have := hm_kN.1.mp q; omega
          have e1 : (hmB (hmIsW t wNot)) = 0 := by rw [k1, hmB_0]; exact decide_eq_false (by omega)
          have e2 : (hmB (hmIsS t 40)) = 0 := by rw [k2, hmB_0]; exact decide_eq_false (by omega)
          refine Ex_iload_n 12 (i := 2) dX9_reads_11 rfl rfl rfl ?_
          refine Ex_if_eq 15 179 dX9_reads_12 (by decide) rfl (fun c1 => absurd c1 (by decide)) (fun c1 => ?_)
          refine Ex_aload_n 16 (i := 0) dX9_reads_15 rfl rfl rfl ?_
          refine Ex_callV (M' := MX9_fact) 19 [] (rest := []) dX9_reads_16 lX9_179 mX9_fact rfl (xMs_0 hm) rfl (Nat.le_of_ble_eq_true rfl) (Nat.le_of_ble_eq_true rfl) rfl ?_
          refine mc_fact hm hA ?_
          simp only [Option.toList, List.cons_append, List.nil_append]
          rw [eF]
          refine Ex_istore_n 20 (i := 3) (ls' := [some (.ref m), some (.int (nI lr.length)), some (.int 1), some (.int 0), none, none]) dX9_reads_19 rfl (Nat.le_of_ble_eq_true rfl) rfl rfl rfl ?_
          refine Ex_aload_n 21 (i := 0) dX9_reads_20 rfl rfl rfl ?_
          refine Ex_ldc2 24 (v := 10631) dX9_reads_21 kX9_183 rfl ?_
          refine Ex_callV (M' := MX9_isWord) 27 [.long 10631] (rest := []) dX9_reads_24 lX9_185 mX9_isWord rfl (xMs_0 hm) rfl (Nat.le_of_ble_eq_true rfl) (Nat.le_of_ble_eq_true rfl) rfl ?_
          refine mc_isWord hm hA (l := wNot) (by decide +kernel) (by unfold hmWd; decide) ?_
          simp only [Option.toList, List.cons_append, List.nil_append]
          rw [e1]
          refine Ex_istore 29 (ls' := [some (.ref m), some (.int (nI lr.length)), some (.int 1), some (.int 0), some (.int 0), none]) dX9_reads_27 (Nat.le_of_ble_eq_true rfl) rfl rfl rfl ?_
          refine Ex_aload_n 30 (i := 0) dX9_reads_29 rfl rfl rfl ?_
          refine Ex_bipush 32 (v := 40) dX9_reads_30 (by decide) rfl ?_
          refine Ex_callV (M' := MX9_isSign) 35 [.int 40] (rest := []) dX9_reads_32 lX9_189 mX9_isSign rfl (xMs_0 hm) rfl (Nat.le_of_ble_eq_true rfl) (Nat.le_of_ble_eq_true rfl) rfl ?_
          refine mc_isSign hm hA (c := 40) (by decide) ?_
          simp only [Option.toList, List.cons_append, List.nil_append]
          rw [e2]
          refine Ex_istore 37 (ls' := [some (.ref m), some (.int (nI lr.length)), some (.int 1), some (.int 0), some (.int 0), some (.int 0)]) dX9_reads_35 (Nat.le_of_ble_eq_true rfl) rfl rfl rfl ?_
          refine Ex_iload_n 38 (i := 3) dX9_reads_37 rfl rfl rfl ?_
          refine Ex_if_ne 41 65 dX9_reads_38 (by decide) rfl (fun c2 => absurd c2 (fun q => q (by decide))) (fun c2 => ?_)
          refine Ex_iload 43 dX9_reads_41 rfl rfl ?_
          refine Ex_if_ne 46 65 dX9_reads_43 (by decide) rfl (fun c3 => absurd c3 (fun q => q (by decide))) (fun c3 => ?_)
          refine Ex_iload 48 dX9_reads_46 rfl rfl ?_
          refine Ex_if_ne 51 65 dX9_reads_48 (by decide) rfl (fun c4 => absurd c4 (fun q => q (by decide))) (fun c4 => ?_)
          refine Ex_aload_n 52 (i := 0) dX9_reads_51 rfl rfl rfl ?_
          refine Ex_gI 55 (J m 6) dX9_reads_52 fX9_154 (xMs_0 hm) rfl rfl rfl ?_
          refine Ex_iconst 56 (v := 2) dX9_reads_55 (by decide) rfl ?_
          refine Ex_icmp_eq 59 65 dX9_reads_56 (by decide) rfl (fun c5 => absurd c5 (fun q => t3 (hq2.mp q))) (fun c5 => ?_)
          refine Ex_aload_n 60 (i := 0) dX9_reads_59 rfl rfl rfl ?_
          refine Ex_iconst 61 (v := 1) dX9_reads_60 (by decide) rfl ?_
          refine Ex_callV (M' := MX9_fails) 64 [.int 1] (rest := []) dX9_reads_61 lX9_193 mX9_fails rfl (xMs_0 hm) rfl (Nat.le_of_ble_eq_true rfl) (Nat.le_of_ble_eq_true rfl) rfl ?_
          refine mc_fails (k := 1) hm hA ?_
          simp only [Option.toList, List.nil_append, List.cons_append]
          refine Ex_iret dX9_reads_64 rfl (by decide) (Or.inl rfl) ?_
          have hfl := hmFl_lt (k := 1) (t := t) (by omega) (by omega) hA.pl
          exact hF (hmFl 1 t) _ LL (he.trans (eS)) hfl.1 hfl.2 (gJ.tr hmRf.fl) gL (by rw [va_up_self, va_up_self])
        have ht0 : ¬ t.1 = 0 := fun q => by rw [hm_k0 q] at hbad; exact hbad (Or.inl rfl)
        have hr2 := hr0 ht0
        by_cases n1 : hmKd t = 1
        · have hk := n1
          have eF : hmFc t = 0 := if_neg (by omega)
          have e1 : (hmB (hmIsW t wNot)) = 1 := by rw [k1, hmB_1]; exact decide_eq_true (by omega)
          have e2 : (hmB (hmIsS t 40)) = 0 := by rw [k2, hmB_0]; exact decide_eq_false (by omega)
          by_cases h5 : lr.length = 5
          · have eS : hmLm (t :: r) true ((x, c) :: lr) cs = .inl (hmFl 5 t) := by rw [hmLm_t, if_neg hbad, if_pos (by rw [List.length_cons]; omega)]; rfl
            refine Ex_iload_n 12 (i := 2) dX9_reads_11 rfl rfl rfl ?_
            refine Ex_if_eq 15 179 dX9_reads_12 (by decide) rfl (fun c1 => absurd c1 (by decide)) (fun c1 => ?_)
            refine Ex_aload_n 16 (i := 0) dX9_reads_15 rfl rfl rfl ?_
            refine Ex_callV (M' := MX9_fact) 19 [] (rest := []) dX9_reads_16 lX9_179 mX9_fact rfl (xMs_0 hm) rfl (Nat.le_of_ble_eq_true rfl) (Nat.le_of_ble_eq_true rfl) rfl ?_
            refine mc_fact hm hA ?_
            simp only [Option.toList, List.cons_append, List.nil_append]
            rw [eF]
            refine Ex_istore_n 20 (i := 3) (ls' := [some (.ref m), some (.int (nI lr.length)), some (.int 1), some (.int 0), none, none]) dX9_reads_19 rfl (Nat.le_of_ble_eq_true rfl) rfl rfl rfl ?_
            refine Ex_aload_n 21 (i := 0) dX9_reads_20 rfl rfl rfl ?_
            refine Ex_ldc2 24 (v := 10631) dX9_reads_21 kX9_183 rfl ?_
            refine Ex_callV (M' := MX9_isWord) 27 [.long 10631] (rest := []) dX9_reads_24 lX9_185 mX9_isWord rfl (xMs_0 hm) rfl (Nat.le_of_ble_eq_true rfl) (Nat.le_of_ble_eq_true rfl) rfl ?_
            refine mc_isWord hm hA (l := wNot) (by decide +kernel) (by unfold hmWd; decide) ?_
            simp only [Option.toList, List.cons_append, List.nil_append]
            rw [e1]
            refine Ex_istore 29 (ls' := [some (.ref m), some (.int (nI lr.length)), some (.int 1), some (.int 0), some (.int 1), none]) dX9_reads_27 (Nat.le_of_ble_eq_true rfl) rfl rfl rfl ?_
            refine Ex_aload_n 30 (i := 0) dX9_reads_29 rfl rfl rfl ?_
            refine Ex_bipush 32 (v := 40) dX9_reads_30 (by decide) rfl ?_
            refine Ex_callV (M' := MX9_isSign) 35 [.int 40] (rest := []) dX9_reads_32 lX9_189 mX9_isSign rfl (xMs_0 hm) rfl (Nat.le_of_ble_eq_true rfl) (Nat.le_of_ble_eq_true rfl) rfl ?_
            refine mc_isSign hm hA (c := 40) (by decide) ?_
            simp only [Option.toList, List.cons_append, List.nil_append]
            rw [e2]
            refine Ex_istore 37 (ls' := [some (.ref m), some (.int (nI lr.length)), some (.int 1), some (.int 0), some (.int 1), some (.int 0)]) dX9_reads_35 (Nat.le_of_ble_eq_true rfl) rfl rfl rfl ?_
            refine Ex_iload_n 38 (i := 3) dX9_reads_37 rfl rfl rfl ?_
            refine Ex_if_ne 41 65 dX9_reads_38 (by decide) rfl (fun c2 => absurd c2 (fun q => q (by decide))) (fun c2 => ?_)
            refine Ex_iload 43 dX9_reads_41 rfl rfl ?_
            refine Ex_if_ne 46 65 dX9_reads_43 (by decide) rfl (fun c3 => ?_) (fun c3 => absurd c3 (by decide))
            refine Ex_iload_n 66 (i := 1) dX9_reads_65 rfl rfl rfl ?_
            refine Ex_iconst 67 (v := 5) dX9_reads_66 (by decide) rfl ?_
            refine Ex_icmp_ne 70 76 dX9_reads_67 (by decide) rfl (fun c4 => absurd c4 (fun q => q (by rw [h5]; rfl))) (fun c4 => ?_)
            refine Ex_aload_n 71 (i := 0) dX9_reads_70 rfl rfl rfl ?_
            refine Ex_iconst 72 (v := 5) dX9_reads_71 (by decide) rfl ?_
            refine Ex_callV (M' := MX9_fails) 75 [.int 5] (rest := []) dX9_reads_72 lX9_193 mX9_fails rfl (xMs_0 hm) rfl (Nat.le_of_ble_eq_true rfl) (Nat.le_of_ble_eq_true rfl) rfl ?_
            refine mc_fails (k := 5) hm hA ?_
            simp only [Option.toList, List.nil_append, List.cons_append]
            refine Ex_iret dX9_reads_75 rfl (by decide) (Or.inl rfl) ?_
            have hfl := hmFl_lt (k := 5) (t := t) (by omega) (by omega) hA.pl
            exact hF (hmFl 5 t) _ LL (he.trans (eS)) hfl.1 hfl.2 (gJ.tr hmRf.fl) gL (by rw [va_up_self, va_up_self])
          have eS : hmLm (t :: r) true ((x, c) :: lr) cs = hmLm r true ((1, false) :: (x, c) :: lr) (cs ++ [30]) := by rw [hmLm_t, if_neg hbad, if_neg (by rw [List.length_cons]; omega), if_pos hk]
          refine Ex_iload_n 12 (i := 2) dX9_reads_11 rfl rfl rfl ?_
          refine Ex_if_eq 15 179 dX9_reads_12 (by decide) rfl (fun c1 => absurd c1 (by decide)) (fun c1 => ?_)
          refine Ex_aload_n 16 (i := 0) dX9_reads_15 rfl rfl rfl ?_
          refine Ex_callV (M' := MX9_fact) 19 [] (rest := []) dX9_reads_16 lX9_179 mX9_fact rfl (xMs_0 hm) rfl (Nat.le_of_ble_eq_true rfl) (Nat.le_of_ble_eq_true rfl) rfl ?_
          refine mc_fact hm hA ?_
          simp only [Option.toList, List.cons_append, List.nil_append]
          rw [eF]
          refine Ex_istore_n 20 (i := 3) (ls' := [some (.ref m), some (.int (nI lr.length)), some (.int 1), some (.int 0), none, none]) dX9_reads_19 rfl (Nat.le_of_ble_eq_true rfl) rfl rfl rfl ?_
          refine Ex_aload_n 21 (i := 0) dX9_reads_20 rfl rfl rfl ?_
          refine Ex_ldc2 24 (v := 10631) dX9_reads_21 kX9_183 rfl ?_
          refine Ex_callV (M' := MX9_isWord) 27 [.long 10631] (rest := []) dX9_reads_24 lX9_185 mX9_isWord rfl (xMs_0 hm) rfl (Nat.le_of_ble_eq_true rfl) (Nat.le_of_ble_eq_true rfl) rfl ?_
          refine mc_isWord hm hA (l := wNot) (by decide +kernel) (by unfold hmWd; decide) ?_
          simp only [Option.toList, List.cons_append, List.nil_append]
          rw [e1]
          refine Ex_istore 29 (ls' := [some (.ref m), some (.int (nI lr.length)), some (.int 1), some (.int 0), some (.int 1), none]) dX9_reads_27 (Nat.le_of_ble_eq_true rfl) rfl rfl rfl ?_
          refine Ex_aload_n 30 (i := 0) dX9_reads_29 rfl rfl rfl ?_
          refine Ex_bipush 32 (v := 40) dX9_reads_30 (by decide) rfl ?_
          refine Ex_callV (M' := MX9_isSign) 35 [.int 40] (rest := []) dX9_reads_32 lX9_189 mX9_isSign rfl (xMs_0 hm) rfl (Nat.le_of_ble_eq_true rfl) (Nat.le_of_ble_eq_true rfl) rfl ?_
          refine mc_isSign hm hA (c := 40) (by decide) ?_
          simp only [Option.toList, List.cons_append, List.nil_append]
          rw [e2]
          refine Ex_istore 37 (ls' := [some (.ref m), some (.int (nI lr.length)), some (.int 1), some (.int 0), some (.int 1), some (.int 0)]) dX9_reads_35 (Nat.le_of_ble_eq_true rfl) rfl rfl rfl ?_
          refine Ex_iload_n 38 (i := 3) dX9_reads_37 rfl rfl rfl ?_
          refine Ex_if_ne 41 65 dX9_reads_38 (by decide) rfl (fun c2 => absurd c2 (fun q => q (by decide))) (fun c2 => ?_)
          refine Ex_iload 43 dX9_reads_41 rfl rfl ?_
          refine Ex_if_ne 46 65 dX9_reads_43 (by decide) rfl (fun c3 => ?_) (fun c3 => absurd c3 (by decide))
          refine Ex_iload_n 66 (i := 1) dX9_reads_65 rfl rfl rfl ?_
          refine Ex_iconst 67 (v := 5) dX9_reads_66 (by decide) rfl ?_
          refine Ex_icmp_ne 70 76 dX9_reads_67 (by decide) rfl (fun c4 => ?_) (fun c4 => absurd c4 (fun q => absurd ((nI_eq (b := 5) (by omega) (by omega)).mp q) (by omega)))
          refine Ex_iload 78 dX9_reads_76 rfl rfl ?_
          refine Ex_if_ne 81 86 dX9_reads_78 (by decide) rfl (fun c5 => ?_) (fun c5 => absurd c5 (by decide))
          refine Ex_aload_n 87 (i := 0) dX9_reads_86 rfl rfl rfl ?_
          refine Ex_iload 89 dX9_reads_87 rfl rfl ?_
          refine Ex_if_eq 92 97 dX9_reads_89 (by decide) rfl (fun c6 => absurd c6 (by decide)) (fun c6 => ?_)
          refine Ex_bipush 94 (v := 30) dX9_reads_92 (by decide) rfl ?_
          refine Ex_goto 99 dX9_reads_94 (by decide) ?_
          refine Ex_callV (M' := MX9_puts) 102 [.int 30] (rest := []) dX9_reads_99 lX9_196 mX9_puts rfl (xMs_0 hm) rfl (Nat.le_of_ble_eq_true rfl) (Nat.le_of_ble_eq_true rfl) rfl ?_
          refine mc_puts (k := 1000 + cs.length) hm hcd.1 (by omega) ?_
          simp only [Option.toList, List.nil_append, List.cons_append]
          refine Ex_iinc 105 (v := (nI (lr.length + 1))) (ls' := [some (.ref m), some (.int (nI (lr.length + 1))), some (.int 1), some (.int 0), some (.int 1), some (.int 0)]) dX9_reads_102 rfl (xinc _) (Nat.le_of_ble_eq_true rfl) rfl rfl rfl ?_
          refine Ex_aload_n 106 (i := 0) dX9_reads_105 rfl rfl rfl ?_
          refine Ex_getR 109 dX9_reads_106 fX9_41 (xMs_0 hm) rfl (xMr_21 hm) rfl ?_
          refine Ex_iload_n 110 (i := 1) dX9_reads_109 rfl rfl rfl ?_
          refine Ex_iload 112 dX9_reads_110 rfl rfl ?_
          refine Ex_if_eq 115 119 dX9_reads_112 (by decide) rfl (fun c7 => absurd c7 (by decide)) (fun c7 => ?_)
          refine Ex_iconst 116 (v := 1) dX9_reads_115 (by decide) rfl ?_
          refine Ex_goto 120 dX9_reads_116 (by decide) ?_
          refine Ex_sI 121 (lr.length + 1) (J (m + 11)) (va_up (va_up (va_up J (m + 10) (va_up (J (m + 10)) (1000 + cs.length) 30)) m (va_up (J m) 19 (nI (1000 + cs.length + 1)))) (m + 11) (va_up (J (m + 11)) (lr.length + 1) 1)) dX9_reads_120 (xMs_11 hm) rfl (by omega) (by decide) ((va_up_ne _ _ (by omega)).trans (va_up_ne _ _ (by omega))) rfl rfl ?_
          refine Ex_aload_n 122 (i := 0) dX9_reads_121 rfl rfl rfl ?_
          refine Ex_getR 125 dX9_reads_122 fX9_44 (xMs_0 hm) rfl (xMr_22 hm) rfl ?_
          refine Ex_iload_n 126 (i := 1) dX9_reads_125 rfl rfl rfl ?_
          refine Ex_iconst 127 (v := 0) dX9_reads_126 (by decide) rfl ?_
          refine Ex_sZ 128 (lr.length + 1) (J (m + 12)) (va_up (va_up (va_up (va_up J (m + 10) (va_up (J (m + 10)) (1000 + cs.length) 30)) m (va_up (J m) 19 (nI (1000 + cs.length + 1)))) (m + 11) (va_up (J (m + 11)) (lr.length + 1) 1)) (m + 12) (va_up (J (m + 12)) (lr.length + 1) (vp_nar .boolean 0))) dX9_reads_127 (xMs_12 hm) rfl (by omega) (by decide) ((va_up_ne _ _ (by omega)).trans ((va_up_ne _ _ (by omega)).trans (va_up_ne _ _ (by omega)))) rfl rfl ?_
          refine Ex_goto 172 dX9_reads_128 (by decide) ?_
          refine Ex_aload_n 173 (i := 0) dX9_reads_172 rfl rfl rfl ?_
          refine Ex_callV (M' := MX9_nextToken) 176 [] (rest := []) dX9_reads_173 lX9_200 mX9_nextToken rfl (xMs_0 hm) rfl (Nat.le_of_ble_eq_true rfl) (Nat.le_of_ble_eq_true rfl) rfl ?_
          have hAx : hmAm (va_up (va_up (va_up (va_up J (m + 10) (va_up (J (m + 10)) (1000 + cs.length) 30)) m (va_up (J m) 19 (nI (1000 + cs.length + 1)))) (m + 11) (va_up (J (m + 11)) (lr.length + 1) 1)) (m + 12) (va_up (J (m + 12)) (lr.length + 1) (vp_nar .boolean 0))) LL m T t r := hA.kept (fun k hk => by rw [va_up_ne _ _ (by omega), va_up_ne _ _ (by omega), va_up_self, va_up_ne _ _ (by omega)]) (by rw [va_up_ne _ _ (by omega), va_up_ne _ _ (by omega), va_up_ne _ _ (by omega), va_up_ne _ _ (by omega)]) rfl
          refine mc_nxt hm hAx hc ht0 (fun t1 r1 I1 L1 er1 gs1 gt1 hA1 => ?_)
          simp only [Option.toList, List.nil_append, List.cons_append]
          refine Ex_goto 11 dX9_reads_176 (by decide) ?_
          refine Ex_fgt (ls' := [some (.ref m), some (.int (nI (lr.length + 1))), some (.int 1), none, none, none]) (by simp [xsub]) ?_
          have gM : hmRf m I (va_up (va_up (va_up (va_up J (m + 10) (va_up (J (m + 10)) (1000 + cs.length) 30)) m (va_up (J m) 19 (nI (1000 + cs.length + 1)))) (m + 11) (va_up (J (m + 11)) (lr.length + 1) 1)) (m + 12) (va_up (J (m + 12)) (lr.length + 1) (vp_nar .boolean 0))) := by
            have z0 := gJ.tr (hmRf.pt (m := m) (k := 1000 + cs.length) (I := J) (x := 30) (v := nI (1000 + cs.length + 1)) (by omega))
            have z1 := z0.tr (hmRf.lv (a := m + 11) (k := (lr.length + 1)) (v := 1) (Or.inl rfl))
            rw [va_up_ne _ _ (show m + 11 ≠ m by omega), va_up_ne _ _ (show m + 11 ≠ m + 10 by omega)] at z1
            have z2 := z1.tr (hmRf.lv (a := m + 12) (k := (lr.length + 1)) (v := (vp_nar .boolean 0)) (Or.inr rfl))
            rw [va_up_ne _ _ (show m + 12 ≠ m + 11 by omega), va_up_ne _ _ (show m + 12 ≠ m by omega), va_up_ne _ _ (show m + 12 ≠ m + 10 by omega)] at z2
            exact z2
          have eL : (hmLm ts true [(0, false)] []) = hmLm (t1 :: r1) true ((1, false) :: (x, c) :: lr) (cs ++ [30]) := by rw [he, eS, er1]
          have hcd1 : hmCd I1 m (cs ++ [30]) := (hcd.put (x := 30)).kept (by rw [gs1.2 19 (by omega) (by omega) (by omega) (by omega), va_up_ne _ _ (by omega), va_up_ne _ _ (by omega)]) (by rw [gs1.1 (m + 10) (by omega), va_up_ne _ _ (by omega), va_up_ne _ _ (by omega)])
          rw [er1] at hn hb
          have zz : (t :: t1 :: r1).length = (t1 :: r1).length + 1 := rfl
          have zc : (cs ++ [30]).length = cs.length + 1 := by rw [List.length_append]; rfl
          exact ih t1 r1 ((1, false) :: (x, c) :: lr) (cs ++ [30]) true I1 L1 (lr.length + 1) (by omega) (by omega) (by rw [List.length_cons, List.length_cons]) ⟨fun q => absurd q (by simp), fun _ => ⟨by omega, hlk⟩⟩ (by rw [List.length_cons, List.length_cons]; omega) eL (gM.tr (hmRf.nf gs1)) (gL.tr gt1) ⟨by rw [gs1.1 (m + 12) (by omega), va_up_self]; exact va_up_self _ _ _, fun _ => by rw [gs1.1 (m + 11) (by omega), va_up_ne _ _ (by omega), va_up_self]; exact va_up_self _ _ _, hmOp.kept _ ho (fun k hk => by rw [List.length_cons] at hk; rw [gs1.1 (m + 11) (by omega), gs1.1 (m + 12) (by omega), va_up_ne _ _ (show m + 11 ≠ m + 12 by omega), va_up_self, va_up_self, va_up_ne _ _ (show k ≠ lr.length + 1 by omega), va_up_ne _ _ (show k ≠ lr.length + 1 by omega)]; exact ⟨rfl, rfl⟩)⟩ hcd1 hA1
        by_cases n2 : hmKd t = 2
        · have hk := n2
          have eF : hmFc t = 0 := if_neg (by omega)
          have e1 : (hmB (hmIsW t wNot)) = 0 := by rw [k1, hmB_0]; exact decide_eq_false (by omega)
          have e2 : (hmB (hmIsS t 40)) = 1 := by rw [k2, hmB_1]; exact decide_eq_true (by omega)
          by_cases h5 : lr.length = 5
          · have eS : hmLm (t :: r) true ((x, c) :: lr) cs = .inl (hmFl 5 t) := by rw [hmLm_t, if_neg hbad, if_pos (by rw [List.length_cons]; omega)]; rfl
            refine Ex_iload_n 12 (i := 2) dX9_reads_11 rfl rfl rfl ?_
            refine Ex_if_eq 15 179 dX9_reads_12 (by decide) rfl (fun c1 => absurd c1 (by decide)) (fun c1 => ?_)
            refine Ex_aload_n 16 (i := 0) dX9_reads_15 rfl rfl rfl ?_
            refine Ex_callV (M' := MX9_fact) 19 [] (rest := []) dX9_reads_16 lX9_179 mX9_fact rfl (xMs_0 hm) rfl (Nat.le_of_ble_eq_true rfl) (Nat.le_of_ble_eq_true rfl) rfl ?_
            refine mc_fact hm hA ?_
            simp only [Option.toList, List.cons_append, List.nil_append]
            rw [eF]
            refine Ex_istore_n 20 (i := 3) (ls' := [some (.ref m), some (.int (nI lr.length)), some (.int 1), some (.int 0), none, none]) dX9_reads_19 rfl (Nat.le_of_ble_eq_true rfl) rfl rfl rfl ?_
            refine Ex_aload_n 21 (i := 0) dX9_reads_20 rfl rfl rfl ?_
            refine Ex_ldc2 24 (v := 10631) dX9_reads_21 kX9_183 rfl ?_
            refine Ex_callV (M' := MX9_isWord) 27 [.long 10631] (rest := []) dX9_reads_24 lX9_185 mX9_isWord rfl (xMs_0 hm) rfl (Nat.le_of_ble_eq_true rfl) (Nat.le_of_ble_eq_true rfl) rfl ?_
            refine mc_isWord hm hA (l := wNot) (by decide +kernel) (by unfold hmWd; decide) ?_
            simp only [Option.toList, List.cons_append, List.nil_append]
            rw [e1]
            refine Ex_istore 29 (ls' := [some (.ref m), some (.int (nI lr.length)), some (.int 1), some (.int 0), some (.int 0), none]) dX9_reads_27 (Nat.le_of_ble_eq_true rfl) rfl rfl rfl ?_
            refine Ex_aload_n 30 (i := 0) dX9_reads_29 rfl rfl rfl ?_
            refine Ex_bipush 32 (v := 40) dX9_reads_30 (by decide) rfl ?_
            refine Ex_callV (M' := MX9_isSign) 35 [.int 40] (rest := []) dX9_reads_32 lX9_189 mX9_isSign rfl (xMs_0 hm) rfl (Nat.le_of_ble_eq_true rfl) (Nat.le_of_ble_eq_true rfl) rfl ?_
            refine mc_isSign hm hA (c := 40) (by decide) ?_
            simp only [Option.toList, List.cons_append, List.nil_append]
            rw [e2]
            refine Ex_istore 37 (ls' := [some (.ref m), some (.int (nI lr.length)), some (.int 1), some (.int 0), some (.int 0), some (.int 1)]) dX9_reads_35 (Nat.le_of_ble_eq_true rfl) rfl rfl rfl ?_
            refine Ex_iload_n 38 (i := 3) dX9_reads_37 rfl rfl rfl ?_
            refine Ex_if_ne 41 65 dX9_reads_38 (by decide) rfl (fun c2 => absurd c2 (fun q => q (by decide))) (fun c2 => ?_)
            refine Ex_iload 43 dX9_reads_41 rfl rfl ?_
            refine Ex_if_ne 46 65 dX9_reads_43 (by decide) rfl (fun c3 => absurd c3 (fun q => q (by decide))) (fun c3 => ?_)
            refine Ex_iload 48 dX9_reads_46 rfl rfl ?_
            refine Ex_if_ne 51 65 dX9_reads_48 (by decide) rfl (fun c4 => ?_) (fun c4 => absurd c4 (by decide))
            refine Ex_iload_n 66 (i := 1) dX9_reads_65 rfl rfl rfl ?_
            refine Ex_iconst 67 (v := 5) dX9_reads_66 (by decide) rfl ?_
            refine Ex_icmp_ne 70 76 dX9_reads_67 (by decide) rfl (fun c5 => absurd c5 (fun q => q (by rw [h5]; rfl))) (fun c5 => ?_)
            refine Ex_aload_n 71 (i := 0) dX9_reads_70 rfl rfl rfl ?_
            refine Ex_iconst 72 (v := 5) dX9_reads_71 (by decide) rfl ?_
            refine Ex_callV (M' := MX9_fails) 75 [.int 5] (rest := []) dX9_reads_72 lX9_193 mX9_fails rfl (xMs_0 hm) rfl (Nat.le_of_ble_eq_true rfl) (Nat.le_of_ble_eq_true rfl) rfl ?_
            refine mc_fails (k := 5) hm hA ?_
            simp only [Option.toList, List.nil_append, List.cons_append]
            refine Ex_iret dX9_reads_75 rfl (by decide) (Or.inl rfl) ?_
            have hfl := hmFl_lt (k := 5) (t := t) (by omega) (by omega) hA.pl
            exact hF (hmFl 5 t) _ LL (he.trans (eS)) hfl.1 hfl.2 (gJ.tr hmRf.fl) gL (by rw [va_up_self, va_up_self])
          have eS : hmLm (t :: r) true ((x, c) :: lr) cs = hmLm r true ((2, false) :: (x, c) :: lr) (cs ++ [28]) := by rw [hmLm_t, if_neg hbad, if_neg (by rw [List.length_cons]; omega), if_neg (by omega), if_pos hk]
          refine Ex_iload_n 12 (i := 2) dX9_reads_11 rfl rfl rfl ?_
          refine Ex_if_eq 15 179 dX9_reads_12 (by decide) rfl (fun c1 => absurd c1 (by decide)) (fun c1 => ?_)
          refine Ex_aload_n 16 (i := 0) dX9_reads_15 rfl rfl rfl ?_
          refine Ex_callV (M' := MX9_fact) 19 [] (rest := []) dX9_reads_16 lX9_179 mX9_fact rfl (xMs_0 hm) rfl (Nat.le_of_ble_eq_true rfl) (Nat.le_of_ble_eq_true rfl) rfl ?_
          refine mc_fact hm hA ?_
          simp only [Option.toList, List.cons_append, List.nil_append]
          rw [eF]
          refine Ex_istore_n 20 (i := 3) (ls' := [some (.ref m), some (.int (nI lr.length)), some (.int 1), some (.int 0), none, none]) dX9_reads_19 rfl (Nat.le_of_ble_eq_true rfl) rfl rfl rfl ?_
          refine Ex_aload_n 21 (i := 0) dX9_reads_20 rfl rfl rfl ?_
          refine Ex_ldc2 24 (v := 10631) dX9_reads_21 kX9_183 rfl ?_
          refine Ex_callV (M' := MX9_isWord) 27 [.long 10631] (rest := []) dX9_reads_24 lX9_185 mX9_isWord rfl (xMs_0 hm) rfl (Nat.le_of_ble_eq_true rfl) (Nat.le_of_ble_eq_true rfl) rfl ?_
          refine mc_isWord hm hA (l := wNot) (by decide +kernel) (by unfold hmWd; decide) ?_
          simp only [Option.toList, List.cons_append, List.nil_append]
          rw [e1]
          refine Ex_istore 29 (ls' := [some (.ref m), some (.int (nI lr.length)), some (.int 1), some (.int 0), some (.int 0), none]) dX9_reads_27 (Nat.le_of_ble_eq_true rfl) rfl rfl rfl ?_
          refine Ex_aload_n 30 (i := 0) dX9_reads_29 rfl rfl rfl ?_
          refine Ex_bipush 32 (v := 40) dX9_reads_30 (by decide) rfl ?_
          refine Ex_callV (M' := MX9_isSign) 35 [.int 40] (rest := []) dX9_reads_32 lX9_189 mX9_isSign rfl (xMs_0 hm) rfl (Nat.le_of_ble_eq_true rfl) (Nat.le_of_ble_eq_true rfl) rfl ?_
          refine mc_isSign hm hA (c := 40) (by decide) ?_
          simp only [Option.toList, List.cons_append, List.nil_append]
          rw [e2]
          refine Ex_istore 37 (ls' := [some (.ref m), some (.int (nI lr.length)), some (.int 1), some (.int 0), some (.int 0), some (.int 1)]) dX9_reads_35 (Nat.le_of_ble_eq_true rfl) rfl rfl rfl ?_
          refine Ex_iload_n 38 (i := 3) dX9_reads_37 rfl rfl rfl ?_
          refine Ex_if_ne 41 65 dX9_reads_38 (by decide) rfl (fun c2 => absurd c2 (fun q => q (by decide))) (fun c2 => ?_)
          refine Ex_iload 43 dX9_reads_41 rfl rfl ?_
          refine Ex_if_ne 46 65 dX9_reads_43 (by decide) rfl (fun c3 => absurd c3 (fun q => q (by decide))) (fun c3 => ?_)
          refine Ex_iload 48 dX9_reads_46 rfl rfl ?_
          refine Ex_if_ne 51 65 dX9_reads_48 (by decide) rfl (fun c4 => ?_) (fun c4 => absurd c4 (by decide))
          refine Ex_iload_n 66 (i := 1) dX9_reads_65 rfl rfl rfl ?_
          refine Ex_iconst 67 (v := 5) dX9_reads_66 (by decide) rfl ?_
          refine Ex_icmp_ne 70 76 dX9_reads_67 (by decide) rfl (fun c5 => ?_) (fun c5 => absurd c5 (fun q => absurd ((nI_eq (b := 5) (by omega) (by omega)).mp q) (by omega)))
          refine Ex_iload 78 dX9_reads_76 rfl rfl ?_
          refine Ex_if_ne 81 86 dX9_reads_78 (by decide) rfl (fun c6 => absurd c6 (fun q => q (by decide))) (fun c6 => ?_)
          refine Ex_iload 83 dX9_reads_81 rfl rfl ?_
          refine Ex_if_eq 86 131 dX9_reads_83 (by decide) rfl (fun c7 => absurd c7 (by decide)) (fun c7 => ?_)
          refine Ex_aload_n 87 (i := 0) dX9_reads_86 rfl rfl rfl ?_
          refine Ex_iload 89 dX9_reads_87 rfl rfl ?_
          refine Ex_if_eq 92 97 dX9_reads_89 (by decide) rfl (fun c8 => ?_) (fun c8 => absurd c8 (fun q => q (by decide)))
          refine Ex_bipush 99 (v := 28) dX9_reads_97 (by decide) rfl ?_
          refine Ex_callV (M' := MX9_puts) 102 [.int 28] (rest := []) dX9_reads_99 lX9_196 mX9_puts rfl (xMs_0 hm) rfl (Nat.le_of_ble_eq_true rfl) (Nat.le_of_ble_eq_true rfl) rfl ?_
          refine mc_puts (k := 1000 + cs.length) hm hcd.1 (by omega) ?_
          simp only [Option.toList, List.nil_append, List.cons_append]
          refine Ex_iinc 105 (v := (nI (lr.length + 1))) (ls' := [some (.ref m), some (.int (nI (lr.length + 1))), some (.int 1), some (.int 0), some (.int 0), some (.int 1)]) dX9_reads_102 rfl (xinc _) (Nat.le_of_ble_eq_true rfl) rfl rfl rfl ?_
          refine Ex_aload_n 106 (i := 0) dX9_reads_105 rfl rfl rfl ?_
          refine Ex_getR 109 dX9_reads_106 fX9_41 (xMs_0 hm) rfl (xMr_21 hm) rfl ?_
          refine Ex_iload_n 110 (i := 1) dX9_reads_109 rfl rfl rfl ?_
          refine Ex_iload 112 dX9_reads_110 rfl rfl ?_
          refine Ex_if_eq 115 119 dX9_reads_112 (by decide) rfl (fun c9 => ?_) (fun c9 => absurd c9 (fun q => q (by decide)))
          refine Ex_iconst 120 (v := 2) dX9_reads_119 (by decide) rfl ?_
          refine Ex_sI 121 (lr.length + 1) (J (m + 11)) (va_up (va_up (va_up J (m + 10) (va_up (J (m + 10)) (1000 + cs.length) 28)) m (va_up (J m) 19 (nI (1000 + cs.length + 1)))) (m + 11) (va_up (J (m + 11)) (lr.length + 1) 2)) dX9_reads_120 (xMs_11 hm) rfl (by omega) (by decide) ((va_up_ne _ _ (by omega)).trans (va_up_ne _ _ (by omega))) rfl rfl ?_
          refine Ex_aload_n 122 (i := 0) dX9_reads_121 rfl rfl rfl ?_
          refine Ex_getR 125 dX9_reads_122 fX9_44 (xMs_0 hm) rfl (xMr_22 hm) rfl ?_
          refine Ex_iload_n 126 (i := 1) dX9_reads_125 rfl rfl rfl ?_
          refine Ex_iconst 127 (v := 0) dX9_reads_126 (by decide) rfl ?_
          refine Ex_sZ 128 (lr.length + 1) (J (m + 12)) (va_up (va_up (va_up (va_up J (m + 10) (va_up (J (m + 10)) (1000 + cs.length) 28)) m (va_up (J m) 19 (nI (1000 + cs.length + 1)))) (m + 11) (va_up (J (m + 11)) (lr.length + 1) 2)) (m + 12) (va_up (J (m + 12)) (lr.length + 1) (vp_nar .boolean 0))) dX9_reads_127 (xMs_12 hm) rfl (by omega) (by decide) ((va_up_ne _ _ (by omega)).trans ((va_up_ne _ _ (by omega)).trans (va_up_ne _ _ (by omega)))) rfl rfl ?_
          refine Ex_goto 172 dX9_reads_128 (by decide) ?_
          refine Ex_aload_n 173 (i := 0) dX9_reads_172 rfl rfl rfl ?_
          refine Ex_callV (M' := MX9_nextToken) 176 [] (rest := []) dX9_reads_173 lX9_200 mX9_nextToken rfl (xMs_0 hm) rfl (Nat.le_of_ble_eq_true rfl) (Nat.le_of_ble_eq_true rfl) rfl ?_
          have hAx : hmAm (va_up (va_up (va_up (va_up J (m + 10) (va_up (J (m + 10)) (1000 + cs.length) 28)) m (va_up (J m) 19 (nI (1000 + cs.length + 1)))) (m + 11) (va_up (J (m + 11)) (lr.length + 1) 2)) (m + 12) (va_up (J (m + 12)) (lr.length + 1) (vp_nar .boolean 0))) LL m T t r := hA.kept (fun k hk => by rw [va_up_ne _ _ (by omega), va_up_ne _ _ (by omega), va_up_self, va_up_ne _ _ (by omega)]) (by rw [va_up_ne _ _ (by omega), va_up_ne _ _ (by omega), va_up_ne _ _ (by omega), va_up_ne _ _ (by omega)]) rfl
          refine mc_nxt hm hAx hc ht0 (fun t1 r1 I1 L1 er1 gs1 gt1 hA1 => ?_)
          simp only [Option.toList, List.nil_append, List.cons_append]
          refine Ex_goto 11 dX9_reads_176 (by decide) ?_
          refine Ex_fgt (ls' := [some (.ref m), some (.int (nI (lr.length + 1))), some (.int 1), none, none, none]) (by simp [xsub]) ?_
          have gM : hmRf m I (va_up (va_up (va_up (va_up J (m + 10) (va_up (J (m + 10)) (1000 + cs.length) 28)) m (va_up (J m) 19 (nI (1000 + cs.length + 1)))) (m + 11) (va_up (J (m + 11)) (lr.length + 1) 2)) (m + 12) (va_up (J (m + 12)) (lr.length + 1) (vp_nar .boolean 0))) := by
            have z0 := gJ.tr (hmRf.pt (m := m) (k := 1000 + cs.length) (I := J) (x := 28) (v := nI (1000 + cs.length + 1)) (by omega))
            have z1 := z0.tr (hmRf.lv (a := m + 11) (k := (lr.length + 1)) (v := 2) (Or.inl rfl))
            rw [va_up_ne _ _ (show m + 11 ≠ m by omega), va_up_ne _ _ (show m + 11 ≠ m + 10 by omega)] at z1
            have z2 := z1.tr (hmRf.lv (a := m + 12) (k := (lr.length + 1)) (v := (vp_nar .boolean 0)) (Or.inr rfl))
            rw [va_up_ne _ _ (show m + 12 ≠ m + 11 by omega), va_up_ne _ _ (show m + 12 ≠ m by omega), va_up_ne _ _ (show m + 12 ≠ m + 10 by omega)] at z2
            exact z2
          have eL : (hmLm ts true [(0, false)] []) = hmLm (t1 :: r1) true ((2, false) :: (x, c) :: lr) (cs ++ [28]) := by rw [he, eS, er1]
          have hcd1 : hmCd I1 m (cs ++ [28]) := (hcd.put (x := 28)).kept (by rw [gs1.2 19 (by omega) (by omega) (by omega) (by omega), va_up_ne _ _ (by omega), va_up_ne _ _ (by omega)]) (by rw [gs1.1 (m + 10) (by omega), va_up_ne _ _ (by omega), va_up_ne _ _ (by omega)])
          rw [er1] at hn hb
          have zz : (t :: t1 :: r1).length = (t1 :: r1).length + 1 := rfl
          have zc : (cs ++ [28]).length = cs.length + 1 := by rw [List.length_append]; rfl
          exact ih t1 r1 ((2, false) :: (x, c) :: lr) (cs ++ [28]) true I1 L1 (lr.length + 1) (by omega) (by omega) (by rw [List.length_cons, List.length_cons]) ⟨fun q => absurd q (by simp), fun _ => ⟨by omega, hlk⟩⟩ (by rw [List.length_cons, List.length_cons]; omega) eL (gM.tr (hmRf.nf gs1)) (gL.tr gt1) ⟨by rw [gs1.1 (m + 12) (by omega), va_up_self]; exact va_up_self _ _ _, fun _ => by rw [gs1.1 (m + 11) (by omega), va_up_ne _ _ (by omega), va_up_self]; exact va_up_self _ _ _, hmOp.kept _ ho (fun k hk => by rw [List.length_cons] at hk; rw [gs1.1 (m + 11) (by omega), gs1.1 (m + 12) (by omega), va_up_ne _ _ (show m + 11 ≠ m + 12 by omega), va_up_self, va_up_self, va_up_ne _ _ (show k ≠ lr.length + 1 by omega), va_up_ne _ _ (show k ≠ lr.length + 1 by omega)]; exact ⟨rfl, rfl⟩)⟩ hcd1 hA1
        have hkv : 12 ≤ hmKd t := by omega
        have e1 : (hmB (hmIsW t wNot)) = 0 := by rw [k1, hmB_0]; exact decide_eq_false (by omega)
        have e2 : (hmB (hmIsS t 40)) = 0 := by rw [k2, hmB_0]; exact decide_eq_false (by omega)
        have eS0 : ¬ lr.length = 5 → hmLm (t :: r) true ((x, c) :: lr) cs = hmLm r false (hmPn ((x, c) :: lr)) (cs ++ [hmVc (hmKd t)]) := fun h5 => by rw [hmLm_t, if_neg hbad, if_neg (by rw [List.length_cons]; omega), if_neg n1, if_neg n2]
        by_cases hfc : hmKd t ≤ 15
        · have eF : hmFc t = nI (hmKd t - 11) := if_pos ⟨hkv, hfc⟩
          have ecv : hmVc (hmKd t) = nI (hmKd t - 11) := by unfold hmVc; rw [if_pos (by omega)]
          by_cases h5 : lr.length = 5
          · have eS : hmLm (t :: r) true ((x, c) :: lr) cs = .inl (hmFl 5 t) := by rw [hmLm_t, if_neg hbad, if_pos (by rw [List.length_cons]; omega)]; rfl
            refine Ex_iload_n 12 (i := 2) dX9_reads_11 rfl rfl rfl ?_
            refine Ex_if_eq 15 179 dX9_reads_12 (by decide) rfl (fun c1 => absurd c1 (by decide)) (fun c1 => ?_)
            refine Ex_aload_n 16 (i := 0) dX9_reads_15 rfl rfl rfl ?_
            refine Ex_callV (M' := MX9_fact) 19 [] (rest := []) dX9_reads_16 lX9_179 mX9_fact rfl (xMs_0 hm) rfl (Nat.le_of_ble_eq_true rfl) (Nat.le_of_ble_eq_true rfl) rfl ?_
            refine mc_fact hm hA ?_
            simp only [Option.toList, List.cons_append, List.nil_append]
            rw [eF]
            refine Ex_istore_n 20 (i := 3) (ls' := [some (.ref m), some (.int (nI lr.length)), some (.int 1), some (.int (nI (hmKd t - 11))), none, none]) dX9_reads_19 rfl (Nat.le_of_ble_eq_true rfl) rfl rfl rfl ?_
            refine Ex_aload_n 21 (i := 0) dX9_reads_20 rfl rfl rfl ?_
            refine Ex_ldc2 24 (v := 10631) dX9_reads_21 kX9_183 rfl ?_
            refine Ex_callV (M' := MX9_isWord) 27 [.long 10631] (rest := []) dX9_reads_24 lX9_185 mX9_isWord rfl (xMs_0 hm) rfl (Nat.le_of_ble_eq_true rfl) (Nat.le_of_ble_eq_true rfl) rfl ?_
            refine mc_isWord hm hA (l := wNot) (by decide +kernel) (by unfold hmWd; decide) ?_
            simp only [Option.toList, List.cons_append, List.nil_append]
            rw [e1]
            refine Ex_istore 29 (ls' := [some (.ref m), some (.int (nI lr.length)), some (.int 1), some (.int (nI (hmKd t - 11))), some (.int 0), none]) dX9_reads_27 (Nat.le_of_ble_eq_true rfl) rfl rfl rfl ?_
            refine Ex_aload_n 30 (i := 0) dX9_reads_29 rfl rfl rfl ?_
            refine Ex_bipush 32 (v := 40) dX9_reads_30 (by decide) rfl ?_
            refine Ex_callV (M' := MX9_isSign) 35 [.int 40] (rest := []) dX9_reads_32 lX9_189 mX9_isSign rfl (xMs_0 hm) rfl (Nat.le_of_ble_eq_true rfl) (Nat.le_of_ble_eq_true rfl) rfl ?_
            refine mc_isSign hm hA (c := 40) (by decide) ?_
            simp only [Option.toList, List.cons_append, List.nil_append]
            rw [e2]
            refine Ex_istore 37 (ls' := [some (.ref m), some (.int (nI lr.length)), some (.int 1), some (.int (nI (hmKd t - 11))), some (.int 0), some (.int 0)]) dX9_reads_35 (Nat.le_of_ble_eq_true rfl) rfl rfl rfl ?_
            refine Ex_iload_n 38 (i := 3) dX9_reads_37 rfl rfl rfl ?_
            refine Ex_if_ne 41 65 dX9_reads_38 (by decide) rfl (fun c2 => ?_) (fun c2 => absurd c2 (fun q => absurd ((nI_eq (b := 0) (by omega) (by omega)).mp q) (by omega)))
            refine Ex_iload_n 66 (i := 1) dX9_reads_65 rfl rfl rfl ?_
            refine Ex_iconst 67 (v := 5) dX9_reads_66 (by decide) rfl ?_
            refine Ex_icmp_ne 70 76 dX9_reads_67 (by decide) rfl (fun c3 => absurd c3 (fun q => q (by rw [h5]; rfl))) (fun c3 => ?_)
            refine Ex_aload_n 71 (i := 0) dX9_reads_70 rfl rfl rfl ?_
            refine Ex_iconst 72 (v := 5) dX9_reads_71 (by decide) rfl ?_
            refine Ex_callV (M' := MX9_fails) 75 [.int 5] (rest := []) dX9_reads_72 lX9_193 mX9_fails rfl (xMs_0 hm) rfl (Nat.le_of_ble_eq_true rfl) (Nat.le_of_ble_eq_true rfl) rfl ?_
            refine mc_fails (k := 5) hm hA ?_
            simp only [Option.toList, List.nil_append, List.cons_append]
            refine Ex_iret dX9_reads_75 rfl (by decide) (Or.inl rfl) ?_
            have hfl := hmFl_lt (k := 5) (t := t) (by omega) (by omega) hA.pl
            exact hF (hmFl 5 t) _ LL (he.trans (eS)) hfl.1 hfl.2 (gJ.tr hmRf.fl) gL (by rw [va_up_self, va_up_self])
          have eS := eS0 h5
          rw [ecv] at eS
          refine Ex_iload_n 12 (i := 2) dX9_reads_11 rfl rfl rfl ?_
          refine Ex_if_eq 15 179 dX9_reads_12 (by decide) rfl (fun c1 => absurd c1 (by decide)) (fun c1 => ?_)
          refine Ex_aload_n 16 (i := 0) dX9_reads_15 rfl rfl rfl ?_
          refine Ex_callV (M' := MX9_fact) 19 [] (rest := []) dX9_reads_16 lX9_179 mX9_fact rfl (xMs_0 hm) rfl (Nat.le_of_ble_eq_true rfl) (Nat.le_of_ble_eq_true rfl) rfl ?_
          refine mc_fact hm hA ?_
          simp only [Option.toList, List.cons_append, List.nil_append]
          rw [eF]
          refine Ex_istore_n 20 (i := 3) (ls' := [some (.ref m), some (.int (nI lr.length)), some (.int 1), some (.int (nI (hmKd t - 11))), none, none]) dX9_reads_19 rfl (Nat.le_of_ble_eq_true rfl) rfl rfl rfl ?_
          refine Ex_aload_n 21 (i := 0) dX9_reads_20 rfl rfl rfl ?_
          refine Ex_ldc2 24 (v := 10631) dX9_reads_21 kX9_183 rfl ?_
          refine Ex_callV (M' := MX9_isWord) 27 [.long 10631] (rest := []) dX9_reads_24 lX9_185 mX9_isWord rfl (xMs_0 hm) rfl (Nat.le_of_ble_eq_true rfl) (Nat.le_of_ble_eq_true rfl) rfl ?_
          refine mc_isWord hm hA (l := wNot) (by decide +kernel) (by unfold hmWd; decide) ?_
          simp only [Option.toList, List.cons_append, List.nil_append]
          rw [e1]
          refine Ex_istore 29 (ls' := [some (.ref m), some (.int (nI lr.length)), some (.int 1), some (.int (nI (hmKd t - 11))), some (.int 0), none]) dX9_reads_27 (Nat.le_of_ble_eq_true rfl) rfl rfl rfl ?_
          refine Ex_aload_n 30 (i := 0) dX9_reads_29 rfl rfl rfl ?_
          refine Ex_bipush 32 (v := 40) dX9_reads_30 (by decide) rfl ?_
          refine Ex_callV (M' := MX9_isSign) 35 [.int 40] (rest := []) dX9_reads_32 lX9_189 mX9_isSign rfl (xMs_0 hm) rfl (Nat.le_of_ble_eq_true rfl) (Nat.le_of_ble_eq_true rfl) rfl ?_
          refine mc_isSign hm hA (c := 40) (by decide) ?_
          simp only [Option.toList, List.cons_append, List.nil_append]
          rw [e2]
          refine Ex_istore 37 (ls' := [some (.ref m), some (.int (nI lr.length)), some (.int 1), some (.int (nI (hmKd t - 11))), some (.int 0), some (.int 0)]) dX9_reads_35 (Nat.le_of_ble_eq_true rfl) rfl rfl rfl ?_
          refine Ex_iload_n 38 (i := 3) dX9_reads_37 rfl rfl rfl ?_
          refine Ex_if_ne 41 65 dX9_reads_38 (by decide) rfl (fun c2 => ?_) (fun c2 => absurd c2 (fun q => absurd ((nI_eq (b := 0) (by omega) (by omega)).mp q) (by omega)))
          refine Ex_iload_n 66 (i := 1) dX9_reads_65 rfl rfl rfl ?_
          refine Ex_iconst 67 (v := 5) dX9_reads_66 (by decide) rfl ?_
          refine Ex_icmp_ne 70 76 dX9_reads_67 (by decide) rfl (fun c3 => ?_) (fun c3 => absurd c3 (fun q => absurd ((nI_eq (b := 5) (by omega) (by omega)).mp q) (by omega)))
          refine Ex_iload 78 dX9_reads_76 rfl rfl ?_
          refine Ex_if_ne 81 86 dX9_reads_78 (by decide) rfl (fun c4 => absurd c4 (fun q => q (by decide))) (fun c4 => ?_)
          refine Ex_iload 83 dX9_reads_81 rfl rfl ?_
          refine Ex_if_eq 86 131 dX9_reads_83 (by decide) rfl (fun c5 => ?_) (fun c5 => absurd c5 (fun q => q (by decide)))
          refine Ex_aload_n 132 (i := 0) dX9_reads_131 rfl rfl rfl ?_
          refine Ex_iload_n 133 (i := 3) dX9_reads_132 rfl rfl rfl ?_
          refine Ex_if_le 136 140 dX9_reads_133 (by decide) rfl (fun c6 => absurd c6 (fun q => absurd (hm_le0 (by omega) q) (by omega))) (fun c6 => ?_)
          refine Ex_iload_n 137 (i := 3) dX9_reads_136 rfl rfl rfl ?_
          refine Ex_goto 147 dX9_reads_137 (by decide) ?_
          refine Ex_callV (M' := MX9_puts) 150 [.int (nI (hmKd t - 11))] (rest := []) dX9_reads_147 lX9_196 mX9_puts rfl (xMs_0 hm) rfl (Nat.le_of_ble_eq_true rfl) (Nat.le_of_ble_eq_true rfl) rfl ?_
          refine mc_puts (k := 1000 + cs.length) hm hcd.1 (by omega) ?_
          simp only [Option.toList, List.nil_append, List.cons_append]
          refine Ex_iconst 151 (v := 0) dX9_reads_150 (by decide) rfl ?_
          refine Ex_istore_n 152 (i := 2) (ls' := [some (.ref m), some (.int (nI lr.length)), some (.int 0), some (.int (nI (hmKd t - 11))), some (.int 0), some (.int 0)]) dX9_reads_151 rfl (Nat.le_of_ble_eq_true rfl) rfl rfl rfl ?_
          refine mc_pop1 hm ((x, c) :: lr) lr.length hlk (hmOp.kept _ ho (fun k hk => by rw [va_up_ne _ _ (by omega), va_up_ne _ _ (by omega), va_up_ne _ _ (by omega), va_up_ne _ _ (by omega)]; exact ⟨rfl, rfl⟩)) (by rw [List.length_cons]) (by rw [List.length_cons]; omega) (fun u8 hu8 => ?_)
          refine Ex_aload_n 173 (i := 0) dX9_reads_172 rfl rfl rfl ?_
          refine Ex_callV (M' := MX9_nextToken) 176 [] (rest := []) dX9_reads_173 lX9_200 mX9_nextToken rfl (xMs_0 hm) rfl (Nat.le_of_ble_eq_true rfl) (Nat.le_of_ble_eq_true rfl) rfl ?_
          have hAx : hmAm (va_up (va_up J (m + 10) (va_up (J (m + 10)) (1000 + cs.length) (nI (hmKd t - 11)))) m (va_up (J m) 19 (nI (1000 + cs.length + 1)))) LL m T t r := hA.kept (fun k hk => by rw [va_up_self, va_up_ne _ _ (by omega)]) (by rw [va_up_ne _ _ (by omega), va_up_ne _ _ (by omega)]) rfl
          refine mc_nxt hm hAx hc ht0 (fun t1 r1 I1 L1 er1 gs1 gt1 hA1 => ?_)
          simp only [Option.toList, List.nil_append, List.cons_append]
          refine Ex_goto 11 dX9_reads_176 (by decide) ?_
          refine Ex_fgt (ls' := [some (.ref m), some (.int (nI u8)), some (.int 0), none, none, none]) (by simp [xsub]) ?_
          have gM : hmRf m I (va_up (va_up J (m + 10) (va_up (J (m + 10)) (1000 + cs.length) (nI (hmKd t - 11)))) m (va_up (J m) 19 (nI (1000 + cs.length + 1)))) := by
            have z0 := gJ.tr (hmRf.pt (m := m) (k := 1000 + cs.length) (I := J) (x := (nI (hmKd t - 11))) (v := nI (1000 + cs.length + 1)) (by omega))
            exact z0
          have eL : (hmLm ts true [(0, false)] []) = hmLm (t1 :: r1) false (hmPn ((x, c) :: lr)) (cs ++ [(nI (hmKd t - 11))]) := by rw [he, eS, er1]
          have hcd1 : hmCd I1 m (cs ++ [(nI (hmKd t - 11))]) := (hcd.put (x := (nI (hmKd t - 11)))).kept (by rw [gs1.2 19 (by omega) (by omega) (by omega) (by omega)]) (by rw [gs1.1 (m + 10) (by omega)])
          rw [er1] at hn hb
          have zz : (t :: t1 :: r1).length = (t1 :: r1).length + 1 := rfl
          have zc : (cs ++ [(nI (hmKd t - 11))]).length = cs.length + 1 := by rw [List.length_append]; rfl
          exact ih t1 r1 (hmPn ((x, c) :: lr)) (cs ++ [(nI (hmKd t - 11))]) false I1 L1 u8 (by omega) (by omega) hu8 (hmLk_pn _ hlk) (by have := hmPn_len ((x, c) :: lr); rw [List.length_cons] at this; omega) eL (gM.tr (hmRf.nf gs1)) (gL.tr gt1) (hmOp_pn _ (hmOp.kept _ ho (fun k hk => by rw [gs1.1 (m + 11) (by omega), gs1.1 (m + 12) (by omega), va_up_ne _ _ (by omega), va_up_ne _ _ (by omega), va_up_ne _ _ (by omega), va_up_ne _ _ (by omega)]; exact ⟨rfl, rfl⟩))) hcd1 hA1
        have t3 : t.1 = 3 := hm_kN.1.mpr (by omega)
        have hkn := hm_kN.2 t3
        have hd4 := sk.2.1 t3
        have hv8 := hA.2.2.2.2.1 t3
        have eF : hmFc t = 0 := if_neg (by omega)
        have ecv : hmVc (hmKd t) = nI (100 + hmDec t.2.1) := by unfold hmVc; rw [if_neg (by omega), hkn, show 16 + hmDec t.2.1 - 16 = hmDec t.2.1 by omega]
        by_cases h5 : lr.length = 5
        · have eS : hmLm (t :: r) true ((x, c) :: lr) cs = .inl (hmFl 5 t) := by rw [hmLm_t, if_neg hbad, if_pos (by rw [List.length_cons]; omega)]; rfl
          refine Ex_iload_n 12 (i := 2) dX9_reads_11 rfl rfl rfl ?_
          refine Ex_if_eq 15 179 dX9_reads_12 (by decide) rfl (fun c1 => absurd c1 (by decide)) (fun c1 => ?_)
          refine Ex_aload_n 16 (i := 0) dX9_reads_15 rfl rfl rfl ?_
          refine Ex_callV (M' := MX9_fact) 19 [] (rest := []) dX9_reads_16 lX9_179 mX9_fact rfl (xMs_0 hm) rfl (Nat.le_of_ble_eq_true rfl) (Nat.le_of_ble_eq_true rfl) rfl ?_
          refine mc_fact hm hA ?_
          simp only [Option.toList, List.cons_append, List.nil_append]
          rw [eF]
          refine Ex_istore_n 20 (i := 3) (ls' := [some (.ref m), some (.int (nI lr.length)), some (.int 1), some (.int 0), none, none]) dX9_reads_19 rfl (Nat.le_of_ble_eq_true rfl) rfl rfl rfl ?_
          refine Ex_aload_n 21 (i := 0) dX9_reads_20 rfl rfl rfl ?_
          refine Ex_ldc2 24 (v := 10631) dX9_reads_21 kX9_183 rfl ?_
          refine Ex_callV (M' := MX9_isWord) 27 [.long 10631] (rest := []) dX9_reads_24 lX9_185 mX9_isWord rfl (xMs_0 hm) rfl (Nat.le_of_ble_eq_true rfl) (Nat.le_of_ble_eq_true rfl) rfl ?_
          refine mc_isWord hm hA (l := wNot) (by decide +kernel) (by unfold hmWd; decide) ?_
          simp only [Option.toList, List.cons_append, List.nil_append]
          rw [e1]
          refine Ex_istore 29 (ls' := [some (.ref m), some (.int (nI lr.length)), some (.int 1), some (.int 0), some (.int 0), none]) dX9_reads_27 (Nat.le_of_ble_eq_true rfl) rfl rfl rfl ?_
          refine Ex_aload_n 30 (i := 0) dX9_reads_29 rfl rfl rfl ?_
          refine Ex_bipush 32 (v := 40) dX9_reads_30 (by decide) rfl ?_
          refine Ex_callV (M' := MX9_isSign) 35 [.int 40] (rest := []) dX9_reads_32 lX9_189 mX9_isSign rfl (xMs_0 hm) rfl (Nat.le_of_ble_eq_true rfl) (Nat.le_of_ble_eq_true rfl) rfl ?_
          refine mc_isSign hm hA (c := 40) (by decide) ?_
          simp only [Option.toList, List.cons_append, List.nil_append]
          rw [e2]
          refine Ex_istore 37 (ls' := [some (.ref m), some (.int (nI lr.length)), some (.int 1), some (.int 0), some (.int 0), some (.int 0)]) dX9_reads_35 (Nat.le_of_ble_eq_true rfl) rfl rfl rfl ?_
          refine Ex_iload_n 38 (i := 3) dX9_reads_37 rfl rfl rfl ?_
          refine Ex_if_ne 41 65 dX9_reads_38 (by decide) rfl (fun c2 => absurd c2 (fun q => q (by decide))) (fun c2 => ?_)
          refine Ex_iload 43 dX9_reads_41 rfl rfl ?_
          refine Ex_if_ne 46 65 dX9_reads_43 (by decide) rfl (fun c3 => absurd c3 (fun q => q (by decide))) (fun c3 => ?_)
          refine Ex_iload 48 dX9_reads_46 rfl rfl ?_
          refine Ex_if_ne 51 65 dX9_reads_48 (by decide) rfl (fun c4 => absurd c4 (fun q => q (by decide))) (fun c4 => ?_)
          refine Ex_aload_n 52 (i := 0) dX9_reads_51 rfl rfl rfl ?_
          refine Ex_gI 55 (J m 6) dX9_reads_52 fX9_154 (xMs_0 hm) rfl rfl rfl ?_
          refine Ex_iconst 56 (v := 2) dX9_reads_55 (by decide) rfl ?_
          refine Ex_icmp_eq 59 65 dX9_reads_56 (by decide) rfl (fun c5 => ?_) (fun c5 => absurd c5 (fun q => q (hq2.mpr t3)))
          refine Ex_iload_n 66 (i := 1) dX9_reads_65 rfl rfl rfl ?_
          refine Ex_iconst 67 (v := 5) dX9_reads_66 (by decide) rfl ?_
          refine Ex_icmp_ne 70 76 dX9_reads_67 (by decide) rfl (fun c6 => absurd c6 (fun q => q (by rw [h5]; rfl))) (fun c6 => ?_)
          refine Ex_aload_n 71 (i := 0) dX9_reads_70 rfl rfl rfl ?_
          refine Ex_iconst 72 (v := 5) dX9_reads_71 (by decide) rfl ?_
          refine Ex_callV (M' := MX9_fails) 75 [.int 5] (rest := []) dX9_reads_72 lX9_193 mX9_fails rfl (xMs_0 hm) rfl (Nat.le_of_ble_eq_true rfl) (Nat.le_of_ble_eq_true rfl) rfl ?_
          refine mc_fails (k := 5) hm hA ?_
          simp only [Option.toList, List.nil_append, List.cons_append]
          refine Ex_iret dX9_reads_75 rfl (by decide) (Or.inl rfl) ?_
          have hfl := hmFl_lt (k := 5) (t := t) (by omega) (by omega) hA.pl
          exact hF (hmFl 5 t) _ LL (he.trans (eS)) hfl.1 hfl.2 (gJ.tr hmRf.fl) gL (by rw [va_up_self, va_up_self])
        have eS := eS0 h5
        rw [ecv] at eS
        refine Ex_iload_n 12 (i := 2) dX9_reads_11 rfl rfl rfl ?_
        refine Ex_if_eq 15 179 dX9_reads_12 (by decide) rfl (fun c1 => absurd c1 (by decide)) (fun c1 => ?_)
        refine Ex_aload_n 16 (i := 0) dX9_reads_15 rfl rfl rfl ?_
        refine Ex_callV (M' := MX9_fact) 19 [] (rest := []) dX9_reads_16 lX9_179 mX9_fact rfl (xMs_0 hm) rfl (Nat.le_of_ble_eq_true rfl) (Nat.le_of_ble_eq_true rfl) rfl ?_
        refine mc_fact hm hA ?_
        simp only [Option.toList, List.cons_append, List.nil_append]
        rw [eF]
        refine Ex_istore_n 20 (i := 3) (ls' := [some (.ref m), some (.int (nI lr.length)), some (.int 1), some (.int 0), none, none]) dX9_reads_19 rfl (Nat.le_of_ble_eq_true rfl) rfl rfl rfl ?_
        refine Ex_aload_n 21 (i := 0) dX9_reads_20 rfl rfl rfl ?_
        refine Ex_ldc2 24 (v := 10631) dX9_reads_21 kX9_183 rfl ?_
        refine Ex_callV (M' := MX9_isWord) 27 [.long 10631] (rest := []) dX9_reads_24 lX9_185 mX9_isWord rfl (xMs_0 hm) rfl (Nat.le_of_ble_eq_true rfl) (Nat.le_of_ble_eq_true rfl) rfl ?_
        refine mc_isWord hm hA (l := wNot) (by decide +kernel) (by unfold hmWd; decide) ?_
        simp only [Option.toList, List.cons_append, List.nil_append]
        rw [e1]
        refine Ex_istore 29 (ls' := [some (.ref m), some (.int (nI lr.length)), some (.int 1), some (.int 0), some (.int 0), none]) dX9_reads_27 (Nat.le_of_ble_eq_true rfl) rfl rfl rfl ?_
        refine Ex_aload_n 30 (i := 0) dX9_reads_29 rfl rfl rfl ?_
        refine Ex_bipush 32 (v := 40) dX9_reads_30 (by decide) rfl ?_
        refine Ex_callV (M' := MX9_isSign) 35 [.int 40] (rest := []) dX9_reads_32 lX9_189 mX9_isSign rfl (xMs_0 hm) rfl (Nat.le_of_ble_eq_true rfl) (Nat.le_of_ble_eq_true rfl) rfl ?_
        refine mc_isSign hm hA (c := 40) (by decide) ?_
        simp only [Option.toList, List.cons_append, List.nil_append]
        rw [e2]
        refine Ex_istore 37 (ls' := [some (.ref m), some (.int (nI lr.length)), some (.int 1), some (.int 0), some (.int 0), some (.int 0)]) dX9_reads_35 (Nat.le_of_ble_eq_true rfl) rfl rfl rfl ?_
        refine Ex_iload_n 38 (i := 3) dX9_reads_37 rfl rfl rfl ?_
        refine Ex_if_ne 41 65 dX9_reads_38 (by decide) rfl (fun c2 => absurd c2 (fun q => q (by decide))) (fun c2 => ?_)
        refine Ex_iload 43 dX9_reads_41 rfl rfl ?_
        refine Ex_if_ne 46 65 dX9_reads_43 (by decide) rfl (fun c3 => absurd c3 (fun q => q (by decide))) (fun c3 => ?_)
        refine Ex_iload 48 dX9_reads_46 rfl rfl ?_
        refine Ex_if_ne 51 65 dX9_reads_48 (by decide) rfl (fun c4 => absurd c4 (fun q => q (by decide))) (fun c4 => ?_)
        refine Ex_aload_n 52 (i := 0) dX9_reads_51 rfl rfl rfl ?_
        refine Ex_gI 55 (J m 6) dX9_reads_52 fX9_154 (xMs_0 hm) rfl rfl rfl ?_
        refine Ex_iconst 56 (v := 2) dX9_reads_55 (by decide) rfl ?_
        refine Ex_icmp_eq 59 65 dX9_reads_56 (by decide) rfl (fun c5 => ?_) (fun c5 => absurd c5 (fun q => q (hq2.mpr t3)))
        refine Ex_iload_n 66 (i := 1) dX9_reads_65 rfl rfl rfl ?_
        refine Ex_iconst 67 (v := 5) dX9_reads_66 (by decide) rfl ?_
        refine Ex_icmp_ne 70 76 dX9_reads_67 (by decide) rfl (fun c6 => ?_) (fun c6 => absurd c6 (fun q => absurd ((nI_eq (b := 5) (by omega) (by omega)).mp q) (by omega)))
        refine Ex_iload 78 dX9_reads_76 rfl rfl ?_
        refine Ex_if_ne 81 86 dX9_reads_78 (by decide) rfl (fun c7 => absurd c7 (fun q => q (by decide))) (fun c7 => ?_)
        refine Ex_iload 83 dX9_reads_81 rfl rfl ?_
        refine Ex_if_eq 86 131 dX9_reads_83 (by decide) rfl (fun c8 => ?_) (fun c8 => absurd c8 (fun q => q (by decide)))
        refine Ex_aload_n 132 (i := 0) dX9_reads_131 rfl rfl rfl ?_
        refine Ex_iload_n 133 (i := 3) dX9_reads_132 rfl rfl rfl ?_
        refine Ex_if_le 136 140 dX9_reads_133 (by decide) rfl (fun c9 => ?_) (fun c9 => absurd c9 (fun q => q (by decide)))
        refine Ex_bipush 142 (v := 100) dX9_reads_140 (by decide) rfl ?_
        refine Ex_aload_n 143 (i := 0) dX9_reads_142 rfl rfl rfl ?_
        refine Ex_gI 146 (J m 8) dX9_reads_143 fX9_151 (xMs_0 hm) rfl rfl rfl ?_
        rw [hv8]
        refine Ex_iadd 147 dX9_reads_146 rfl ?_
        rw [show (100 : Int32) = nI 100 from rfl, hm_addN]
        refine Ex_callV (M' := MX9_puts) 150 [.int (nI (100 + hmDec t.2.1))] (rest := []) dX9_reads_147 lX9_196 mX9_puts rfl (xMs_0 hm) rfl (Nat.le_of_ble_eq_true rfl) (Nat.le_of_ble_eq_true rfl) rfl ?_
        refine mc_puts (k := 1000 + cs.length) hm hcd.1 (by omega) ?_
        simp only [Option.toList, List.nil_append, List.cons_append]
        refine Ex_iconst 151 (v := 0) dX9_reads_150 (by decide) rfl ?_
        refine Ex_istore_n 152 (i := 2) (ls' := [some (.ref m), some (.int (nI lr.length)), some (.int 0), some (.int 0), some (.int 0), some (.int 0)]) dX9_reads_151 rfl (Nat.le_of_ble_eq_true rfl) rfl rfl rfl ?_
        refine mc_pop1 hm ((x, c) :: lr) lr.length hlk (hmOp.kept _ ho (fun k hk => by rw [va_up_ne _ _ (by omega), va_up_ne _ _ (by omega), va_up_ne _ _ (by omega), va_up_ne _ _ (by omega)]; exact ⟨rfl, rfl⟩)) (by rw [List.length_cons]) (by rw [List.length_cons]; omega) (fun u8 hu8 => ?_)
        refine Ex_aload_n 173 (i := 0) dX9_reads_172 rfl rfl rfl ?_
        refine Ex_callV (M' := MX9_nextToken) 176 [] (rest := []) dX9_reads_173 lX9_200 mX9_nextToken rfl (xMs_0 hm) rfl (Nat.le_of_ble_eq_true rfl) (Nat.le_of_ble_eq_true rfl) rfl ?_
        have hAx : hmAm (va_up (va_up J (m + 10) (va_up (J (m + 10)) (1000 + cs.length) (nI (100 + hmDec t.2.1)))) m (va_up (J m) 19 (nI (1000 + cs.length + 1)))) LL m T t r := hA.kept (fun k hk => by rw [va_up_self, va_up_ne _ _ (by omega)]) (by rw [va_up_ne _ _ (by omega), va_up_ne _ _ (by omega)]) rfl
        refine mc_nxt hm hAx hc ht0 (fun t1 r1 I1 L1 er1 gs1 gt1 hA1 => ?_)
        simp only [Option.toList, List.nil_append, List.cons_append]
        refine Ex_goto 11 dX9_reads_176 (by decide) ?_
        refine Ex_fgt (ls' := [some (.ref m), some (.int (nI u8)), some (.int 0), none, none, none]) (by simp [xsub]) ?_
        have gM : hmRf m I (va_up (va_up J (m + 10) (va_up (J (m + 10)) (1000 + cs.length) (nI (100 + hmDec t.2.1)))) m (va_up (J m) 19 (nI (1000 + cs.length + 1)))) := by
          have z0 := gJ.tr (hmRf.pt (m := m) (k := 1000 + cs.length) (I := J) (x := (nI (100 + hmDec t.2.1))) (v := nI (1000 + cs.length + 1)) (by omega))
          exact z0
        have eL : (hmLm ts true [(0, false)] []) = hmLm (t1 :: r1) false (hmPn ((x, c) :: lr)) (cs ++ [(nI (100 + hmDec t.2.1))]) := by rw [he, eS, er1]
        have hcd1 : hmCd I1 m (cs ++ [(nI (100 + hmDec t.2.1))]) := (hcd.put (x := (nI (100 + hmDec t.2.1)))).kept (by rw [gs1.2 19 (by omega) (by omega) (by omega) (by omega)]) (by rw [gs1.1 (m + 10) (by omega)])
        rw [er1] at hn hb
        have zz : (t :: t1 :: r1).length = (t1 :: r1).length + 1 := rfl
        have zc : (cs ++ [(nI (100 + hmDec t.2.1))]).length = cs.length + 1 := by rw [List.length_append]; rfl
        exact ih t1 r1 (hmPn ((x, c) :: lr)) (cs ++ [(nI (100 + hmDec t.2.1))]) false I1 L1 u8 (by omega) (by omega) hu8 (hmLk_pn _ hlk) (by have := hmPn_len ((x, c) :: lr); rw [List.length_cons] at this; omega) eL (gM.tr (hmRf.nf gs1)) (gL.tr gt1) (hmOp_pn _ (hmOp.kept _ ho (fun k hk => by rw [gs1.1 (m + 11) (by omega), gs1.1 (m + 12) (by omega), va_up_ne _ _ (by omega), va_up_ne _ _ (by omega), va_up_ne _ _ (by omega), va_up_ne _ _ (by omega)]; exact ⟨rfl, rfl⟩))) hcd1 hA1
