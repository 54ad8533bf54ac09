/-- the law read so far -/
def hmLs (I : xI) (la : Nat) (lw : List Int32) : Prop := lw.length ≤ 1000 ∧ I la 2 = nI lw.length ∧ ∀ i, i < lw.length → I (la + 1) i = lw.getD i 0
def hmLq (I : xI) (la : Nat) : Prop := ∃ n, n ≤ 1000 ∧ I la 2 = nI n
theorem hmLs.lq {I : xI} {la : Nat} {lw : List Int32} (h : hmLs I la lw) : hmLq I la := ⟨lw.length, h.1, h.2.1⟩
def hmLr (a la : Nat) (I I' : xI) : Prop := (∀ x, x ≠ a → x ≠ a + 1 → x ≠ la → x ≠ la + 1 → I' x = I x) ∧ I' (a + 1) 1 = I (a + 1) 1 ∧ ∀ k, k ≠ 1 → k ≠ 2 → I' a k = I a k
theorem hmLr.rf {a la : Nat} {I : xI} : hmLr a la I I := ⟨fun _ _ _ _ _ => rfl, rfl, fun _ _ _ => rfl⟩
theorem hmLr.tr {a la : Nat} {I J K : xI} (h1 : hmLr a la I J) (h2 : hmLr a la J K) : hmLr a la I K := ⟨fun x p q r s => (h2.1 x p q r s).trans (h1.1 x p q r s), h2.2.1.trans h1.2.1, fun k p q => (h2.2.2 k p q).trans (h1.2.2 k p q)⟩
theorem hmLr.tf {a la : Nat} {I J : xI} (h : hmTf a I J) : hmLr a la I J := ⟨fun x p q _ _ => h.1 x p q, h.2.1, h.2.2⟩
theorem hmLr.sp {a la : Nat} {I J : xI} (h : hmSp (a + 1) I J) : hmLr a la I J := hmLr.tf (hmTf.sp h)
theorem hmLr.ad {a la : Nat} {I J : xI} (hd : a + 3 ≤ la ∨ la + 3 ≤ a) (h : ∀ x, x ≠ la → x ≠ la + 1 → J x = I x) : hmLr a la I J := ⟨fun x _ _ p q => h x p q, by rw [h (a + 1) (by omega) (by omega)], fun k _ _ => by rw [h a (by omega) (by omega)]⟩
def hmLo (a la : Nat) (I I' : xI) : Prop := hmLr a la I I' ∧ I' a 1 = I a 1
theorem hmLo.tr {a la : Nat} {I J K : xI} (h1 : hmLo a la I J) (h2 : hmLo a la J K) : hmLo a la I K := ⟨h1.1.tr h2.1, h2.2.trans h1.2⟩
theorem hmLo.sp {a la : Nat} {I J : xI} (h : hmSp (a + 1) I J) : hmLo a la I J := ⟨hmLr.sp h, by rw [h.1 a (by omega)]⟩
theorem hmLo.ad {a la : Nat} {I J : xI} (hd : a + 3 ≤ la ∨ la + 3 ≤ a) (h : ∀ x, x ≠ la → x ≠ la + 1 → J x = I x) : hmLo a la I J := ⟨hmLr.ad hd h, by rw [h a (by omega) (by omega)]⟩
theorem hmLs.kept {I J : xI} {la : Nat} {lw : List Int32} (h : hmLs I la lw) (e1 : J la = I la) (e2 : J (la + 1) = I (la + 1)) : hmLs J la lw := by
  unfold hmLs at h ⊢
  rw [e1, e2]
  exact h
theorem hmLq.kept {I J : xI} {la : Nat} (h : hmLq I la) (e1 : J la = I la) : hmLq J la := by
  unfold hmLq at h ⊢
  rw [e1]
  exact h
theorem hmLs.add {I : xI} {la : Nat} {lw : List Int32} {x : Int32} (h : hmLs I la lw) (hn : lw.length < 1000) : hmLs (va_up (va_up I (la + 1) (va_up (I (la + 1)) lw.length x)) la (va_up (I la) 2 (nI (lw.length + 1)))) la (lw ++ [x]) := by
  refine ⟨by rw [List.length_append, List.length_singleton]; omega, by rw [va_up_self, va_up_self, List.length_append, List.length_singleton], fun i hi => ?_⟩
  rw [List.length_append, List.length_singleton] at hi
  rw [va_up_ne _ _ (by omega), va_up_self]
  by_cases e : i = lw.length
  · rw [e, va_up_self]
    simp
  · rw [va_up_ne _ _ e, h.2.2 i (by omega)]
    simp [List.getElem?_append_left (show i < lw.length by omega)]
set_option maxHeartbeats 4000000 in
theorem c_lawAddQ {d : Nat} {sh : xSh} {R : xR} {L : xL} {I : xI} {Q : xQ} {la n : Nat} {x : Int32} (hla : xLaw sh R la) (hn : I la 2 = nI n) (hn2 : n ≤ 1000) (hQ : ∀ I' n', n' ≤ 1000 → (∀ x, x ≠ la → x ≠ la + 1 → I' x = I x) → I' la 2 = nI n' → Q none 0 sh R L I') : Ex d 0 0 MX2_add 0 sh R L I 0 [some (.ref la), some (.int x)] [] Q := by
  rcases Nat.lt_or_ge n 1000 with h | h
  · exact c_lawAdd hla hn h (hQ _ (n + 1) (by omega) (fun x p q => by rw [va_up_ne _ _ p, va_up_ne _ _ q]) (by rw [va_up_self, va_up_self]))
  · have e : n = 1000 := by omega
    subst e
    refine Ex_aload_n 1 (i := 0) dX2_add_0 rfl rfl rfl ?_
    refine Ex_gI 4 (I la 2) dX2_add_1 fX2_18 hla.1 rfl rfl rfl ?_
    rw [hn]
    refine Ex_aload_n 5 (i := 0) dX2_add_4 rfl rfl rfl ?_
    refine Ex_getR 8 dX2_add_5 fX2_9 hla.1 rfl hla.2.2.2.1 rfl ?_
    refine Ex_alen 9 0 dX2_add_8 hla.2.1 (fun _ => rfl) rfl ?_
    refine Ex_icmp_ge 12 32 dX2_add_9 (by decide) rfl (fun c1 => ?_) (fun c1 => absurd c1 (fun q => q (nI_le (by omega) (by omega))))
    refine Ex_ret0 dX2_add_32 rfl (Or.inl rfl) ?_
    exact hQ I 1000 (Nat.le_refl _) (fun _ _ _ => rfl) hn
def hmFail (sh : xSh) (R : xR) (a la : Nat) (I : xI) (L : xL) (res : Nat ⊕ (List Int32 × List hmTok)) (Q : xQ) : Prop := ∀ F I' L', res = .inl F → 1 ≤ F → F < 20000 → hmLr a la I I' → hmSl (a + 1) L L' → I' a 1 = nI F → hmLq I' la → Q (some (.int 0)) 0 sh R L' I'
def hmOkG (sh : xSh) (R : xR) (a la : Nat) (T : List Nat) (I : xI) (L : xL) (ts : List hmTok) (lv : hmLv) (cs lw : List Int32) (po : hmTok → hmLv → List Int32 → List Int32 → Prop) (Q : xQ) : Prop := ∀ t' r' lv' ci cp I' L', hmLm ts true lv cs = hmLm (t' :: r') false lv' (cs ++ ci) → po t' lv' ci cp → hmLo a la I I' → hmSl (a + 1) L L' → hmCx I' L' a T t' r' → hmLs I' la (lw ++ cp) → (t' :: r').length < ts.length → (lw ++ cp).length + (t' :: r').length ≤ lw.length + ts.length → ci.length + (t' :: r').length ≤ ts.length → Q (some (.int 1)) 0 sh R L' I'
def hmPoP (dp : Nat) (lv : hmLv) (_ : hmTok) (lv' : hmLv) (ci cp : List Int32) : Prop := lv' = hmPn lv ∧ hmSP dp ci cp
def hmPoX (dp : Nat) (lv : hmLv) (t : hmTok) (lv' : hmLv) (ci cp : List Int32) : Prop := lv' = lv ∧ hmSX dp ci cp ∧ ¬ hmKd t = 7
def hmPoS (dp : Nat) (lv : hmLv) (t : hmTok) (lv' : hmLv) (ci cp : List Int32) : Prop := lv' = lv ∧ hmSS dp ci cp ∧ ¬ hmKd t = 7 ∧ ¬ hmKd t = 5 ∧ ¬ hmKd t = 6
def hmPoT (dp : Nat) (lv : hmLv) (t : hmTok) (lv' : hmLv) (ci cp : List Int32) : Prop := (∃ b, lv' = hmSc b lv ∧ ((hmKd t = 8 ∨ hmKd t = 9) → b = true)) ∧ hmST dp ci cp ∧ ¬ hmKd t = 7 ∧ ¬ hmKd t = 5 ∧ ¬ hmKd t = 6
def hmPoW (dp : Nat) (lv : hmLv) (t : hmTok) (lv' : hmLv) (ci cp : List Int32) : Prop := (∃ b, lv' = hmSc b lv ∧ ((hmKd t = 8 ∨ hmKd t = 9) → b = true)) ∧ hmSW dp ci cp ∧ ¬ hmKd t = 7 ∧ ¬ hmKd t = 5 ∧ ¬ hmKd t = 6 ∧ ¬ hmKd t = 10 ∧ ¬ hmKd t = 11
def cp_part (sh : xSh) (R : xR) (a la : Nat) (T : List Nat) (n : Nat) : Prop := ∀ (dp : Nat) (t : hmTok) (r : List hmTok) (lv : hmLv) (cs lw : List Int32) (I : xI) (L : xL) (Q : xQ) (d : Nat), (t :: r).length ≤ n → dp ≤ 5 → hmCx I L a T t r → hmLs I la lw → lw.length + (t :: r).length ≤ 1001 → lv.length = dp + 1 → True → hmFail sh R a la I L (hmLm (t :: r) true lv cs) Q → hmOkG sh R a la T I L (t :: r) lv cs lw (hmPoP dp lv) Q → Ex (d + 5 * (5 - dp) + 10) 0 0 MX5_part 0 sh R L I 0 [some (.ref a), some (.ref la), some (.int (nI dp)), none, none, none, none] [] Q
def cp_product (sh : xSh) (R : xR) (a la : Nat) (T : List Nat) (n : Nat) : Prop := ∀ (dp : Nat) (t : hmTok) (r : List hmTok) (lv : hmLv) (cs lw : List Int32) (I : xI) (L : xL) (Q : xQ) (d : Nat), (t :: r).length ≤ n → dp ≤ 5 → hmCx I L a T t r → hmLs I la lw → lw.length + (t :: r).length ≤ 1001 → lv.length = dp + 1 → hmPn lv = lv → hmFail sh R a la I L (hmLm (t :: r) true lv cs) Q → hmOkG sh R a la T I L (t :: r) lv cs lw (hmPoX dp lv) Q → Ex (d + 5 * (5 - dp) + 11) 0 0 MX5_product 0 sh R L I 0 [some (.ref a), some (.ref la), some (.int (nI dp)), none, none] [] Q
def cp_sum (sh : xSh) (R : xR) (a la : Nat) (T : List Nat) (n : Nat) : Prop := ∀ (dp : Nat) (t : hmTok) (r : List hmTok) (lv : hmLv) (cs lw : List Int32) (I : xI) (L : xL) (Q : xQ) (d : Nat), (t :: r).length ≤ n → dp ≤ 5 → hmCx I L a T t r → hmLs I la lw → lw.length + (t :: r).length ≤ 1001 → lv.length = dp + 1 → hmPn lv = lv → hmFail sh R a la I L (hmLm (t :: r) true lv cs) Q → hmOkG sh R a la T I L (t :: r) lv cs lw (hmPoS dp lv) Q → Ex (d + 5 * (5 - dp) + 12) 0 0 MX5_sum 0 sh R L I 0 [some (.ref a), some (.ref la), some (.int (nI dp)), none, none, none] [] Q
def cp_test (sh : xSh) (R : xR) (a la : Nat) (T : List Nat) (n : Nat) : Prop := ∀ (dp : Nat) (t : hmTok) (r : List hmTok) (lv : hmLv) (cs lw : List Int32) (I : xI) (L : xL) (Q : xQ) (d : Nat), (t :: r).length ≤ n → dp ≤ 5 → hmCx I L a T t r → hmLs I la lw → lw.length + (t :: r).length ≤ 1001 → lv.length = dp + 1 → (hmPn lv = lv ∧ hmCm1 lv = false) → hmFail sh R a la I L (hmLm (t :: r) true lv cs) Q → hmOkG sh R a la T I L (t :: r) lv cs lw (hmPoT dp lv) Q → Ex (d + 5 * (5 - dp) + 13) 0 0 MX5_test 0 sh R L I 0 [some (.ref a), some (.ref la), some (.int (nI dp)), none, none] [] Q
def cp_wholeTest (sh : xSh) (R : xR) (a la : Nat) (T : List Nat) (n : Nat) : Prop := ∀ (dp : Nat) (t : hmTok) (r : List hmTok) (lv : hmLv) (cs lw : List Int32) (I : xI) (L : xL) (Q : xQ) (d : Nat), (t :: r).length ≤ n → dp ≤ 5 → hmCx I L a T t r → hmLs I la lw → lw.length + (t :: r).length ≤ 1001 → lv.length = dp + 1 → (hmPn lv = lv ∧ hmCm1 lv = false) → hmFail sh R a la I L (hmLm (t :: r) true lv cs) Q → hmOkG sh R a la T I L (t :: r) lv cs lw (hmPoW dp lv) Q → Ex (d + 5 * (5 - dp) + 14) 0 0 MX5_wholeTest 0 sh R L I 0 [some (.ref a), some (.ref la), some (.int (nI dp)), none, none, none] [] Q
theorem hm_step_op {t : hmTok} {r : List hmTok} {lv : hmLv} {cs : List Int32} (h : hmKd t = 5 ∨ hmKd t = 6 ∨ hmKd t = 7) : hmLm (t :: r) false lv cs = hmLm r true lv (cs ++ [if hmKd t = 5 then 20 else if hmKd t = 6 then 21 else 22]) := by
  have e : hmLm (t :: r) false lv cs = if hmKd t = 5 ∨ hmKd t = 6 ∨ hmKd t = 7 then hmLm r true lv (cs ++ [if hmKd t = 5 then 20 else if hmKd t = 6 then 21 else 22]) else if (hmKd t = 8 ∨ hmKd t = 9) ∧ hmCm1 lv = false then hmLm r true (hmSc true lv) (cs ++ [if hmKd t = 8 then 24 else 25]) else if hmKd t = 10 ∨ hmKd t = 11 then hmLm r true (hmSc false lv) (cs ++ [if hmKd t = 10 then 26 else 27]) else if hmKd t = 3 ∧ 1 < lv.length then hmLm r false (hmPn lv.tail) (cs ++ [29]) else if lv.length = 1 ∧ hmKd t = 4 then .inr (cs, r) else .inl (1 + 16 * t.2.2) := rfl
  rw [e, if_pos h]
set_option maxHeartbeats 4000000 in
theorem c_product_loop {sh : xSh} {R : xR} {a la : Nat} {T : List Nat} (ha : xReader sh R a) (hla : xLaw sh R la) (hd : a + 3 ≤ la ∨ la + 3 ≤ a) (hc : ∀ x, x ∈ T → x < 127) {n : Nat} (hp : cp_part sh R a la T n) {dp : Nat} (hdp : dp ≤ 5) {lv : hmLv} (hlv : lv.length = dp + 1) (hpn : hmPn lv = lv) {cs lw : List Int32} {ts : List hmTok} (htn : ts.length ≤ n) (htl : lw.length + ts.length ≤ 1001) {I : xI} {L : xL} {Q : xQ} {d : Nat} (hF : hmFail sh R a la I L (hmLm ts true lv cs) Q) (hK : hmOkG sh R a la T I L ts lv cs lw (hmPoX dp lv) Q) : ∀ (k i : Nat) (t1 : hmTok) (r1 : List hmTok) (ci cp : List Int32) (J : xI) (LL : xL), (t1 :: r1).length ≤ k → (t1 :: r1).length < ts.length → i + (t1 :: r1).length ≤ 1000 → hmLm ts true lv cs = hmLm (t1 :: r1) false lv (cs ++ ci) → hmSX dp ci cp → hmLo a la I J → hmSl (a + 1) L LL → hmCx J LL a T t1 r1 → hmLs J la (lw ++ cp) → (lw ++ cp).length + (t1 :: r1).length ≤ lw.length + ts.length → ci.length + (t1 :: r1).length ≤ ts.length → Ex (d + 5 * (5 - dp) + 11) 0 0 MX5_product 0 sh R LL J 10 [some (.ref a), some (.ref la), some (.int (nI dp)), some (.int 1), some (.int (nI i))] [] Q := by
  intro k
  induction k with
  | zero =>
    intro i t1 r1 ci cp J LL hk
    simp at hk
  | succ k ih =>
    intro i t1 r1 ci cp J LL hk hts hi he hS gJ gL hC hL hm1 hm2
    have hl1 : 1 ≤ (t1 :: r1).length := by simp
    have sk := hC.2.2.2.2.2.2.1
    have k7 := hm_kS (t := t1) sk (c := 42) (k := 7) (by decide) (by decide)
    refine Ex_iload 12 dX5_product_10 rfl rfl ?_
    refine Ex_sipush 15 (v := 1000) dX5_product_12 (by decide) rfl ?_
    refine Ex_icmp_ge 18 60 dX5_product_15 (by decide) rfl (fun c1 => absurd c1 (nI_ge (b := 1000) (by omega) (by omega))) (fun c1 => ?_)
    refine Ex_iload_n 19 (i := 3) dX5_product_18 rfl rfl rfl ?_
    refine Ex_if_eq 22 60 dX5_product_19 (by decide) rfl (fun c2 => absurd c2 (by decide)) (fun c2 => ?_)
    refine Ex_aload_n 23 (i := 0) dX5_product_22 rfl rfl rfl ?_
    refine Ex_getR 26 dX5_product_23 fX5_12 ha.1 rfl ha.2.2.2.1 rfl ?_
    refine Ex_bipush 28 (v := 42) dX5_product_26 (by decide) rfl ?_
    refine Ex_callV (M' := MX7_isSign) 31 [.int 42] (rest := []) dX5_product_28 lX5_68 mX7_isSign rfl ha.2.1 rfl (Nat.le_of_ble_eq_true rfl) (Nat.le_of_ble_eq_true rfl) rfl ?_
    refine c_isSign (xR_t ha) hC.2 (c := 42) (by decide) ?_
    simp only [Option.toList, List.cons_append, List.nil_append]
    refine Ex_if_eq 34 60 dX5_product_31 (by decide) rfl (fun c3 => ?_) (fun c3 => ?_)
    · refine Ex_iload_n 61 (i := 3) dX5_product_60 rfl rfl rfl ?_
      refine Ex_iret dX5_product_61 rfl (by decide) (Or.inl rfl) ?_
      have hn7 : ¬ hmKd t1 = 7 := of_decide_eq_false (by rw [← k7]; exact hmB_eq c3)
      exact hK t1 r1 lv ci cp J LL he ⟨rfl, hS, hn7⟩ gJ gL hC hL hts hm1 hm2
    · have hk7 : hmKd t1 = 7 := of_decide_eq_true (by rw [← k7]; exact hmB_ne c3)
      have eM : hmLm (t1 :: r1) false lv (cs ++ ci) = hmLm r1 true lv (cs ++ ci ++ [22]) := by
        have e0 := hm_step_op (t := t1) (r := r1) (lv := lv) (cs := cs ++ ci) (Or.inr (Or.inr hk7))
        rw [e0, hk7]
        rfl
      have ht0 : ¬ t1.1 = 0 := fun q => by rw [hm_k0 q] at hk7; exact absurd hk7 (by decide)
      refine Ex_aload_n 35 (i := 0) dX5_product_34 rfl rfl rfl ?_
      refine Ex_getR 38 dX5_product_35 fX5_12 ha.1 rfl ha.2.2.2.1 rfl ?_
      refine Ex_callV (M' := MX7_step) 41 [] (rest := []) dX5_product_38 lX5_65 mX7_step rfl ha.2.1 rfl (Nat.le_of_ble_eq_true rfl) (Nat.le_of_ble_eq_true rfl) rfl ?_
      refine c_rstep ha hc hC ht0 (fun t2 r2 I2 L2 er2 gs2 gt2 hC2 => ?_)
      simp only [Option.toList, List.nil_append, List.cons_append]
      subst er2
      have z2 : (t1 :: t2 :: r2).length = (t2 :: r2).length + 1 := rfl
      have y2 : 1 ≤ (t2 :: r2).length := by simp
      refine Ex_aload_n 42 (i := 0) dX5_product_41 rfl rfl rfl ?_
      refine Ex_aload_n 43 (i := 1) dX5_product_42 rfl rfl rfl ?_
      refine Ex_iload_n 44 (i := 2) dX5_product_43 rfl rfl rfl ?_
      refine Ex_callV (M' := MX5_part) 47 [.ref la, .int (nI dp)] (rest := []) dX5_product_44 lX5_215 mX5_part rfl ha.1 rfl (Nat.le_of_ble_eq_true rfl) (Nat.le_of_ble_eq_true rfl) rfl ?_
      refine Ex_d (d' := d + 5 * (5 - dp) + 10) (by omega) (hp dp t2 r2 lv (cs ++ ci ++ [22]) (lw ++ cp) I2 L2 _ d (by omega) hdp hC2 (hL.kept (gs2.1 _ (by omega)) (gs2.1 _ (by omega))) (by omega) hlv trivial (fun F3 I3 L3 e3 fa3 fb3 g3 gl3 k3 q3 => ?_) (fun t3 r3 lv3 ci3 cp3 I3 L3 e3 po3 g3 gl3 hC3 hL3 l3 m3 n3 => ?_))
      · simp only [Option.toList, List.nil_append, List.cons_append]
        refine Ex_istore_n 48 (i := 3) (ls' := [some (.ref a), some (.ref la), some (.int (nI dp)), some (.int 0), some (.int (nI i))]) dX5_product_47 rfl (Nat.le_of_ble_eq_true rfl) rfl rfl rfl ?_
        refine Ex_aload_n 49 (i := 1) dX5_product_48 rfl rfl rfl ?_
        refine Ex_bipush 51 (v := (-12)) dX5_product_49 (by decide) rfl ?_
        refine Ex_callV (M' := MX2_add) 54 [.int (-12)] (rest := []) dX5_product_51 lX5_206 mX2_add rfl hla.1 rfl (Nat.le_of_ble_eq_true rfl) (Nat.le_of_ble_eq_true rfl) rfl ?_
        obtain ⟨nq4, hq14, hq24⟩ := q3
        refine c_lawAddQ hla hq24 hq14 (fun J4 nr4 hr14 hr24 hr34 => ?_)
        simp only [Option.toList, List.nil_append, List.cons_append]
        refine Ex_iinc 57 (v := (nI (i + 1))) (ls' := [some (.ref a), some (.ref la), some (.int (nI dp)), some (.int 0), some (.int (nI (i + 1)))]) dX5_product_54 rfl (xinc _) (Nat.le_of_ble_eq_true rfl) rfl rfl rfl ?_
        refine Ex_goto 10 dX5_product_57 (by decide) ?_
        refine Ex_iload 12 dX5_product_10 rfl rfl ?_
        refine Ex_sipush 15 (v := 1000) dX5_product_12 (by decide) rfl ?_
        refine Ex_icmp_ge 18 60 dX5_product_15 (by decide) rfl (fun c4 => absurd c4 (nI_ge (b := 1000) (by omega) (by omega))) (fun c4 => ?_)
        refine Ex_iload_n 19 (i := 3) dX5_product_18 rfl rfl rfl ?_
        refine Ex_if_eq 22 60 dX5_product_19 (by decide) rfl (fun c5 => ?_) (fun c5 => absurd c5 (fun q => q (by decide)))
        refine Ex_iload_n 61 (i := 3) dX5_product_60 rfl rfl rfl ?_
        refine Ex_iret dX5_product_61 rfl (by decide) (Or.inl rfl) ?_
        have hre : hmLm ts true lv cs = .inl F3 := by rw [he, eM]; exact e3
        exact hF F3 J4 L3 hre fa3 fb3 (((gJ.1.tr (hmLr.sp gs2)).tr g3).tr (hmLr.ad hd hr24)) ((gL.tr gt2).tr gl3) (by rw [hr24 a (by omega) (by omega)]; exact k3) ⟨nr4, hr14, hr34⟩
      · simp only [Option.toList, List.nil_append, List.cons_append]
        have y3 : 1 ≤ (t3 :: r3).length := by simp
        have hn3 : (lw ++ cp ++ cp3).length < 1000 := by omega
        refine Ex_istore_n 48 (i := 3) (ls' := [some (.ref a), some (.ref la), some (.int (nI dp)), some (.int 1), some (.int (nI i))]) dX5_product_47 rfl (Nat.le_of_ble_eq_true rfl) rfl rfl rfl ?_
        refine Ex_aload_n 49 (i := 1) dX5_product_48 rfl rfl rfl ?_
        refine Ex_bipush 51 (v := (-12)) dX5_product_49 (by decide) rfl ?_
        refine Ex_callV (M' := MX2_add) 54 [.int (-12)] (rest := []) dX5_product_51 lX5_206 mX2_add rfl hla.1 rfl (Nat.le_of_ble_eq_true rfl) (Nat.le_of_ble_eq_true rfl) rfl ?_
        have hadd4 := hmLs.add (x := (-12)) hL3 hn3
        refine c_lawAdd hla hL3.2.1 hn3 ?_
        simp only [Option.toList, List.nil_append, List.cons_append]
        refine Ex_iinc 57 (v := (nI (i + 1))) (ls' := [some (.ref a), some (.ref la), some (.int (nI dp)), some (.int 1), some (.int (nI (i + 1)))]) dX5_product_54 rfl (xinc _) (Nat.le_of_ble_eq_true rfl) rfl rfl rfl ?_
        refine Ex_goto 10 dX5_product_57 (by decide) ?_
        have hlx : lv3 = lv := po3.1.trans hpn
        have key := hmSX_times hS po3.2
        rw [hlx] at e3
        have a1 : cs ++ ci ++ [22] ++ ci3 = cs ++ (ci ++ 22 :: ci3) := by simp
        have a2 : lw ++ cp ++ cp3 ++ [-12] = lw ++ (cp ++ cp3 ++ [-12]) := by simp
        rw [a1] at e3
        rw [a2] at hadd4
        have b1 : (lw ++ (cp ++ cp3 ++ [-12])).length = (lw ++ cp ++ cp3).length + 1 := by rw [← a2, List.length_append]; rfl
        have b2 : (ci ++ 22 :: ci3).length = ci.length + (ci3.length + 1) := by rw [List.length_append]; rfl
        exact ih (i + 1) t3 r3 (ci ++ 22 :: ci3) (cp ++ cp3 ++ [-12]) _ L3 (by omega) (by omega) (by omega) (by rw [he, eM, e3]) key (((gJ.tr (hmLo.sp gs2)).tr g3).tr (hmLo.ad hd (fun x p q => by rw [va_up_ne _ _ p, va_up_ne _ _ q]))) ((gL.tr gt2).tr gl3) (hC3.kept (by rw [va_up_ne _ _ (by omega), va_up_ne _ _ (by omega)]) (by rw [va_up_ne _ _ (by omega), va_up_ne _ _ (by omega)]) rfl) hadd4 (by omega) (by omega)
set_option maxHeartbeats 4000000 in
theorem c_product_of {sh : xSh} {R : xR} {a la : Nat} {T : List Nat} (ha : xReader sh R a) (hla : xLaw sh R la) (hd : a + 3 ≤ la ∨ la + 3 ≤ a) (hc : ∀ x, x ∈ T → x < 127) {n : Nat} (hp : cp_part sh R a la T n) : cp_product sh R a la T n := by
  intro dp t r lv cs lw I L Q d hn hdp hC hL hlen hlv hpn hF hK
  refine Ex_aload_n 1 (i := 0) dX5_product_0 rfl rfl rfl ?_
  refine Ex_aload_n 2 (i := 1) dX5_product_1 rfl rfl rfl ?_
  refine Ex_iload_n 3 (i := 2) dX5_product_2 rfl rfl rfl ?_
  refine Ex_callV (M' := MX5_part) 6 [.ref la, .int (nI dp)] (rest := []) dX5_product_3 lX5_215 mX5_part rfl ha.1 rfl (Nat.le_of_ble_eq_true rfl) (Nat.le_of_ble_eq_true rfl) rfl ?_
  refine Ex_d (d' := d + 5 * (5 - dp) + 10) (by omega) (hp dp t r lv (cs) (lw) I L _ d hn hdp hC hL hlen hlv trivial (fun F1 I1 L1 e1 fa1 fb1 g1 gl1 k1 q1 => ?_) (fun t1 r1 lv1 ci1 cp1 I1 L1 e1 po1 g1 gl1 hC1 hL1 l1 m1 n1 => ?_))
  · simp only [Option.toList, List.nil_append, List.cons_append]
    refine Ex_istore_n 7 (i := 3) (ls' := [some (.ref a), some (.ref la), some (.int (nI dp)), some (.int 0), none]) dX5_product_6 rfl (Nat.le_of_ble_eq_true rfl) rfl rfl rfl ?_
    refine Ex_iconst 8 (v := 0) dX5_product_7 (by decide) rfl ?_
    refine Ex_istore 10 (ls' := [some (.ref a), some (.ref la), some (.int (nI dp)), some (.int 0), some (.int 0)]) dX5_product_8 (Nat.le_of_ble_eq_true rfl) rfl rfl rfl ?_
    refine Ex_iload 12 dX5_product_10 rfl rfl ?_
    refine Ex_sipush 15 (v := 1000) dX5_product_12 (by decide) rfl ?_
    refine Ex_icmp_ge 18 60 dX5_product_15 (by decide) rfl (fun c1 => absurd c1 (by decide)) (fun c1 => ?_)
    refine Ex_iload_n 19 (i := 3) dX5_product_18 rfl rfl rfl ?_
    refine Ex_if_eq 22 60 dX5_product_19 (by decide) rfl (fun c2 => ?_) (fun c2 => absurd c2 (fun q => q (by decide)))
    refine Ex_iload_n 61 (i := 3) dX5_product_60 rfl rfl rfl ?_
    refine Ex_iret dX5_product_61 rfl (by decide) (Or.inl rfl) ?_
    exact hF F1 I1 L1 e1 fa1 fb1 g1 gl1 k1 q1
  · simp only [Option.toList, List.nil_append, List.cons_append]
    refine Ex_istore_n 7 (i := 3) (ls' := [some (.ref a), some (.ref la), some (.int (nI dp)), some (.int 1), none]) dX5_product_6 rfl (Nat.le_of_ble_eq_true rfl) rfl rfl rfl ?_
    refine Ex_iconst 8 (v := 0) dX5_product_7 (by decide) rfl ?_
    refine Ex_istore 10 (ls' := [some (.ref a), some (.ref la), some (.int (nI dp)), some (.int 1), some (.int 0)]) dX5_product_8 (Nat.le_of_ble_eq_true rfl) rfl rfl rfl ?_
    exact c_product_loop ha hla hd hc hp hdp hlv hpn (ts := t :: r) hn hlen hF hK (t1 :: r1).length 0 t1 r1 ci1 cp1 I1 L1 (Nat.le_refl _) l1 (by omega) (by rw [e1, po1.1, hpn]) (hmSP_SX po1.2) g1 gl1 hC1 hL1 m1 n1
set_option maxHeartbeats 4000000 in
theorem c_sum_loop {sh : xSh} {R : xR} {a la : Nat} {T : List Nat} (ha : xReader sh R a) (hla : xLaw sh R la) (hd : a + 3 ≤ la ∨ la + 3 ≤ a) (hc : ∀ x, x ∈ T → x < 127) {n : Nat} (hp : cp_product sh R a la T n) {dp : Nat} (hdp : dp ≤ 5) {lv : hmLv} (hlv : lv.length = dp + 1) (hpn : hmPn lv = lv) {cs lw : List Int32} {ts : List hmTok} (htn : ts.length ≤ n) (htl : lw.length + ts.length ≤ 1001) {I : xI} {L : xL} {Q : xQ} {d : Nat} (hF : hmFail sh R a la I L (hmLm ts true lv cs) Q) (hK : hmOkG sh R a la T I L ts lv cs lw (hmPoS dp lv) Q) : ∀ (k i : Nat) (t1 : hmTok) (r1 : List hmTok) (ci cp : List Int32) (J : xI) (LL : xL), (t1 :: r1).length ≤ k → (t1 :: r1).length < ts.length → i + (t1 :: r1).length ≤ 1000 → hmLm ts true lv cs = hmLm (t1 :: r1) false lv (cs ++ ci) → hmSS dp ci cp → hmLo a la I J → hmSl (a + 1) L LL → hmCx J LL a T t1 r1 → hmLs J la (lw ++ cp) → (lw ++ cp).length + (t1 :: r1).length ≤ lw.length + ts.length → ci.length + (t1 :: r1).length ≤ ts.length → ¬ hmKd t1 = 7 → Ex (d + 5 * (5 - dp) + 12) 0 0 MX5_sum 0 sh R LL J 10 [some (.ref a), some (.ref la), some (.int (nI dp)), some (.int 1), some (.int (nI i)), none] [] Q := by
  intro k
  induction k with
  | zero =>
    intro i t1 r1 ci cp J LL hk
    simp at hk
  | succ k ih =>
    intro i t1 r1 ci cp J LL hk hts hi he hS gJ gL hC hL hm1 hm2 hn7
    have hl1 : 1 ≤ (t1 :: r1).length := by simp
    have sk := hC.2.2.2.2.2.2.1
    have k5 := hm_kS (t := t1) sk (c := 43) (k := 5) (by decide) (by decide)
    have k6 := hm_kS (t := t1) sk (c := 45) (k := 6) (by decide) (by decide)
    refine Ex_iload 12 dX5_sum_10 rfl rfl ?_
    refine Ex_sipush 15 (v := 1000) dX5_sum_12 (by decide) rfl ?_
    refine Ex_icmp_ge 18 93 dX5_sum_15 (by decide) rfl (fun c1 => absurd c1 (nI_ge (b := 1000) (by omega) (by omega))) (fun c1 => ?_)
    refine Ex_iload_n 19 (i := 3) dX5_sum_18 rfl rfl rfl ?_
    refine Ex_if_eq 22 93 dX5_sum_19 (by decide) rfl (fun c2 => absurd c2 (by decide)) (fun c2 => ?_)
    refine Ex_aload_n 23 (i := 0) dX5_sum_22 rfl rfl rfl ?_
    refine Ex_getR 26 dX5_sum_23 fX5_12 ha.1 rfl ha.2.2.2.1 rfl ?_
    refine Ex_bipush 28 (v := 43) dX5_sum_26 (by decide) rfl ?_
    refine Ex_callV (M' := MX7_isSign) 31 [.int 43] (rest := []) dX5_sum_28 lX5_68 mX7_isSign rfl ha.2.1 rfl (Nat.le_of_ble_eq_true rfl) (Nat.le_of_ble_eq_true rfl) rfl ?_
    refine c_isSign (xR_t ha) hC.2 (c := 43) (by decide) ?_
    simp only [Option.toList, List.cons_append, List.nil_append]
    refine Ex_if_ne 34 46 dX5_sum_31 (by decide) rfl (fun c3 => ?_) (fun c3 => ?_)
    · have hk5 : hmKd t1 = 5 := of_decide_eq_true (by rw [← k5]; exact hmB_ne c3)
      have eM : hmLm (t1 :: r1) false lv (cs ++ ci) = hmLm r1 true lv (cs ++ ci ++ [20]) := by
        have e0 := hm_step_op (t := t1) (r := r1) (lv := lv) (cs := cs ++ ci) (by omega)
        rw [e0, hk5]
        rfl
      have ht0 : ¬ t1.1 = 0 := fun q => by rw [hm_k0 q] at hk5; exact absurd hk5 (by decide)
      refine Ex_aload_n 47 (i := 0) dX5_sum_46 rfl rfl rfl ?_
      refine Ex_getR 50 dX5_sum_47 fX5_12 ha.1 rfl ha.2.2.2.1 rfl ?_
      refine Ex_bipush 52 (v := 43) dX5_sum_50 (by decide) rfl ?_
      refine Ex_callV (M' := MX7_isSign) 55 [.int 43] (rest := []) dX5_sum_52 lX5_68 mX7_isSign rfl ha.2.1 rfl (Nat.le_of_ble_eq_true rfl) (Nat.le_of_ble_eq_true rfl) rfl ?_
      refine c_isSign (xR_t ha) hC.2 (c := 43) (by decide) ?_
      simp only [Option.toList, List.cons_append, List.nil_append]
      refine Ex_if_eq 58 63 dX5_sum_55 (by decide) rfl (fun c4 => absurd c4 c3) (fun c4 => ?_)
      refine Ex_bipush 60 (v := (-10)) dX5_sum_58 (by decide) rfl ?_
      refine Ex_goto 65 dX5_sum_60 (by decide) ?_
      refine Ex_istore 67 (ls' := [some (.ref a), some (.ref la), some (.int (nI dp)), some (.int 1), some (.int (nI i)), some (.int (-10))]) dX5_sum_65 (Nat.le_of_ble_eq_true rfl) rfl rfl rfl ?_
      refine Ex_aload_n 68 (i := 0) dX5_sum_67 rfl rfl rfl ?_
      refine Ex_getR 71 dX5_sum_68 fX5_12 ha.1 rfl ha.2.2.2.1 rfl ?_
      refine Ex_callV (M' := MX7_step) 74 [] (rest := []) dX5_sum_71 lX5_65 mX7_step rfl ha.2.1 rfl (Nat.le_of_ble_eq_true rfl) (Nat.le_of_ble_eq_true rfl) rfl ?_
      refine c_rstep ha hc hC ht0 (fun t2 r2 I2 L2 er2 gs2 gt2 hC2 => ?_)
      simp only [Option.toList, List.nil_append, List.cons_append]
      subst er2
      have z2 : (t1 :: t2 :: r2).length = (t2 :: r2).length + 1 := rfl
      have y2 : 1 ≤ (t2 :: r2).length := by simp
      refine Ex_aload_n 75 (i := 0) dX5_sum_74 rfl rfl rfl ?_
      refine Ex_aload_n 76 (i := 1) dX5_sum_75 rfl rfl rfl ?_
      refine Ex_iload_n 77 (i := 2) dX5_sum_76 rfl rfl rfl ?_
      refine Ex_callV (M' := MX5_product) 80 [.ref la, .int (nI dp)] (rest := []) dX5_sum_77 lX5_212 mX5_product rfl ha.1 rfl (Nat.le_of_ble_eq_true rfl) (Nat.le_of_ble_eq_true rfl) rfl ?_
      refine Ex_d (d' := d + 5 * (5 - dp) + 11) (by omega) (hp dp t2 r2 lv (cs ++ ci ++ [20]) (lw ++ cp) I2 L2 _ d (by omega) hdp hC2 (hL.kept (gs2.1 _ (by omega)) (gs2.1 _ (by omega))) (by omega) hlv hpn (fun F3 I3 L3 e3 fa3 fb3 g3 gl3 k3 q3 => ?_) (fun t3 r3 lv3 ci3 cp3 I3 L3 e3 po3 g3 gl3 hC3 hL3 l3 m3 n3 => ?_))
      · simp only [Option.toList, List.nil_append, List.cons_append]
        refine Ex_istore_n 81 (i := 3) (ls' := [some (.ref a), some (.ref la), some (.int (nI dp)), some (.int 0), some (.int (nI i)), some (.int (-10))]) dX5_sum_80 rfl (Nat.le_of_ble_eq_true rfl) rfl rfl rfl ?_
        refine Ex_aload_n 82 (i := 1) dX5_sum_81 rfl rfl rfl ?_
        refine Ex_iload 84 dX5_sum_82 rfl rfl ?_
        refine Ex_callV (M' := MX2_add) 87 [.int (-10)] (rest := []) dX5_sum_84 lX5_206 mX2_add rfl hla.1 rfl (Nat.le_of_ble_eq_true rfl) (Nat.le_of_ble_eq_true rfl) rfl ?_
        obtain ⟨nq4, hq14, hq24⟩ := q3
        refine c_lawAddQ hla hq24 hq14 (fun J4 nr4 hr14 hr24 hr34 => ?_)
        simp only [Option.toList, List.nil_append, List.cons_append]
        refine Ex_iinc 90 (v := (nI (i + 1))) (ls' := [some (.ref a), some (.ref la), some (.int (nI dp)), some (.int 0), some (.int (nI (i + 1))), some (.int (-10))]) dX5_sum_87 rfl (xinc _) (Nat.le_of_ble_eq_true rfl) rfl rfl rfl ?_
        refine Ex_goto 10 dX5_sum_90 (by decide) ?_
        refine Ex_iload 12 dX5_sum_10 rfl rfl ?_
        refine Ex_sipush 15 (v := 1000) dX5_sum_12 (by decide) rfl ?_
        refine Ex_icmp_ge 18 93 dX5_sum_15 (by decide) rfl (fun c5 => absurd c5 (nI_ge (b := 1000) (by omega) (by omega))) (fun c5 => ?_)
        refine Ex_iload_n 19 (i := 3) dX5_sum_18 rfl rfl rfl ?_
        refine Ex_if_eq 22 93 dX5_sum_19 (by decide) rfl (fun c6 => ?_) (fun c6 => absurd c6 (fun q => q (by decide)))
        refine Ex_iload_n 94 (i := 3) dX5_sum_93 rfl rfl rfl ?_
        refine Ex_iret dX5_sum_94 rfl (by decide) (Or.inl rfl) ?_
        have hre : hmLm ts true lv cs = .inl F3 := by rw [he, eM]; exact e3
        exact hF F3 J4 L3 hre fa3 fb3 (((gJ.1.tr (hmLr.sp gs2)).tr g3).tr (hmLr.ad hd hr24)) ((gL.tr gt2).tr gl3) (by rw [hr24 a (by omega) (by omega)]; exact k3) ⟨nr4, hr14, hr34⟩
      · simp only [Option.toList, List.nil_append, List.cons_append]
        have y3 : 1 ≤ (t3 :: r3).length := by simp
        have hn3 : (lw ++ cp ++ cp3).length < 1000 := by omega
        refine Ex_istore_n 81 (i := 3) (ls' := [some (.ref a), some (.ref la), some (.int (nI dp)), some (.int 1), some (.int (nI i)), some (.int (-10))]) dX5_sum_80 rfl (Nat.le_of_ble_eq_true rfl) rfl rfl rfl ?_
        refine Ex_aload_n 82 (i := 1) dX5_sum_81 rfl rfl rfl ?_
        refine Ex_iload 84 dX5_sum_82 rfl rfl ?_
        refine Ex_callV (M' := MX2_add) 87 [.int (-10)] (rest := []) dX5_sum_84 lX5_206 mX2_add rfl hla.1 rfl (Nat.le_of_ble_eq_true rfl) (Nat.le_of_ble_eq_true rfl) rfl ?_
        have hadd4 := hmLs.add (x := (-10)) hL3 hn3
        refine c_lawAdd hla hL3.2.1 hn3 ?_
        simp only [Option.toList, List.nil_append, List.cons_append]
        refine Ex_iinc 90 (v := (nI (i + 1))) (ls' := [some (.ref a), some (.ref la), some (.int (nI dp)), some (.int 1), some (.int (nI (i + 1))), some (.int (-10))]) dX5_sum_87 rfl (xinc _) (Nat.le_of_ble_eq_true rfl) rfl rfl rfl ?_
        refine Ex_goto 10 dX5_sum_90 (by decide) ?_
        refine Ex_fgt (ls' := [some (.ref a), some (.ref la), some (.int (nI dp)), some (.int 1), some (.int (nI (i + 1))), none]) (by simp [xsub]) ?_
        have hlx : lv3 = lv := po3.1
        have key := hmSS_plus (Or.inl ⟨rfl, rfl⟩) hS po3.2.1
        rw [hlx] at e3
        have a1 : cs ++ ci ++ [20] ++ ci3 = cs ++ (ci ++ 20 :: ci3) := by simp
        have a2 : lw ++ cp ++ cp3 ++ [-10] = lw ++ (cp ++ cp3 ++ [-10]) := by simp
        rw [a1] at e3
        rw [a2] at hadd4
        have b1 : (lw ++ (cp ++ cp3 ++ [-10])).length = (lw ++ cp ++ cp3).length + 1 := by rw [← a2, List.length_append]; rfl
        have b2 : (ci ++ 20 :: ci3).length = ci.length + (ci3.length + 1) := by rw [List.length_append]; rfl
        exact ih (i + 1) t3 r3 (ci ++ 20 :: ci3) (cp ++ cp3 ++ [-10]) _ L3 (by omega) (by omega) (by omega) (by rw [he, eM, e3]) key (((gJ.tr (hmLo.sp gs2)).tr g3).tr (hmLo.ad hd (fun x p q => by rw [va_up_ne _ _ p, va_up_ne _ _ q]))) ((gL.tr gt2).tr gl3) (hC3.kept (by rw [va_up_ne _ _ (by omega), va_up_ne _ _ (by omega)]) (by rw [va_up_ne _ _ (by omega), va_up_ne _ _ (by omega)]) rfl) hadd4 (by omega) (by omega) po3.2.2
    · refine Ex_aload_n 35 (i := 0) dX5_sum_34 rfl rfl rfl ?_
      refine Ex_getR 38 dX5_sum_35 fX5_12 ha.1 rfl ha.2.2.2.1 rfl ?_
      refine Ex_bipush 40 (v := 45) dX5_sum_38 (by decide) rfl ?_
      refine Ex_callV (M' := MX7_isSign) 43 [.int 45] (rest := []) dX5_sum_40 lX5_68 mX7_isSign rfl ha.2.1 rfl (Nat.le_of_ble_eq_true rfl) (Nat.le_of_ble_eq_true rfl) rfl ?_
      refine c_isSign (xR_t ha) hC.2 (c := 45) (by decide) ?_
      simp only [Option.toList, List.cons_append, List.nil_append]
      refine Ex_if_eq 46 93 dX5_sum_43 (by decide) rfl (fun c7 => ?_) (fun c7 => ?_)
      · refine Ex_iload_n 94 (i := 3) dX5_sum_93 rfl rfl rfl ?_
        refine Ex_iret dX5_sum_94 rfl (by decide) (Or.inl rfl) ?_
        have hn5 : ¬ hmKd t1 = 5 := of_decide_eq_false (by rw [← k5]; exact hmB_eq c3)
        have hn6 : ¬ hmKd t1 = 6 := of_decide_eq_false (by rw [← k6]; exact hmB_eq c7)
        exact hK t1 r1 lv ci cp J LL he ⟨rfl, hS, hn7, hn5, hn6⟩ gJ gL hC hL hts hm1 hm2
      · have hk6 : hmKd t1 = 6 := of_decide_eq_true (by rw [← k6]; exact hmB_ne c7)
        have eM : hmLm (t1 :: r1) false lv (cs ++ ci) = hmLm r1 true lv (cs ++ ci ++ [21]) := by
          have e0 := hm_step_op (t := t1) (r := r1) (lv := lv) (cs := cs ++ ci) (by omega)
          rw [e0, hk6]
          rfl
        have ht0 : ¬ t1.1 = 0 := fun q => by rw [hm_k0 q] at hk6; exact absurd hk6 (by decide)
        refine Ex_aload_n 47 (i := 0) dX5_sum_46 rfl rfl rfl ?_
        refine Ex_getR 50 dX5_sum_47 fX5_12 ha.1 rfl ha.2.2.2.1 rfl ?_
        refine Ex_bipush 52 (v := 43) dX5_sum_50 (by decide) rfl ?_
        refine Ex_callV (M' := MX7_isSign) 55 [.int 43] (rest := []) dX5_sum_52 lX5_68 mX7_isSign rfl ha.2.1 rfl (Nat.le_of_ble_eq_true rfl) (Nat.le_of_ble_eq_true rfl) rfl ?_
        refine c_isSign (xR_t ha) hC.2 (c := 43) (by decide) ?_
        simp only [Option.toList, List.cons_append, List.nil_append]
        refine Ex_if_eq 58 63 dX5_sum_55 (by decide) rfl (fun c8 => ?_) (fun c8 => absurd c8 (fun q => q c3))
        refine Ex_bipush 65 (v := (-11)) dX5_sum_63 (by decide) rfl ?_
        refine Ex_istore 67 (ls' := [some (.ref a), some (.ref la), some (.int (nI dp)), some (.int 1), some (.int (nI i)), some (.int (-11))]) dX5_sum_65 (Nat.le_of_ble_eq_true rfl) rfl rfl rfl ?_
        refine Ex_aload_n 68 (i := 0) dX5_sum_67 rfl rfl rfl ?_
        refine Ex_getR 71 dX5_sum_68 fX5_12 ha.1 rfl ha.2.2.2.1 rfl ?_
        refine Ex_callV (M' := MX7_step) 74 [] (rest := []) dX5_sum_71 lX5_65 mX7_step rfl ha.2.1 rfl (Nat.le_of_ble_eq_true rfl) (Nat.le_of_ble_eq_true rfl) rfl ?_
        refine c_rstep ha hc hC ht0 (fun t2 r2 I2 L2 er2 gs2 gt2 hC2 => ?_)
        simp only [Option.toList, List.nil_append, List.cons_append]
        subst er2
        have z2 : (t1 :: t2 :: r2).length = (t2 :: r2).length + 1 := rfl
        have y2 : 1 ≤ (t2 :: r2).length := by simp
        refine Ex_aload_n 75 (i := 0) dX5_sum_74 rfl rfl rfl ?_
        refine Ex_aload_n 76 (i := 1) dX5_sum_75 rfl rfl rfl ?_
        refine Ex_iload_n 77 (i := 2) dX5_sum_76 rfl rfl rfl ?_
        refine Ex_callV (M' := MX5_product) 80 [.ref la, .int (nI dp)] (rest := []) dX5_sum_77 lX5_212 mX5_product rfl ha.1 rfl (Nat.le_of_ble_eq_true rfl) (Nat.le_of_ble_eq_true rfl) rfl ?_
        refine Ex_d (d' := d + 5 * (5 - dp) + 11) (by omega) (hp dp t2 r2 lv (cs ++ ci ++ [21]) (lw ++ cp) I2 L2 _ d (by omega) hdp hC2 (hL.kept (gs2.1 _ (by omega)) (gs2.1 _ (by omega))) (by omega) hlv hpn (fun F3 I3 L3 e3 fa3 fb3 g3 gl3 k3 q3 => ?_) (fun t3 r3 lv3 ci3 cp3 I3 L3 e3 po3 g3 gl3 hC3 hL3 l3 m3 n3 => ?_))
        · simp only [Option.toList, List.nil_append, List.cons_append]
          refine Ex_istore_n 81 (i := 3) (ls' := [some (.ref a), some (.ref la), some (.int (nI dp)), some (.int 0), some (.int (nI i)), some (.int (-11))]) dX5_sum_80 rfl (Nat.le_of_ble_eq_true rfl) rfl rfl rfl ?_
          refine Ex_aload_n 82 (i := 1) dX5_sum_81 rfl rfl rfl ?_
          refine Ex_iload 84 dX5_sum_82 rfl rfl ?_
          refine Ex_callV (M' := MX2_add) 87 [.int (-11)] (rest := []) dX5_sum_84 lX5_206 mX2_add rfl hla.1 rfl (Nat.le_of_ble_eq_true rfl) (Nat.le_of_ble_eq_true rfl) rfl ?_
          obtain ⟨nq4, hq14, hq24⟩ := q3
          refine c_lawAddQ hla hq24 hq14 (fun J4 nr4 hr14 hr24 hr34 => ?_)
          simp only [Option.toList, List.nil_append, List.cons_append]
          refine Ex_iinc 90 (v := (nI (i + 1))) (ls' := [some (.ref a), some (.ref la), some (.int (nI dp)), some (.int 0), some (.int (nI (i + 1))), some (.int (-11))]) dX5_sum_87 rfl (xinc _) (Nat.le_of_ble_eq_true rfl) rfl rfl rfl ?_
          refine Ex_goto 10 dX5_sum_90 (by decide) ?_
          refine Ex_iload 12 dX5_sum_10 rfl rfl ?_
          refine Ex_sipush 15 (v := 1000) dX5_sum_12 (by decide) rfl ?_
          refine Ex_icmp_ge 18 93 dX5_sum_15 (by decide) rfl (fun c9 => absurd c9 (nI_ge (b := 1000) (by omega) (by omega))) (fun c9 => ?_)
          refine Ex_iload_n 19 (i := 3) dX5_sum_18 rfl rfl rfl ?_
          refine Ex_if_eq 22 93 dX5_sum_19 (by decide) rfl (fun c10 => ?_) (fun c10 => absurd c10 (fun q => q (by decide)))
          refine Ex_iload_n 94 (i := 3) dX5_sum_93 rfl rfl rfl ?_
          refine Ex_iret dX5_sum_94 rfl (by decide) (Or.inl rfl) ?_
          have hre : hmLm ts true lv cs = .inl F3 := by rw [he, eM]; exact e3
          exact hF F3 J4 L3 hre fa3 fb3 (((gJ.1.tr (hmLr.sp gs2)).tr g3).tr (hmLr.ad hd hr24)) ((gL.tr gt2).tr gl3) (by rw [hr24 a (by omega) (by omega)]; exact k3) ⟨nr4, hr14, hr34⟩
        · simp only [Option.toList, List.nil_append, List.cons_append]
          have y3 : 1 ≤ (t3 :: r3).length := by simp
          have hn3 : (lw ++ cp ++ cp3).length < 1000 := by omega
          refine Ex_istore_n 81 (i := 3) (ls' := [some (.ref a), some (.ref la), some (.int (nI dp)), some (.int 1), some (.int (nI i)), some (.int (-11))]) dX5_sum_80 rfl (Nat.le_of_ble_eq_true rfl) rfl rfl rfl ?_
          refine Ex_aload_n 82 (i := 1) dX5_sum_81 rfl rfl rfl ?_
          refine Ex_iload 84 dX5_sum_82 rfl rfl ?_
          refine Ex_callV (M' := MX2_add) 87 [.int (-11)] (rest := []) dX5_sum_84 lX5_206 mX2_add rfl hla.1 rfl (Nat.le_of_ble_eq_true rfl) (Nat.le_of_ble_eq_true rfl) rfl ?_
          have hadd4 := hmLs.add (x := (-11)) hL3 hn3
          refine c_lawAdd hla hL3.2.1 hn3 ?_
          simp only [Option.toList, List.nil_append, List.cons_append]
          refine Ex_iinc 90 (v := (nI (i + 1))) (ls' := [some (.ref a), some (.ref la), some (.int (nI dp)), some (.int 1), some (.int (nI (i + 1))), some (.int (-11))]) dX5_sum_87 rfl (xinc _) (Nat.le_of_ble_eq_true rfl) rfl rfl rfl ?_
          refine Ex_goto 10 dX5_sum_90 (by decide) ?_
          refine Ex_fgt (ls' := [some (.ref a), some (.ref la), some (.int (nI dp)), some (.int 1), some (.int (nI (i + 1))), none]) (by simp [xsub]) ?_
          have hlx : lv3 = lv := po3.1
          have key := hmSS_plus (Or.inr ⟨rfl, rfl⟩) hS po3.2.1
          rw [hlx] at e3
          have a1 : cs ++ ci ++ [21] ++ ci3 = cs ++ (ci ++ 21 :: ci3) := by simp
          have a2 : lw ++ cp ++ cp3 ++ [-11] = lw ++ (cp ++ cp3 ++ [-11]) := by simp
          rw [a1] at e3
          rw [a2] at hadd4
          have b1 : (lw ++ (cp ++ cp3 ++ [-11])).length = (lw ++ cp ++ cp3).length + 1 := by rw [← a2, List.length_append]; rfl
          have b2 : (ci ++ 21 :: ci3).length = ci.length + (ci3.length + 1) := by rw [List.length_append]; rfl
          exact ih (i + 1) t3 r3 (ci ++ 21 :: ci3) (cp ++ cp3 ++ [-11]) _ L3 (by omega) (by omega) (by omega) (by rw [he, eM, e3]) key (((gJ.tr (hmLo.sp gs2)).tr g3).tr (hmLo.ad hd (fun x p q => by rw [va_up_ne _ _ p, va_up_ne _ _ q]))) ((gL.tr gt2).tr gl3) (hC3.kept (by rw [va_up_ne _ _ (by omega), va_up_ne _ _ (by omega)]) (by rw [va_up_ne _ _ (by omega), va_up_ne _ _ (by omega)]) rfl) hadd4 (by omega) (by omega) po3.2.2
set_option maxHeartbeats 4000000 in
theorem c_sum_of {sh : xSh} {R : xR} {a la : Nat} {T : List Nat} (ha : xReader sh R a) (hla : xLaw sh R la) (hd : a + 3 ≤ la ∨ la + 3 ≤ a) (hc : ∀ x, x ∈ T → x < 127) {n : Nat} (hp : cp_product sh R a la T n) : cp_sum sh R a la T n := by
  intro dp t r lv cs lw I L Q d hn hdp hC hL hlen hlv hpn hF hK
  refine Ex_aload_n 1 (i := 0) dX5_sum_0 rfl rfl rfl ?_
  refine Ex_aload_n 2 (i := 1) dX5_sum_1 rfl rfl rfl ?_
  refine Ex_iload_n 3 (i := 2) dX5_sum_2 rfl rfl rfl ?_
  refine Ex_callV (M' := MX5_product) 6 [.ref la, .int (nI dp)] (rest := []) dX5_sum_3 lX5_212 mX5_product rfl ha.1 rfl (Nat.le_of_ble_eq_true rfl) (Nat.le_of_ble_eq_true rfl) rfl ?_
  refine Ex_d (d' := d + 5 * (5 - dp) + 11) (by omega) (hp dp t r lv (cs) (lw) I L _ d hn hdp hC hL hlen hlv hpn (fun F1 I1 L1 e1 fa1 fb1 g1 gl1 k1 q1 => ?_) (fun t1 r1 lv1 ci1 cp1 I1 L1 e1 po1 g1 gl1 hC1 hL1 l1 m1 n1 => ?_))
  · simp only [Option.toList, List.nil_append, List.cons_append]
    refine Ex_istore_n 7 (i := 3) (ls' := [some (.ref a), some (.ref la), some (.int (nI dp)), some (.int 0), none, none]) dX5_sum_6 rfl (Nat.le_of_ble_eq_true rfl) rfl rfl rfl ?_
    refine Ex_iconst 8 (v := 0) dX5_sum_7 (by decide) rfl ?_
    refine Ex_istore 10 (ls' := [some (.ref a), some (.ref la), some (.int (nI dp)), some (.int 0), some (.int 0), none]) dX5_sum_8 (Nat.le_of_ble_eq_true rfl) rfl rfl rfl ?_
    refine Ex_iload 12 dX5_sum_10 rfl rfl ?_
    refine Ex_sipush 15 (v := 1000) dX5_sum_12 (by decide) rfl ?_
    refine Ex_icmp_ge 18 93 dX5_sum_15 (by decide) rfl (fun c1 => absurd c1 (by decide)) (fun c1 => ?_)
    refine Ex_iload_n 19 (i := 3) dX5_sum_18 rfl rfl rfl ?_
    refine Ex_if_eq 22 93 dX5_sum_19 (by decide) rfl (fun c2 => ?_) (fun c2 => absurd c2 (fun q => q (by decide)))
    refine Ex_iload_n 94 (i := 3) dX5_sum_93 rfl rfl rfl ?_
    refine Ex_iret dX5_sum_94 rfl (by decide) (Or.inl rfl) ?_
    exact hF F1 I1 L1 e1 fa1 fb1 g1 gl1 k1 q1
  · simp only [Option.toList, List.nil_append, List.cons_append]
    refine Ex_istore_n 7 (i := 3) (ls' := [some (.ref a), some (.ref la), some (.int (nI dp)), some (.int 1), none, none]) dX5_sum_6 rfl (Nat.le_of_ble_eq_true rfl) rfl rfl rfl ?_
    refine Ex_iconst 8 (v := 0) dX5_sum_7 (by decide) rfl ?_
    refine Ex_istore 10 (ls' := [some (.ref a), some (.ref la), some (.int (nI dp)), some (.int 1), some (.int 0), none]) dX5_sum_8 (Nat.le_of_ble_eq_true rfl) rfl rfl rfl ?_
    exact c_sum_loop ha hla hd hc hp hdp hlv hpn (ts := t :: r) hn hlen hF hK (t1 :: r1).length 0 t1 r1 ci1 cp1 I1 L1 (Nat.le_refl _) l1 (by omega) (by rw [e1, po1.1]) (hmSX_SS po1.2.1) g1 gl1 hC1 hL1 m1 n1 po1.2.2
