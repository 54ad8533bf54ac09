/-- the levels that stand open -/
def hmOp (I : xI) (m : Nat) : hmLv → Prop
  | [] => True
  | (x, c) :: r => I (m + 12) r.length = hmB c ∧ (r ≠ [] → I (m + 11) r.length = nI x) ∧ hmOp I m r
def hmLk : hmLv → Prop
  | [] => False
  | (x, _) :: r => (r = [] → x = 0) ∧ (r ≠ [] → (x = 1 ∨ x = 2) ∧ hmLk r)
theorem hmLk_pn : ∀ lv, hmLk lv → hmLk (hmPn lv) := by
  intro lv
  induction lv with
  | nil => intro h; exact h
  | cons x r ih =>
    obtain ⟨x, c⟩ := x
    intro h
    have e : hmPn ((x, c) :: r) = if x = 1 then hmPn r else (x, c) :: r := rfl
    rw [e]
    by_cases hx : x = 1
    · rw [if_pos hx]
      by_cases hr : r = []
      · exact absurd (h.1 hr) (by omega)
      · exact ih (h.2 hr).2
    · rw [if_neg hx]
      exact h
theorem hmOp_pn {I : xI} {m : Nat} : ∀ lv, hmOp I m lv → hmOp I m (hmPn lv) := by
  intro lv
  induction lv with
  | nil => intro h; exact h
  | cons x r ih =>
    obtain ⟨x, c⟩ := x
    intro h
    have e : hmPn ((x, c) :: r) = if x = 1 then hmPn r else (x, c) :: r := rfl
    rw [e]
    by_cases hx : x = 1
    · rw [if_pos hx]
      exact ih h.2.2
    · rw [if_neg hx]
      exact h
theorem hmOp.kept {I J : xI} {m : Nat} : ∀ (lv : hmLv), hmOp I m lv → (∀ k, k < lv.length → J (m + 11) k = I (m + 11) k ∧ J (m + 12) k = I (m + 12) k) → hmOp J m lv := by
  intro lv
  induction lv with
  | nil => intro _ _; exact True.intro
  | cons x r ih =>
    obtain ⟨x, c⟩ := x
    intro h e
    have e1 := e r.length (by rw [List.length_cons]; omega)
    exact ⟨by rw [e1.2]; exact h.1, fun q => by rw [e1.1]; exact h.2.1 q, ih h.2.2 (fun k hk => e k (by rw [List.length_cons]; omega))⟩
theorem hmLk_len {lv : hmLv} (h : hmLk lv) : 1 ≤ lv.length := by
  cases lv with
  | nil => exact absurd h id
  | cons x r => rw [List.length_cons]; omega
set_option maxHeartbeats 4000000 in
theorem mc_pop1 {d : Nat} {sh : xSh} {R : xR} {L : xL} {I : xI} {Q : xQ} {m : Nat} {x3 x4 x5 : Int32} (hm : xModel sh R m) : ∀ (lv : hmLv) (dp : Nat), hmLk lv → hmOp I m lv → lv.length = dp + 1 → lv.length ≤ 7 → (∀ dp', (hmPn lv).length = dp' + 1 → Ex d 0 0 MX9_reads 0 sh R L I 172 [some (.ref m), some (.int (nI dp')), some (.int 0), some (.int x3), some (.int x4), some (.int x5)] [] Q) → Ex d 0 0 MX9_reads 0 sh R L I 152 [some (.ref m), some (.int (nI dp)), some (.int 0), some (.int x3), some (.int x4), some (.int x5)] [] Q := by
  intro lv
  induction lv with
  | nil =>
    intro dp hk
    exact absurd hk id
  | cons x r ih =>
    obtain ⟨x, c⟩ := x
    intro dp hk ho hl h6 hQ
    have hlen : dp = r.length := by rw [List.length_cons] at hl; omega
    have e : hmPn ((x, c) :: r) = if x = 1 then hmPn r else (x, c) :: r := rfl
    by_cases hr : r = []
    · have hx := hk.1 hr
      rw [e, if_neg (by omega)] at hQ
      have hd0 : dp = 0 := by rw [hlen, hr]; rfl
      subst hd0
      refine Ex_iload_n 153 (i := 1) dX9_reads_152 rfl rfl rfl ?_
      refine Ex_if_le 156 172 dX9_reads_153 (by decide) rfl (fun c1 => ?_) (fun c1 => absurd c1 (fun q => q (by decide)))
      exact hQ 0 hl
    · have hx := hk.2 hr
      have hov := ho.2.1 hr
      rw [← hlen] at hov
      have hr1 : 1 ≤ r.length := by
        cases r with
        | nil => exact absurd rfl hr
        | cons y z => rw [List.length_cons]; omega
      obtain ⟨e9, he9⟩ : ∃ e9, dp = e9 + 1 := ⟨dp - 1, by omega⟩
      subst he9
      rw [List.length_cons] at h6
      rcases hx.1 with rfl | rfl
      · rw [e, if_pos rfl] at hQ
        refine Ex_iload_n 153 (i := 1) dX9_reads_152 rfl rfl rfl ?_
        refine Ex_if_le 156 172 dX9_reads_153 (by decide) rfl (fun c1 => absurd c1 (fun q => absurd (hm_le0 (by omega) q) (by omega))) (fun c1 => ?_)
        refine Ex_aload_n 157 (i := 0) dX9_reads_156 rfl rfl rfl ?_
        refine Ex_getR 160 dX9_reads_157 fX9_41 (xMs_0 hm) rfl (xMr_21 hm) rfl ?_
        refine Ex_iload_n 161 (i := 1) dX9_reads_160 rfl rfl rfl ?_
        refine Ex_aI 162 (e9 + 1) (I (m + 11) (e9 + 1)) dX9_reads_161 (xMs_11 hm) rfl (by omega) (by decide) rfl rfl ?_
        rw [hov]
        refine Ex_iconst 163 (v := 1) dX9_reads_162 (by decide) rfl ?_
        refine Ex_icmp_ne 166 172 dX9_reads_163 (by decide) rfl (fun c2 => absurd c2 (fun q => q rfl)) (fun c2 => ?_)
        refine Ex_iinc 169 (v := (nI e9)) (ls' := [some (.ref m), some (.int (nI e9)), some (.int 0), some (.int x3), some (.int x4), some (.int x5)]) dX9_reads_166 rfl (pk_m1 e9) (Nat.le_of_ble_eq_true rfl) rfl rfl rfl ?_
        refine Ex_goto 152 dX9_reads_169 (by decide) ?_
        exact ih e9 hx.2 ho.2.2 (by omega) (by omega) hQ
      · rw [e, if_neg (by decide)] at hQ
        refine Ex_iload_n 153 (i := 1) dX9_reads_152 rfl rfl rfl ?_
        refine Ex_if_le 156 172 dX9_reads_153 (by decide) rfl (fun c1 => absurd c1 (fun q => absurd (hm_le0 (by omega) q) (by omega))) (fun c1 => ?_)
        refine Ex_aload_n 157 (i := 0) dX9_reads_156 rfl rfl rfl ?_
        refine Ex_getR 160 dX9_reads_157 fX9_41 (xMs_0 hm) rfl (xMr_21 hm) rfl ?_
        refine Ex_iload_n 161 (i := 1) dX9_reads_160 rfl rfl rfl ?_
        refine Ex_aI 162 (e9 + 1) (I (m + 11) (e9 + 1)) dX9_reads_161 (xMs_11 hm) rfl (by omega) (by decide) rfl rfl ?_
        rw [hov]
        refine Ex_iconst 163 (v := 1) dX9_reads_162 (by decide) rfl ?_
        refine Ex_icmp_ne 166 172 dX9_reads_163 (by decide) rfl (fun c2 => ?_) (fun c2 => absurd c2 (by decide))
        exact hQ (e9 + 1) hl
set_option maxHeartbeats 4000000 in
theorem mc_pop2 {d : Nat} {sh : xSh} {R : xR} {L : xL} {I : xI} {Q : xQ} {m : Nat} {x3 x4 x5 : Int32} (hm : xModel sh R m) : ∀ (lv : hmLv) (dp : Nat), hmLk lv → hmOp I m lv → lv.length = dp + 1 → lv.length ≤ 7 → (∀ dp', (hmPn lv).length = dp' + 1 → Ex d 0 0 MX9_reads 0 sh R L I 424 [some (.ref m), some (.int (nI dp')), some (.int 0), none, none, none] [] Q) → Ex d 0 0 MX9_reads 0 sh R L I 379 [some (.ref m), some (.int (nI dp)), some (.int 0), none, none, none] [] Q := by
  intro lv
  induction lv with
  | nil =>
    intro dp hk
    exact absurd hk id
  | cons x r ih =>
    obtain ⟨x, c⟩ := x
    intro dp hk ho hl h6 hQ
    have hlen : dp = r.length := by rw [List.length_cons] at hl; omega
    have e : hmPn ((x, c) :: r) = if x = 1 then hmPn r else (x, c) :: r := rfl
    by_cases hr : r = []
    · have hx := hk.1 hr
      rw [e, if_neg (by omega)] at hQ
      have hd0 : dp = 0 := by rw [hlen, hr]; rfl
      subst hd0
      refine Ex_iload_n 380 (i := 1) dX9_reads_379 rfl rfl rfl ?_
      refine Ex_if_le 383 424 dX9_reads_380 (by decide) rfl (fun c1 => ?_) (fun c1 => absurd c1 (fun q => q (by decide)))
      exact hQ 0 hl
    · have hx := hk.2 hr
      have hov := ho.2.1 hr
      rw [← hlen] at hov
      have hr1 : 1 ≤ r.length := by
        cases r with
        | nil => exact absurd rfl hr
        | cons y z => rw [List.length_cons]; omega
      obtain ⟨e9, he9⟩ : ∃ e9, dp = e9 + 1 := ⟨dp - 1, by omega⟩
      subst he9
      rw [List.length_cons] at h6
      rcases hx.1 with rfl | rfl
      · rw [e, if_pos rfl] at hQ
        refine Ex_iload_n 380 (i := 1) dX9_reads_379 rfl rfl rfl ?_
        refine Ex_if_le 383 424 dX9_reads_380 (by decide) rfl (fun c1 => absurd c1 (fun q => absurd (hm_le0 (by omega) q) (by omega))) (fun c1 => ?_)
        refine Ex_aload_n 384 (i := 0) dX9_reads_383 rfl rfl rfl ?_
        refine Ex_getR 387 dX9_reads_384 fX9_41 (xMs_0 hm) rfl (xMr_21 hm) rfl ?_
        refine Ex_iload_n 388 (i := 1) dX9_reads_387 rfl rfl rfl ?_
        refine Ex_aI 389 (e9 + 1) (I (m + 11) (e9 + 1)) dX9_reads_388 (xMs_11 hm) rfl (by omega) (by decide) rfl rfl ?_
        rw [hov]
        refine Ex_iconst 390 (v := 1) dX9_reads_389 (by decide) rfl ?_
        refine Ex_icmp_ne 393 424 dX9_reads_390 (by decide) rfl (fun c2 => absurd c2 (fun q => q rfl)) (fun c2 => ?_)
        refine Ex_iinc 396 (v := (nI e9)) (ls' := [some (.ref m), some (.int (nI e9)), some (.int 0), none, none, none]) dX9_reads_393 rfl (pk_m1 e9) (Nat.le_of_ble_eq_true rfl) rfl rfl rfl ?_
        refine Ex_goto 379 dX9_reads_396 (by decide) ?_
        exact ih e9 hx.2 ho.2.2 (by omega) (by omega) hQ
      · rw [e, if_neg (by decide)] at hQ
        refine Ex_iload_n 380 (i := 1) dX9_reads_379 rfl rfl rfl ?_
        refine Ex_if_le 383 424 dX9_reads_380 (by decide) rfl (fun c1 => absurd c1 (fun q => absurd (hm_le0 (by omega) q) (by omega))) (fun c1 => ?_)
        refine Ex_aload_n 384 (i := 0) dX9_reads_383 rfl rfl rfl ?_
        refine Ex_getR 387 dX9_reads_384 fX9_41 (xMs_0 hm) rfl (xMr_21 hm) rfl ?_
        refine Ex_iload_n 388 (i := 1) dX9_reads_387 rfl rfl rfl ?_
        refine Ex_aI 389 (e9 + 1) (I (m + 11) (e9 + 1)) dX9_reads_388 (xMs_11 hm) rfl (by omega) (by decide) rfl rfl ?_
        rw [hov]
        refine Ex_iconst 390 (v := 1) dX9_reads_389 (by decide) rfl ?_
        refine Ex_icmp_ne 393 424 dX9_reads_390 (by decide) rfl (fun c2 => ?_) (fun c2 => absurd c2 (by decide))
        exact hQ (e9 + 1) hl
def hmCd (I : xI) (m : Nat) (cs : List Int32) : Prop := I m 19 = nI (1000 + cs.length) ∧ ∀ i, i < cs.length → I (m + 10) (1000 + i) = cs.getD i 0
def hmRf (m : Nat) (I I' : xI) : Prop := (∀ x, x ≠ m → x ≠ m + 10 → x ≠ m + 11 → x ≠ m + 12 → I' x = I x) ∧ (∀ k, k ≠ 4 → k ≠ 5 → k ≠ 6 → k ≠ 8 → k ≠ 9 → k ≠ 19 → I' m k = I m k) ∧ ∀ i, i < 1000 → I' (m + 10) i = I (m + 10) i
theorem hmRf.rf {m : Nat} {I : xI} : hmRf m I I := ⟨fun _ _ _ _ _ => rfl, fun _ _ _ _ _ _ _ => rfl, fun _ _ => rfl⟩
theorem hmRf.tr {m : Nat} {I J K : xI} (h1 : hmRf m I J) (h2 : hmRf m J K) : hmRf m I K := ⟨fun x p q r s => (h2.1 x p q r s).trans (h1.1 x p q r s), fun k a b c d e f => (h2.2.1 k a b c d e f).trans (h1.2.1 k a b c d e f), fun i hi => (h2.2.2 i hi).trans (h1.2.2 i hi)⟩
theorem hmRf.nf {m : Nat} {I J : xI} (h : hmNf m I J) : hmRf m I J := ⟨fun x p _ _ _ => h.1 x p, fun k a b c d _ _ => h.2 k a b c d, fun i _ => by rw [h.1 (m + 10) (by omega)]⟩
theorem hmRf.fl {m : Nat} {I : xI} {v : Int32} : hmRf m I (va_up I m (va_up (I m) 9 v)) := ⟨fun x p _ _ _ => va_up_ne _ _ p, fun k _ _ _ _ e _ => by rw [va_up_self, va_up_ne _ _ e], fun i _ => by rw [va_up_ne _ _ (by omega)]⟩
theorem hmRf.pt {m k : Nat} {I : xI} {x v : Int32} (hk : 1000 ≤ k) : hmRf m I (va_up (va_up I (m + 10) (va_up (I (m + 10)) k x)) m (va_up (I m) 19 v)) := ⟨fun y p q _ _ => by rw [va_up_ne _ _ p, va_up_ne _ _ q], fun j _ _ _ _ _ f => by rw [va_up_self, va_up_ne _ _ f], fun i hi => by rw [va_up_ne _ _ (by omega), va_up_self, va_up_ne _ _ (by omega)]⟩
theorem hmRf.lv {m a k : Nat} {I : xI} {v : Int32} (ha : a = m + 11 ∨ a = m + 12) : hmRf m I (va_up I a (va_up (I a) k v)) := ⟨fun y _ _ r s => va_up_ne _ _ (by omega), fun j _ _ _ _ _ _ => by rw [va_up_ne _ _ (by omega)], fun i _ => by rw [va_up_ne _ _ (by omega)]⟩
theorem hmCd.put {I : xI} {m : Nat} {cs : List Int32} {x : Int32} (h : hmCd I m cs) : hmCd (va_up (va_up I (m + 10) (va_up (I (m + 10)) (1000 + cs.length) x)) m (va_up (I m) 19 (nI (1000 + cs.length + 1)))) m (cs ++ [x]) := by
  refine ⟨by rw [va_up_self, va_up_self, List.length_append, List.length_singleton]; rfl, fun i hi => ?_⟩
  rw [List.length_append, List.length_singleton] at hi
  rw [va_up_ne _ _ (by omega), va_up_self]
  by_cases e : i = cs.length
  · rw [e, va_up_self]
    simp
  · rw [va_up_ne _ _ (by omega), h.2 i (by omega)]
    simp [List.getElem?_append_left (show i < cs.length by omega)]
theorem hmCd.kept {I J : xI} {m : Nat} {cs : List Int32} (h : hmCd I m cs) (e1 : J m 19 = I m 19) (e2 : J (m + 10) = I (m + 10)) : hmCd J m cs := by
  unfold hmCd at h ⊢
  rw [e1, e2]
  exact h
