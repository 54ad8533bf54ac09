/-- the row at a is r -/
def hmRw (I : xI) (a : Nat) (r : List Nat) : Prop := ∀ k, k < r.length → I (a + 1) k = nI (r.getD k 0)
theorem hmXc_len (r : List Nat) (i j : Nat) : (hmXc r i j).length = r.length := by
  unfold hmXc
  rw [List.length_set, List.length_set]
theorem hmXc_get (r : List Nat) {i j k : Nat} (hi : i < r.length) (hj : j < r.length) (hk : k < r.length) : (hmXc r i j).getD k 0 = if k = j then r.getD i 0 else if k = i then r.getD j 0 else r.getD k 0 := by
  unfold hmXc
  rw [List.getD_eq_getElem?_getD, List.getElem?_set]
  by_cases h1 : j = k
  · rw [if_pos h1, if_pos h1.symm, if_pos (by rw [List.length_set]; omega)]
    rfl
  · rw [if_neg h1, if_neg (fun q => h1 q.symm), List.getElem?_set]
    by_cases h2 : i = k
    · rw [if_pos h2, if_pos h2.symm, if_pos (by omega)]
      rfl
    · rw [if_neg h2, if_neg (fun q => h2 q.symm), ← List.getD_eq_getElem?_getD]
theorem hmRw.xc {I : xI} {a : Nat} {r : List Nat} (h : hmRw I a r) {i j : Nat} (hi : i < r.length) (hj : j < r.length) : hmRw (va_up I (a + 1) (va_up (va_up (I (a + 1)) i (I (a + 1) j)) j (I (a + 1) i))) a (hmXc r i j) := by
  intro k hk
  rw [hmXc_len] at hk
  rw [va_up_self, hmXc_get r hi hj hk]
  by_cases h1 : k = j
  · rw [if_pos h1, h1, va_up_self]
    exact h i hi
  · rw [if_neg h1, va_up_ne _ _ h1]
    by_cases h2 : k = i
    · rw [if_pos h2, h2, va_up_self]
      exact h j hj
    · rw [if_neg h2, va_up_ne _ _ h2]
      exact h k hk
theorem hmRw.kept {I J : xI} {a : Nat} {r : List Nat} (h : hmRw I a r) (e : J (a + 1) = I (a + 1)) : hmRw J a r := fun k hk => by rw [e]; exact h k hk
theorem hmOver_lt (r : List Nat) (p : Nat) : ∀ j, p ≤ j → p ≤ hmOver r p j ∧ hmOver r p j ≤ j := by
  intro j
  induction j with
  | zero => intro h; exact ⟨h, Nat.le_refl _⟩
  | succ j ih =>
    intro h
    unfold hmOver
    split
    · rename_i c
      have := ih (by omega)
      omega
    · exact ⟨h, Nat.le_refl _⟩
theorem hmRv_len : ∀ (f : Nat) (r : List Nat) (i j : Nat), (hmRv f r i j).length = r.length := by
  intro f
  induction f with
  | zero => intro r i j; rfl
  | succ f ih =>
    intro r i j
    unfold hmRv
    split
    · rw [ih, hmXc_len]
    · rfl
theorem hmAdv_len {r r' : List Nat} (h : hmAdv r = some r') : r'.length = r.length := by
  unfold hmAdv at h
  split at h
  · exact absurd h (by simp)
  · rw [← Option.some.inj h, hmRv_len, hmXc_len]
set_option maxHeartbeats 4000000 in
theorem c_adv1 {d : Nat} {sh : xSh} {R : xR} {L : xL} {I : xI} {Q : xQ} {a : Nat} {r : List Nat} (ha : xRows sh R a) (hr : hmRw I a r) (h6 : ∀ x, x ∈ r → x < 6) (hl : r.length ≤ 6) (hno : hmRise r (r.length - 1) = none → Ex (d + 1) 0 0 MX6_advance 0 sh R L I 34 [some (.ref a), some (.int (-1)), none, none, none] [] Q) (hyes : ∀ p, hmRise r (r.length - 1) = some p → p + 1 < r.length → Ex (d + 1) 0 0 MX6_advance 0 sh R L I 34 [some (.ref a), some (.int (nI p)), none, none, none] [] Q) : ∀ i, i + 1 < r.length → hmRise r (r.length - 1) = hmRise r (i + 1) → Ex (d + 1) 0 0 MX6_advance 0 sh R L I 7 [some (.ref a), some (.int (nI i)), none, none, none] [] Q := by
  intro i
  induction i with
  | zero =>
    intro hi he
    have g0 := h6 _ (hm_getD_mem (show 0 < r.length by omega))
    have g1 := h6 _ (hm_getD_mem (show 1 < r.length by omega))
    refine Ex_iload_n 8 (i := 1) dX6_advance_7 rfl rfl rfl ?_
    refine Ex_if_lt 11 34 dX6_advance_8 (by decide) rfl (fun c1 => absurd c1 (by decide)) (fun c1 => ?_)
    refine Ex_aload_n 12 (i := 0) dX6_advance_11 rfl rfl rfl ?_
    refine Ex_getR 15 dX6_advance_12 fX6_9 ha.1 rfl ha.2.2.2.1 rfl ?_
    refine Ex_iload_n 16 (i := 1) dX6_advance_15 rfl rfl rfl ?_
    refine Ex_aI 17 0 (I (a + 1) 0) dX6_advance_16 ha.2.1 rfl (by decide) (by decide) rfl rfl ?_
    rw [hr 0 (by omega)]
    refine Ex_aload_n 18 (i := 0) dX6_advance_17 rfl rfl rfl ?_
    refine Ex_getR 21 dX6_advance_18 fX6_9 ha.1 rfl ha.2.2.2.1 rfl ?_
    refine Ex_iload_n 22 (i := 1) dX6_advance_21 rfl rfl rfl ?_
    refine Ex_iconst 23 (v := 1) dX6_advance_22 (by decide) rfl ?_
    refine Ex_iadd 24 dX6_advance_23 rfl ?_
    refine Ex_aI 25 1 (I (a + 1) 1) dX6_advance_24 ha.2.1 rfl (by decide) (by decide) rfl rfl ?_
    rw [hr 1 (by omega)]
    refine Ex_icmp_le 28 34 dX6_advance_25 (by decide) rfl (fun c2 => ?_) (fun c2 => ?_)
    · have h2 := (nI_leI (by omega) (by omega)).mp c2
      have e2 : hmRise r (0 + 1) = if r.getD 1 0 < r.getD 0 0 then hmRise r 0 else some 0 := rfl
      exact hyes 0 (he.trans (e2.trans (if_neg (by omega)))) (by omega)
    · refine Ex_iinc 31 (v := (-1)) (ls' := [some (.ref a), some (.int (-1)), none, none, none]) dX6_advance_28 rfl (by decide) (Nat.le_of_ble_eq_true rfl) rfl rfl rfl ?_
      refine Ex_goto 7 dX6_advance_31 (by decide) ?_
      refine Ex_iload_n 8 (i := 1) dX6_advance_7 rfl rfl rfl ?_
      refine Ex_if_lt 11 34 dX6_advance_8 (by decide) rfl (fun c3 => ?_) (fun c3 => absurd c3 (fun q => q (by decide)))
      have h2 : ¬ r.getD 0 0 ≤ r.getD 1 0 := fun q => c2 ((nI_leI (by omega) (by omega)).mpr q)
      have e2 : hmRise r (0 + 1) = if r.getD 1 0 < r.getD 0 0 then hmRise r 0 else some 0 := rfl
      exact hno (he.trans (e2.trans (if_pos (by omega))))
  | succ i ih =>
    intro hi he
    have g0 := h6 _ (hm_getD_mem (show i + 1 < r.length by omega))
    have g1 := h6 _ (hm_getD_mem (show i + 2 < r.length by omega))
    refine Ex_iload_n 8 (i := 1) dX6_advance_7 rfl rfl rfl ?_
    refine Ex_if_lt 11 34 dX6_advance_8 (by decide) rfl (fun c1 => absurd c1 (Int32.not_lt.mpr (hm_nI0 (by omega)))) (fun c1 => ?_)
    refine Ex_aload_n 12 (i := 0) dX6_advance_11 rfl rfl rfl ?_
    refine Ex_getR 15 dX6_advance_12 fX6_9 ha.1 rfl ha.2.2.2.1 rfl ?_
    refine Ex_iload_n 16 (i := 1) dX6_advance_15 rfl rfl rfl ?_
    refine Ex_aI 17 (i + 1) (I (a + 1) (i + 1)) dX6_advance_16 ha.2.1 rfl (by omega) (by decide) rfl rfl ?_
    rw [hr (i + 1) (by omega)]
    refine Ex_aload_n 18 (i := 0) dX6_advance_17 rfl rfl rfl ?_
    refine Ex_getR 21 dX6_advance_18 fX6_9 ha.1 rfl ha.2.2.2.1 rfl ?_
    refine Ex_iload_n 22 (i := 1) dX6_advance_21 rfl rfl rfl ?_
    refine Ex_iconst 23 (v := 1) dX6_advance_22 (by decide) rfl ?_
    refine Ex_iadd 24 dX6_advance_23 rfl ?_
    refine Ex_aI 25 (i + 2) (I (a + 1) (i + 2)) dX6_advance_24 ha.2.1 (nI_1 (i + 1)) (by omega) (by decide) rfl rfl ?_
    rw [hr (i + 2) (by omega)]
    refine Ex_icmp_le 28 34 dX6_advance_25 (by decide) rfl (fun c2 => ?_) (fun c2 => ?_)
    · have h2 := (nI_leI (by omega) (by omega)).mp c2
      have e2 : hmRise r (i + 1 + 1) = if r.getD (i + 2) 0 < r.getD (i + 1) 0 then hmRise r (i + 1) else some (i + 1) := rfl
      exact hyes (i + 1) (he.trans (e2.trans (if_neg (by omega)))) (by omega)
    · refine Ex_iinc 31 (v := (nI i)) (ls' := [some (.ref a), some (.int (nI i)), none, none, none]) dX6_advance_28 rfl (pk_m1 i) (Nat.le_of_ble_eq_true rfl) rfl rfl rfl ?_
      refine Ex_goto 7 dX6_advance_31 (by decide) ?_
      have h2 : ¬ r.getD (i + 1) 0 ≤ r.getD (i + 2) 0 := fun q => c2 ((nI_leI (by omega) (by omega)).mpr q)
      have e2 : hmRise r (i + 1 + 1) = if r.getD (i + 2) 0 < r.getD (i + 1) 0 then hmRise r (i + 1) else some (i + 1) := rfl
      exact ih (by omega) (he.trans (e2.trans (if_pos (by omega))))
set_option maxHeartbeats 4000000 in
theorem c_adv2 {d : Nat} {sh : xSh} {R : xR} {L : xL} {I : xI} {Q : xQ} {a : Nat} {r : List Nat} (ha : xRows sh R a) (hr : hmRw I a r) (h6 : ∀ x, x ∈ r → x < 6) (hl : r.length ≤ 6) {p : Nat} (hk : Ex (d + 1) 0 0 MX6_advance 0 sh R L I 73 [some (.ref a), some (.int (nI p)), some (.int (nI (hmOver r p (r.length - 1)))), none, none] [] Q) : ∀ j, p ≤ j → j < r.length → hmOver r p (r.length - 1) = hmOver r p j → Ex (d + 1) 0 0 MX6_advance 0 sh R L I 47 [some (.ref a), some (.int (nI p)), some (.int (nI j)), none, none] [] Q := by
  intro j
  induction j with
  | zero =>
    intro hp hj he
    refine Ex_iload_n 48 (i := 2) dX6_advance_47 rfl rfl rfl ?_
    refine Ex_iload_n 49 (i := 1) dX6_advance_48 rfl rfl rfl ?_
    refine Ex_icmp_le 52 73 dX6_advance_49 (by decide) rfl (fun c1 => ?_) (fun c1 => absurd c1 (fun q => q (nI_le (by omega) (by omega))))
    have e : hmOver r p (r.length - 1) = 0 := he
    rw [e] at hk
    exact hk
  | succ j ih =>
    intro hp hj he
    have g0 := h6 _ (hm_getD_mem (show p < r.length by omega))
    have g1 := h6 _ (hm_getD_mem (show j + 1 < r.length by omega))
    refine Ex_iload_n 48 (i := 2) dX6_advance_47 rfl rfl rfl ?_
    refine Ex_iload_n 49 (i := 1) dX6_advance_48 rfl rfl rfl ?_
    refine Ex_icmp_le 52 73 dX6_advance_49 (by decide) rfl (fun c1 => ?_) (fun c1 => ?_)
    · have h2 := (nI_leI (by omega) (by omega)).mp c1
      rw [he.trans (if_neg (by omega))] at hk
      exact hk
    · refine Ex_aload_n 53 (i := 0) dX6_advance_52 rfl rfl rfl ?_
      refine Ex_getR 56 dX6_advance_53 fX6_9 ha.1 rfl ha.2.2.2.1 rfl ?_
      refine Ex_iload_n 57 (i := 2) dX6_advance_56 rfl rfl rfl ?_
      refine Ex_aI 58 (j + 1) (I (a + 1) (j + 1)) dX6_advance_57 ha.2.1 rfl (by omega) (by decide) rfl rfl ?_
      rw [hr (j + 1) (by omega)]
      refine Ex_aload_n 59 (i := 0) dX6_advance_58 rfl rfl rfl ?_
      refine Ex_getR 62 dX6_advance_59 fX6_9 ha.1 rfl ha.2.2.2.1 rfl ?_
      refine Ex_iload_n 63 (i := 1) dX6_advance_62 rfl rfl rfl ?_
      refine Ex_aI 64 p (I (a + 1) p) dX6_advance_63 ha.2.1 rfl (by omega) (by decide) rfl rfl ?_
      rw [hr p (by omega)]
      refine Ex_icmp_ge 67 73 dX6_advance_64 (by decide) rfl (fun c2 => ?_) (fun c2 => ?_)
      · have h2 := (nI_leI (by omega) (by omega)).mp c2
        rw [he.trans (if_neg (by omega))] at hk
        exact hk
      · refine Ex_iinc 70 (v := (nI j)) (ls' := [some (.ref a), some (.int (nI p)), some (.int (nI j)), none, none]) dX6_advance_67 rfl (pk_m1 j) (Nat.le_of_ble_eq_true rfl) rfl rfl rfl ?_
        refine Ex_goto 47 dX6_advance_70 (by decide) ?_
        have h1 : ¬ j + 1 ≤ p := fun q => c1 ((nI_leI (by omega) (by omega)).mpr q)
        have h2 : ¬ r.getD p 0 ≤ r.getD (j + 1) 0 := fun q => c2 ((nI_leI (by omega) (by omega)).mpr q)
        exact ih (by omega) (by omega) (he.trans (if_pos ⟨by omega, by omega⟩))
set_option maxHeartbeats 4000000 in
theorem c_adv3 {d : Nat} {sh : xSh} {R : xR} {L : xL} {I : xI} {Q : xQ} {a : Nat} {x1 x2 : Int32} (ha : xRows sh R a) : ∀ f r i j J, j ≤ i + f → i ≤ 20 → j < r.length → r.length ≤ 6 → hmRw J a r → (∀ x, x ≠ a + 1 → J x = I x) → (∀ I', (∀ x, x ≠ a + 1 → I' x = I x) → hmRw I' a (hmRv f r i j) → Q (some (.int 1)) 0 sh R L I') → Ex (d + 1) 0 0 MX6_advance 0 sh R L J 91 [some (.ref a), some (.int x1), some (.int x2), some (.int (nI i)), some (.int (nI j))] [] Q := by
  intro f
  induction f with
  | zero =>
    intro r i j J hij hi hj hl hr hJ hQ
    refine Ex_iload_n 92 (i := 3) dX6_advance_91 rfl rfl rfl ?_
    refine Ex_iload 94 dX6_advance_92 rfl rfl ?_
    refine Ex_icmp_ge 97 113 dX6_advance_94 (by decide) rfl (fun c1 => ?_) (fun c1 => absurd c1 (fun q => q (nI_le (by omega) (by omega))))
    refine Ex_iconst 114 (v := 1) dX6_advance_113 (by decide) rfl ?_
    refine Ex_iret dX6_advance_114 rfl rfl (Or.inl rfl) ?_
    exact hQ J hJ hr
  | succ f ih =>
    intro r i j J hij hi hj hl hr hJ hQ
    refine Ex_iload_n 92 (i := 3) dX6_advance_91 rfl rfl rfl ?_
    refine Ex_iload 94 dX6_advance_92 rfl rfl ?_
    refine Ex_icmp_ge 97 113 dX6_advance_94 (by decide) rfl (fun c1 => ?_) (fun c1 => ?_)
    · refine Ex_iconst 114 (v := 1) dX6_advance_113 (by decide) rfl ?_
      refine Ex_iret dX6_advance_114 rfl rfl (Or.inl rfl) ?_
      have e : hmRv (f + 1) r i j = r := if_neg (fun q => absurd ((nI_leI (by omega) (by omega)).mp c1) (by omega))
      rw [e] at hQ
      exact hQ J hJ hr
    · refine Ex_aload_n 98 (i := 0) dX6_advance_97 rfl rfl rfl ?_
      refine Ex_iload_n 99 (i := 3) dX6_advance_98 rfl rfl rfl ?_
      refine Ex_iload 101 dX6_advance_99 rfl rfl ?_
      refine Ex_callV (M' := MX6_exchange) 104 [.int (nI i), .int (nI j)] (rest := []) dX6_advance_101 lX6_35 mX6_exchange rfl ha.1 rfl (Nat.le_of_ble_eq_true rfl) (Nat.le_of_ble_eq_true rfl) rfl ?_
      have hc : ¬ j ≤ i := fun q => c1 (nI_le q (by omega))
      refine c_exchange (i := i) (j := j) ha (by omega) (by omega) ?_
      simp only [Option.toList, List.nil_append, List.cons_append]
      refine Ex_iinc 107 (v := (nI (i + 1))) (ls' := [some (.ref a), some (.int x1), some (.int x2), some (.int (nI (i + 1))), some (.int (nI j))]) dX6_advance_104 rfl (xinc _) (Nat.le_of_ble_eq_true rfl) rfl rfl rfl ?_
      refine Ex_iinc 110 (v := (nI (j - 1))) (ls' := [some (.ref a), some (.int x1), some (.int x2), some (.int (nI (i + 1))), some (.int (nI (j - 1)))]) dX6_advance_107 rfl (hm_dec (by omega)) (Nat.le_of_ble_eq_true rfl) rfl rfl rfl ?_
      refine Ex_goto 91 dX6_advance_110 (by decide) ?_
      have e : hmRv (f + 1) r i j = hmRv f (hmXc r i j) (i + 1) (j - 1) := if_pos (by omega)
      rw [e] at hQ
      exact ih _ (i + 1) (j - 1) _ (by omega) (by omega) (by rw [hmXc_len]; omega) (by rw [hmXc_len]; exact hl) (hr.xc (by omega) (by omega)) (fun x hx => by rw [va_up_ne _ _ hx]; exact hJ x hx) hQ
set_option maxHeartbeats 4000000 in
theorem c_advance {d : Nat} {sh : xSh} {R : xR} {L : xL} {I : xI} {Q : xQ} {a : Nat} {r : List Nat} (ha : xRows sh R a) (hr : hmRw I a r) (h6 : ∀ x, x ∈ r → x < 6) (hl : r.length ≤ 6) (h2 : I a 2 = nI r.length) (hno : hmAdv r = none → Q (some (.int 0)) 0 sh R L I) (hyes : ∀ r' I', hmAdv r = some r' → (∀ x, x ≠ a + 1 → I' x = I x) → hmRw I' a r' → Q (some (.int 1)) 0 sh R L I') : Ex (d + 1) 0 0 MX6_advance 0 sh R L I 0 [some (.ref a), none, none, none, none] [] Q := by
  obtain ⟨ln, hln⟩ : ∃ n, r.length = n := ⟨_, rfl⟩
  rw [hln] at h2
  match ln, hln with
  | 0, hln =>
    refine Ex_aload_n 1 (i := 0) dX6_advance_0 rfl rfl rfl ?_
    refine Ex_gI 4 (I a 2) dX6_advance_1 fX6_18 ha.1 rfl rfl rfl ?_
    rw [h2]
    refine Ex_iconst 5 (v := 2) dX6_advance_4 (by decide) rfl ?_
    refine Ex_isub 6 dX6_advance_5 rfl ?_
    rw [show nI 0 - 2 = -2 by decide]
    refine Ex_istore_n 7 (i := 1) (ls' := [some (.ref a), some (.int (-2)), none, none, none]) dX6_advance_6 rfl (Nat.le_of_ble_eq_true rfl) rfl rfl rfl ?_
    refine Ex_iload_n 8 (i := 1) dX6_advance_7 rfl rfl rfl ?_
    refine Ex_if_lt 11 34 dX6_advance_8 (by decide) rfl (fun c1 => ?_) (fun c1 => absurd c1 (fun q => q (by decide)))
    refine Ex_iload_n 35 (i := 1) dX6_advance_34 rfl rfl rfl ?_
    refine Ex_if_ge 38 40 dX6_advance_35 (by decide) rfl (fun c2 => absurd c2 (by decide)) (fun c2 => ?_)
    refine Ex_iconst 39 (v := 0) dX6_advance_38 (by decide) rfl ?_
    refine Ex_iret dX6_advance_39 rfl rfl (Or.inl rfl) ?_
    exact hno (by unfold hmAdv; rw [hln]; rfl)
  | 1, hln =>
    refine Ex_aload_n 1 (i := 0) dX6_advance_0 rfl rfl rfl ?_
    refine Ex_gI 4 (I a 2) dX6_advance_1 fX6_18 ha.1 rfl rfl rfl ?_
    rw [h2]
    refine Ex_iconst 5 (v := 2) dX6_advance_4 (by decide) rfl ?_
    refine Ex_isub 6 dX6_advance_5 rfl ?_
    rw [show nI 1 - 2 = -1 by decide]
    refine Ex_istore_n 7 (i := 1) (ls' := [some (.ref a), some (.int (-1)), none, none, none]) dX6_advance_6 rfl (Nat.le_of_ble_eq_true rfl) rfl rfl rfl ?_
    refine Ex_iload_n 8 (i := 1) dX6_advance_7 rfl rfl rfl ?_
    refine Ex_if_lt 11 34 dX6_advance_8 (by decide) rfl (fun c1 => ?_) (fun c1 => absurd c1 (fun q => q (by decide)))
    refine Ex_iload_n 35 (i := 1) dX6_advance_34 rfl rfl rfl ?_
    refine Ex_if_ge 38 40 dX6_advance_35 (by decide) rfl (fun c2 => absurd c2 (by decide)) (fun c2 => ?_)
    refine Ex_iconst 39 (v := 0) dX6_advance_38 (by decide) rfl ?_
    refine Ex_iret dX6_advance_39 rfl rfl (Or.inl rfl) ?_
    exact hno (by unfold hmAdv; rw [hln]; rfl)
  | n + 2, hln =>
    refine Ex_aload_n 1 (i := 0) dX6_advance_0 rfl rfl rfl ?_
    refine Ex_gI 4 (I a 2) dX6_advance_1 fX6_18 ha.1 rfl rfl rfl ?_
    rw [h2]
    refine Ex_iconst 5 (v := 2) dX6_advance_4 (by decide) rfl ?_
    refine Ex_isub 6 dX6_advance_5 rfl ?_
    rw [hm_sub2 (by omega), show n + 2 - 2 = n by omega]
    refine Ex_istore_n 7 (i := 1) (ls' := [some (.ref a), some (.int (nI n)), none, none, none]) dX6_advance_6 rfl (Nat.le_of_ble_eq_true rfl) rfl rfl rfl ?_
    refine c_adv1 ha hr h6 hl (fun e => ?_) (fun p e hp => ?_) n (by omega) (by rw [hln]; rfl)
    · refine Ex_iload_n 35 (i := 1) dX6_advance_34 rfl rfl rfl ?_
      refine Ex_if_ge 38 40 dX6_advance_35 (by decide) rfl (fun c1 => absurd c1 (by decide)) (fun c1 => ?_)
      refine Ex_iconst 39 (v := 0) dX6_advance_38 (by decide) rfl ?_
      refine Ex_iret dX6_advance_39 rfl rfl (Or.inl rfl) ?_
      exact hno (by unfold hmAdv; rw [e])
    · have ho := hmOver_lt r p (r.length - 1) (by omega)
      refine Ex_iload_n 35 (i := 1) dX6_advance_34 rfl rfl rfl ?_
      refine Ex_if_ge 38 40 dX6_advance_35 (by decide) rfl (fun c1 => ?_) (fun c1 => absurd c1 (fun q => q (hm_nI0 (by omega))))
      refine Ex_aload_n 41 (i := 0) dX6_advance_40 rfl rfl rfl ?_
      refine Ex_gI 44 (I a 2) dX6_advance_41 fX6_18 ha.1 rfl rfl rfl ?_
      rw [h2]
      refine Ex_iconst 45 (v := 1) dX6_advance_44 (by decide) rfl ?_
      refine Ex_isub 46 dX6_advance_45 rfl ?_
      rw [hm_sub1 (by omega), show n + 2 - 1 = r.length - 1 by omega]
      refine Ex_istore_n 47 (i := 2) (ls' := [some (.ref a), some (.int (nI p)), some (.int (nI (r.length - 1))), none, none]) dX6_advance_46 rfl (Nat.le_of_ble_eq_true rfl) rfl rfl rfl ?_
      refine c_adv2 ha hr h6 hl ?_ (r.length - 1) (by omega) (by omega) rfl
      refine Ex_aload_n 74 (i := 0) dX6_advance_73 rfl rfl rfl ?_
      refine Ex_iload_n 75 (i := 1) dX6_advance_74 rfl rfl rfl ?_
      refine Ex_iload_n 76 (i := 2) dX6_advance_75 rfl rfl rfl ?_
      refine Ex_callV (M' := MX6_exchange) 79 [.int (nI p), .int (nI (hmOver r p (r.length - 1)))] (rest := []) dX6_advance_76 lX6_35 mX6_exchange rfl ha.1 rfl (Nat.le_of_ble_eq_true rfl) (Nat.le_of_ble_eq_true rfl) rfl ?_
      refine c_exchange (i := p) (j := hmOver r p (r.length - 1)) ha (by omega) (by omega) ?_
      simp only [Option.toList, List.nil_append, List.cons_append]
      refine Ex_iload_n 80 (i := 1) dX6_advance_79 rfl rfl rfl ?_
      refine Ex_iconst 81 (v := 1) dX6_advance_80 (by decide) rfl ?_
      refine Ex_iadd 82 dX6_advance_81 rfl ?_
      rw [nI_1]
      refine Ex_istore_n 83 (i := 3) (ls' := [some (.ref a), some (.int (nI p)), some (.int (nI (hmOver r p (r.length - 1)))), some (.int (nI (p + 1))), none]) dX6_advance_82 rfl (Nat.le_of_ble_eq_true rfl) rfl rfl rfl ?_
      refine Ex_aload_n 84 (i := 0) dX6_advance_83 rfl rfl rfl ?_
      refine Ex_gI 87 (I a 2) dX6_advance_84 fX6_18 ha.1 rfl (congrFun (va_up_ne _ _ (by omega)) _) rfl ?_
      rw [h2]
      refine Ex_iconst 88 (v := 1) dX6_advance_87 (by decide) rfl ?_
      refine Ex_isub 89 dX6_advance_88 rfl ?_
      rw [hm_sub1 (by omega), show n + 2 - 1 = r.length - 1 by omega]
      refine Ex_istore 91 (ls' := [some (.ref a), some (.int (nI p)), some (.int (nI (hmOver r p (r.length - 1)))), some (.int (nI (p + 1))), some (.int (nI (r.length - 1)))]) dX6_advance_89 (Nat.le_of_ble_eq_true rfl) rfl rfl rfl ?_
      have eA : hmAdv r = some (hmRv 6 (hmXc r p (hmOver r p (r.length - 1))) (p + 1) (r.length - 1)) := by unfold hmAdv; rw [e]
      refine c_adv3 (I := I) ha 6 (hmXc r p (hmOver r p (r.length - 1))) (p + 1) (r.length - 1) _ (by omega) (by omega) (by rw [hmXc_len]; omega) (by rw [hmXc_len]; exact hl) (hr.xc (by omega) (by omega)) (fun x hx => va_up_ne _ _ hx) (fun I' g1 g2 => hyes _ I' eA g1 g2)
