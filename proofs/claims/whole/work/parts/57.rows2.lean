/-- the callers of a set, by numbers -/
def hmMem (s : Int32) (i : Nat) : List Nat := (List.range i).filter (fun w => hmBit s w)
theorem hmMem_s (s : Int32) (i : Nat) : hmMem s (i + 1) = if hmBit s i = true then hmMem s i ++ [i] else hmMem s i := by
  unfold hmMem
  rw [List.range_succ, List.filter_append]
  by_cases h : hmBit s i = true
  · rw [if_pos h]
    simp [h]
  · rw [if_neg h]
    simp [h]
theorem hmMem_le (s : Int32) (i : Nat) : (hmMem s i).length ≤ i := by
  have h := List.length_filter_le (fun w => hmBit s w) (List.range i)
  rw [List.length_range] at h
  exact h
set_option maxHeartbeats 4000000 in
theorem c_rowsBegin_loop {d : Nat} {sh : xSh} {R : xR} {L : xL} {I : xI} {Q : xQ} {a : Nat} {s : Int32} (ha : xRows sh R a) (hQ : ∀ I', (∀ x, x ≠ a → x ≠ a + 1 → I' x = I x) → I' a 2 = nI (hmMem s 6).length → I' a 3 = -1 → I' a 4 = 0 → (∀ k, k < (hmMem s 6).length → I' (a + 1) k = nI ((hmMem s 6).getD k 0)) → Q none 0 sh R L I') : ∀ n i J, n + i = 6 → (∀ x, x ≠ a → x ≠ a + 1 → J x = I x) → J a 2 = nI (hmMem s i).length → J a 3 = -1 → J a 4 = 0 → (∀ k, k < (hmMem s i).length → J (a + 1) k = nI ((hmMem s i).getD k 0)) → Ex d 0 0 MX6_begin 0 sh R L J 17 [some (.ref a), some (.int s), some (.int (nI i))] [] Q := by
  intro n
  induction n with
  | zero =>
    intro i J hi f1 f2 f3 f4 f5
    have h6 : i = 6 := by omega
    subst h6
    refine Ex_iload_n 18 (i := 2) dX6_begin_17 rfl rfl rfl ?_
    refine Ex_bipush 20 (v := 6) dX6_begin_18 (by decide) rfl ?_
    refine Ex_icmp_ge 23 58 dX6_begin_20 (by decide) rfl (fun c1 => ?_) (fun c1 => absurd c1 (fun q => q (nI_le (a := 6) (b := 6) (by omega) (by omega))))
    refine Ex_ret0 dX6_begin_58 rfl (Or.inl rfl) ?_
    exact hQ J f1 f2 f3 f4 f5
  | succ n ih =>
    intro i J hi f1 f2 f3 f4 f5
    have hle := hmMem_le s i
    have hs := hmMem_s s i
    refine Ex_iload_n 18 (i := 2) dX6_begin_17 rfl rfl rfl ?_
    refine Ex_bipush 20 (v := 6) dX6_begin_18 (by decide) rfl ?_
    refine Ex_icmp_ge 23 58 dX6_begin_20 (by decide) rfl (fun c1 => absurd c1 (nI_ge (b := 6) (by omega) (by omega))) (fun c1 => ?_)
    refine Ex_iload_n 24 (i := 1) dX6_begin_23 rfl rfl rfl ?_
    refine Ex_iload_n 25 (i := 2) dX6_begin_24 rfl rfl rfl ?_
    refine Ex_ishr 26 dX6_begin_25 rfl ?_
    refine Ex_iconst 27 (v := 1) dX6_begin_26 (by decide) rfl ?_
    refine Ex_iand 28 dX6_begin_27 rfl ?_
    refine Ex_iconst 29 (v := 1) dX6_begin_28 (by decide) rfl ?_
    refine Ex_icmp_ne 32 52 dX6_begin_29 (by decide) rfl (fun c2 => ?_) (fun c2 => ?_)
    · refine Ex_iinc 55 (v := (nI (i + 1))) (ls' := [some (.ref a), some (.int s), some (.int (nI (i + 1)))]) dX6_begin_52 rfl (xinc _) (Nat.le_of_ble_eq_true rfl) rfl rfl rfl ?_
      refine Ex_goto 17 dX6_begin_55 (by decide) ?_
      rw [if_neg (by rw [hmBit_n c2]; decide)] at hs
      exact ih (i + 1) J (by omega) f1 (by rw [hs]; exact f2) f3 f4 (by rw [hs]; exact f5)
    · refine Ex_aload_n 33 (i := 0) dX6_begin_32 rfl rfl rfl ?_
      refine Ex_getR 36 dX6_begin_33 fX6_9 ha.1 rfl ha.2.2.2.1 rfl ?_
      refine Ex_aload_n 37 (i := 0) dX6_begin_36 rfl rfl rfl ?_
      refine Ex_gI 40 (J a 2) dX6_begin_37 fX6_18 ha.1 rfl rfl rfl ?_
      rw [f2]
      refine Ex_iload_n 41 (i := 2) dX6_begin_40 rfl rfl rfl ?_
      refine Ex_sI 42 ((hmMem s i).length) (J (a + 1)) (va_up J (a + 1) (va_up (J (a + 1)) ((hmMem s i).length) (nI i))) dX6_begin_41 ha.2.1 rfl (by omega) (by decide) rfl rfl rfl ?_
      refine Ex_aload_n 43 (i := 0) dX6_begin_42 rfl rfl rfl ?_
      refine Ex_dup 44 dX6_begin_43 rfl rfl ?_
      refine Ex_gI 47 (J a 2) dX6_begin_44 fX6_18 ha.1 rfl (congrFun (va_up_ne _ _ (by omega)) _) rfl ?_
      rw [f2]
      refine Ex_iconst 48 (v := 1) dX6_begin_47 (by decide) rfl ?_
      refine Ex_iadd 49 dX6_begin_48 rfl ?_
      rw [nI_1]
      refine Ex_pI 52 (J a) (va_up (va_up J (a + 1) (va_up (J (a + 1)) ((hmMem s i).length) (nI i))) a (va_up (J a) 2 (nI ((hmMem s i).length + 1)))) dX6_begin_49 fX6_18 rfl ha.1 rfl (fun _ => rfl) (va_up_ne _ _ (by omega)) rfl rfl rfl ?_
      refine Ex_iinc 55 (v := (nI (i + 1))) (ls' := [some (.ref a), some (.int s), some (.int (nI (i + 1)))]) dX6_begin_52 rfl (xinc _) (Nat.le_of_ble_eq_true rfl) rfl rfl rfl ?_
      refine Ex_goto 17 dX6_begin_55 (by decide) ?_
      rw [if_pos (hmBit_1.mpr c2)] at hs
      refine ih (i + 1) _ (by omega) (fun x p q => by rw [va_up_ne _ _ p, va_up_ne _ _ q]; exact f1 x p q) ?_ ?_ ?_ (fun k hk => ?_)
      · rw [va_up_self, va_up_self, hs, List.length_append, List.length_singleton]
      · rw [va_up_self, va_up_ne _ _ (by omega)]
        exact f3
      · rw [va_up_self, va_up_ne _ _ (by omega)]
        exact f4
      · rw [hs] at hk ⊢
        rw [List.length_append, List.length_singleton] at hk
        rw [va_up_ne _ _ (by omega), va_up_self]
        by_cases h : k = (hmMem s i).length
        · rw [h, va_up_self]
          simp
        · rw [va_up_ne _ _ h, f5 k (by omega)]
          simp [List.getElem?_append_left (show k < (hmMem s i).length by omega)]
set_option maxHeartbeats 4000000 in
theorem c_rowsBegin {d : Nat} {sh : xSh} {R : xR} {L : xL} {I : xI} {Q : xQ} {a : Nat} {s : Int32} (ha : xRows sh R a) (hQ : ∀ I', (∀ x, x ≠ a → x ≠ a + 1 → I' x = I x) → I' a 2 = nI (hmMem s 6).length → I' a 3 = -1 → I' a 4 = 0 → (∀ k, k < (hmMem s 6).length → I' (a + 1) k = nI ((hmMem s 6).getD k 0)) → Q none 0 sh R L I') : Ex d 0 0 MX6_begin 0 sh R L I 0 [some (.ref a), some (.int s), none] [] Q := by
  refine Ex_aload_n 1 (i := 0) dX6_begin_0 rfl rfl rfl ?_
  refine Ex_iconst 2 (v := 0) dX6_begin_1 (by decide) rfl ?_
  refine Ex_pI 5 (I a) (va_up I a (va_up (I a) 2 0)) dX6_begin_2 fX6_18 rfl ha.1 rfl (fun _ => rfl) rfl rfl rfl rfl ?_
  refine Ex_aload_n 6 (i := 0) dX6_begin_5 rfl rfl rfl ?_
  refine Ex_iconst 7 (v := (-1)) dX6_begin_6 (by decide) rfl ?_
  refine Ex_pI 10 (va_up (I a) 2 0) (va_up I a (va_up (va_up (I a) 2 0) 3 (-1))) dX6_begin_7 fX6_22 rfl ha.1 rfl (fun _ => rfl) (va_up_self _ _ _) rfl (va_up_up _ _ _ _) rfl ?_
  refine Ex_aload_n 11 (i := 0) dX6_begin_10 rfl rfl rfl ?_
  refine Ex_iconst 12 (v := 0) dX6_begin_11 (by decide) rfl ?_
  refine Ex_pI 15 (va_up (va_up (I a) 2 0) 3 (-1)) (va_up I a (va_up (va_up (va_up (I a) 2 0) 3 (-1)) 4 0)) dX6_begin_12 fX6_25 rfl ha.1 (by decide) (fun _ => rfl) (va_up_self _ _ _) rfl (va_up_up _ _ _ _) rfl ?_
  refine Ex_iconst 16 (v := 0) dX6_begin_15 (by decide) rfl ?_
  refine Ex_istore_n 17 (i := 2) (ls' := [some (.ref a), some (.int s), some (.int 0)]) dX6_begin_16 rfl (Nat.le_of_ble_eq_true rfl) rfl rfl rfl ?_
  refine c_rowsBegin_loop ha hQ 6 0 _ rfl (fun x p q => by rw [va_up_ne _ _ p]) ?_ ?_ ?_ (fun k hk => absurd hk (by simp [hmMem]))
  · rw [va_up_self, va_up_ne _ _ (by omega), va_up_ne _ _ (by omega), va_up_self]
    rfl
  · rw [va_up_self, va_up_ne _ _ (by omega), va_up_self]
  · rw [va_up_self, va_up_self]
