/-- the day that the reference holds at k -/
def hmMd (I : xI) (m k : Nat) (D : hmDay) : Prop := D.length ≤ 40 ∧ I (m + 23) k = nI D.length ∧ ∀ i, i < D.length → I (m + 24) (40 * k + i) = nI (D.getD i (3, 0, 0)).1 ∧ ((D.getD i (3, 0, 0)).1 ≠ 3 → I (m + 25) (40 * k + i) = nI (D.getD i (3, 0, 0)).2.1) ∧ ((D.getD i (3, 0, 0)).1 = 2 → I (m + 26) (40 * k + i) = nI (D.getD i (3, 0, 0)).2.2)
theorem hmMd.kept {I I' : xI} {m k : Nat} {D : hmDay} (h : hmMd I m k D) (hf : ∀ x, m + 23 ≤ x → x < m + 27 → I' x = I x) : hmMd I' m k D := by
  unfold hmMd at h ⊢
  rw [hf (m + 23) (by omega) (by omega), hf (m + 24) (by omega) (by omega), hf (m + 25) (by omega) (by omega), hf (m + 26) (by omega) (by omega)]
  exact h
theorem hm_diff0 {x y : Int32} (hx : hmS6 x) (hy : hmS6 y) (h : ∀ c, c < 6 → hmBit y c = true → hmBit x c = true) : x &&& (y ^^^ -1) = 0 ↔ x = y := by
  constructor
  · intro h0
    apply hm_s6_eq hx hy
    intro c hc
    have h1 := hm_bit_diff hx hy hc
    rw [h0, hm_bit0 hc] at h1
    cases hb : hmBit y c with
    | true => exact h c hc hb
    | false =>
      rw [hb] at h1
      cases hb2 : hmBit x c with
      | false => rfl
      | true => rw [hb2] at h1; exact absurd h1 (by decide)
  · intro e
    subst e
    apply hm_s6_eq (hm_s6_and hx) ⟨0, by omega, rfl⟩
    intro c hc
    rw [hm_bit_diff hx hx hc]
    cases hmBit x c <;> exact (hm_bit0 hc).symm
def hmNg (f : Int32) : Prop := f = -1 ∨ ∃ j, j < 40 ∧ f = nI j
theorem hmNg_lt {f : Int32} (h : hmNg f) : f < 0 ↔ f = -1 := by
  rcases h with rfl | ⟨j, hj, rfl⟩
  · exact ⟨fun _ => rfl, fun _ => by decide⟩
  · constructor
    · intro h
      exact absurd h (Int32.not_lt.mpr (hm_nI0 (by omega)))
    · intro h
      have h1 := congrArg Int32.toInt h
      rw [nI_toInt (by omega)] at h1
      have e1 : (-1 : Int32).toInt = -1 := by decide
      omega
theorem hmNg_jd {O : hmO} {tk : Nat} {D : hmDay} (hd : D.length ≤ 40) : ∀ i, i ≤ D.length → hmNg (hmJd O tk D i).2.1 ∧ hmNg (hmJd O tk D i).2.2 := by
  intro i
  induction i with
  | zero => intro _; exact ⟨Or.inl rfl, Or.inl rfl⟩
  | succ i ih =>
    intro hi
    obtain ⟨h1, h2⟩ := ih (by omega)
    constructor
    · show hmNg (if _ then _ else _)
      split
      · exact Or.inr ⟨i, by omega, rfl⟩
      · exact h1
    · show hmNg (if _ then _ else _)
      split
      · exact Or.inr ⟨i, by omega, rfl⟩
      · exact h2
set_option maxHeartbeats 4000000 in
theorem mc_fresh_2 {d : Nat} {sh : xSh} {R : xR} {L : xL} {I : xI} {Q : xQ} {m : Nat} {O : hmO} (hm : xModel sh R m) (hO : hmMo I m O) (ho : hmOok O) (hQ : ∀ r, hmMr r (hmBegin O) → Q none 0 sh R L (va_up I (m + 28) r)) : ∀ n i r, n + i = hmN O → ((∀ k, k < 58 → ¬ (16 ≤ k ∧ k < 16 + i) → r k = 0) ∧ ∀ w, w < i → r (16 + w) = hmKn O w) → Ex d 0 0 MX9_fresh 0 sh R L (va_up I (m + 28) r) 23 [some (.ref m), some (.int (nI i))] [] Q := by
  obtain ⟨on, otk, ow, cd, cfrom, cto, clen, ccd, csem⟩ := id hO
  have o6 := ho.1
  intro n
  induction n with
  | zero =>
    intro i r hi hr
    refine Ex_iload_n 24 (i := 1) dX9_fresh_23 rfl rfl rfl ?_
    refine Ex_aload_n 25 (i := 0) dX9_fresh_24 rfl rfl rfl ?_
    refine Ex_getR 28 dX9_fresh_25 fX9_13 (xMs_0 hm) rfl (xMr_10 hm) rfl ?_
    refine Ex_iconst 29 (v := 0) dX9_fresh_28 (by decide) rfl ?_
    refine Ex_aI 30 0 (I (m + 2) 0) dX9_fresh_29 (xMs_2 hm) rfl (by decide) (by decide) (congrFun (va_up_ne _ _ (by omega)) _) rfl ?_
    rw [on]
    refine Ex_icmp_ge 33 54 dX9_fresh_30 (by decide) rfl (fun c1 => ?_) (fun c1 => absurd c1 (fun q => q (nI_le (by omega) (by omega))))
    refine Ex_ret0 dX9_fresh_54 rfl (Or.inl rfl) ?_
    refine hQ r ⟨Nat.zero_le _, ?_, ?_, ?_, ?_, fun j hj => absurd hj (by simp [hmBegin, hmLine]), fun w hw => ?_, fun w hw => ?_, fun x hx y hy => ?_⟩
    · exact hr.1 0 (by omega) (by omega)
    · exact hr.1 1 (by omega) (by omega)
    · exact hr.1 2 (by omega) (by omega)
    · exact hr.1 3 (by omega) (by omega)
    · exact hr.1 (10 + w) (by omega) (by omega)
    · show _ = if w < hmN O then hmKn O w else 0
      by_cases e : w < hmN O
      · rw [if_pos e]
        exact hr.2 w (by omega)
      · rw [if_neg e]
        exact hr.1 (16 + w) (by omega) (by omega)
    · exact hr.1 (22 + 6 * x + y) (by omega) (by omega)
  | succ n ih =>
    intro i r hi hr
    refine Ex_iload_n 24 (i := 1) dX9_fresh_23 rfl rfl rfl ?_
    refine Ex_aload_n 25 (i := 0) dX9_fresh_24 rfl rfl rfl ?_
    refine Ex_getR 28 dX9_fresh_25 fX9_13 (xMs_0 hm) rfl (xMr_10 hm) rfl ?_
    refine Ex_iconst 29 (v := 0) dX9_fresh_28 (by decide) rfl ?_
    refine Ex_aI 30 0 (I (m + 2) 0) dX9_fresh_29 (xMs_2 hm) rfl (by decide) (by decide) (congrFun (va_up_ne _ _ (by omega)) _) rfl ?_
    rw [on]
    refine Ex_icmp_ge 33 54 dX9_fresh_30 (by decide) rfl (fun c1 => absurd c1 (nI_ge (by omega) (by omega))) (fun c1 => ?_)
    refine Ex_aload_n 34 (i := 0) dX9_fresh_33 rfl rfl rfl ?_
    refine Ex_getR 37 dX9_fresh_34 fX9_93 (xMs_0 hm) rfl (xMr_39 hm) rfl ?_
    refine Ex_bipush 39 (v := 16) dX9_fresh_37 (by decide) rfl ?_
    refine Ex_iload_n 40 (i := 1) dX9_fresh_39 rfl rfl rfl ?_
    refine Ex_iadd 41 dX9_fresh_40 rfl ?_
    refine Ex_aload_n 42 (i := 0) dX9_fresh_41 rfl rfl rfl ?_
    refine Ex_getR 45 dX9_fresh_42 fX9_26 (xMs_0 hm) rfl (xMr_14 hm) rfl ?_
    refine Ex_iload_n 46 (i := 1) dX9_fresh_45 rfl rfl rfl ?_
    refine Ex_aI 47 i (I (m + 6) i) dX9_fresh_46 (xMs_6 hm) rfl (by omega) (by decide) (congrFun (va_up_ne _ _ (by omega)) _) rfl ?_
    rw [(ow i (by omega)).2.2.1]
    refine Ex_sI 48 (16 + i) r (va_up I (m + 28) (va_up r (16 + i) (hmKn O i))) dX9_fresh_47 (xMs_28 hm) (hm_ad rfl rfl) (by omega) (by decide) (va_up_self _ _ _) (va_up_up _ _ _ _) rfl ?_
    refine Ex_iinc 51 (v := (nI (i + 1))) (ls' := [some (.ref m), some (.int (nI (i + 1)))]) dX9_fresh_48 rfl (xinc _) (Nat.le_of_ble_eq_true rfl) rfl rfl rfl ?_
    refine Ex_goto 23 dX9_fresh_51 (by decide) ?_
    refine ih (i + 1) _ (by omega) ⟨fun k h1 h2 => ?_, fun w hw => ?_⟩
    · rw [va_up_ne _ _ (by omega)]
      exact hr.1 k h1 (by omega)
    · by_cases e : w = i
      · subst e
        rw [va_up_self]
      · rw [va_up_ne _ _ (by omega)]
        exact hr.2 w (by omega)
set_option maxHeartbeats 4000000 in
theorem mc_fresh_1 {d : Nat} {sh : xSh} {R : xR} {L : xL} {I : xI} {Q : xQ} {m : Nat} {O : hmO} (hm : xModel sh R m) (hO : hmMo I m O) (ho : hmOok O) (hQ : ∀ r, hmMr r (hmBegin O) → Q none 0 sh R L (va_up I (m + 28) r)) : ∀ n i r, n + i = 58 → (∀ k, k < i → r k = 0) → Ex d 0 0 MX9_fresh 0 sh R L (va_up I (m + 28) r) 2 [some (.ref m), some (.int (nI i))] [] Q := by
  intro n
  induction n with
  | zero =>
    intro i r hi hr
    refine Ex_iload_n 3 (i := 1) dX9_fresh_2 rfl rfl rfl ?_
    refine Ex_bipush 5 (v := 58) dX9_fresh_3 (by decide) rfl ?_
    refine Ex_icmp_ge 8 21 dX9_fresh_5 (by decide) rfl (fun c1 => ?_) (fun c1 => absurd c1 (fun q => q (nI_le (a := 58) (by omega) (by omega))))
    refine Ex_iconst 22 (v := 0) dX9_fresh_21 (by decide) rfl ?_
    refine Ex_istore_n 23 (i := 1) (ls' := [some (.ref m), some (.int 0)]) dX9_fresh_22 rfl (Nat.le_of_ble_eq_true rfl) rfl rfl rfl ?_
    exact mc_fresh_2 hm hO ho hQ (hmN O) 0 r (by omega) ⟨fun k h1 _ => hr k (by omega), fun w hw => absurd hw (by omega)⟩
  | succ n ih =>
    intro i r hi hr
    refine Ex_iload_n 3 (i := 1) dX9_fresh_2 rfl rfl rfl ?_
    refine Ex_bipush 5 (v := 58) dX9_fresh_3 (by decide) rfl ?_
    refine Ex_icmp_ge 8 21 dX9_fresh_5 (by decide) rfl (fun c1 => absurd c1 (nI_ge (b := 58) (by omega) (by omega))) (fun c1 => ?_)
    refine Ex_aload_n 9 (i := 0) dX9_fresh_8 rfl rfl rfl ?_
    refine Ex_getR 12 dX9_fresh_9 fX9_93 (xMs_0 hm) rfl (xMr_39 hm) rfl ?_
    refine Ex_iload_n 13 (i := 1) dX9_fresh_12 rfl rfl rfl ?_
    refine Ex_iconst 14 (v := 0) dX9_fresh_13 (by decide) rfl ?_
    refine Ex_sI 15 i r (va_up I (m + 28) (va_up r i 0)) dX9_fresh_14 (xMs_28 hm) rfl (by omega) (by decide) (va_up_self _ _ _) (va_up_up _ _ _ _) rfl ?_
    refine Ex_iinc 18 (v := (nI (i + 1))) (ls' := [some (.ref m), some (.int (nI (i + 1)))]) dX9_fresh_15 rfl (xinc _) (Nat.le_of_ble_eq_true rfl) rfl rfl rfl ?_
    refine Ex_goto 2 dX9_fresh_18 (by decide) ?_
    refine ih (i + 1) _ (by omega) (fun k hk => ?_)
    by_cases e : k = i
    · subst e
      rw [va_up_self]
    · rw [va_up_ne _ _ e]
      exact hr k (by omega)
set_option maxHeartbeats 4000000 in
theorem mc_fresh {d : Nat} {sh : xSh} {R : xR} {L : xL} {I : xI} {Q : xQ} {m : Nat} {O : hmO} (hm : xModel sh R m) (hO : hmMo I m O) (ho : hmOok O) (hQ : ∀ r, hmMr r (hmBegin O) → Q none 0 sh R L (va_up I (m + 28) r)) : Ex d 0 0 MX9_fresh 0 sh R L I 0 [some (.ref m), none] [] Q := by
  refine Ex_iconst 1 (v := 0) dX9_fresh_0 (by decide) rfl ?_
  refine Ex_istore_n 2 (i := 1) (ls' := [some (.ref m), some (.int 0)]) dX9_fresh_1 rfl (Nat.le_of_ble_eq_true rfl) rfl rfl rfl ?_
  refine Ex_I (I' := va_up I (m + 28) (I (m + 28))) (by rw [va_up_id]) ?_
  exact mc_fresh_1 hm hO ho hQ 58 0 (I (m + 28)) rfl (fun k hk => absurd hk (by omega))
/-- what a line of a day changes in the reference -/
def hmLf (m : Nat) (I I' : xI) : Prop := (∀ x, x ≠ m → x ≠ m + 28 → ¬ (m + 13 ≤ x ∧ x < m + 23) → I' x = I x) ∧ ∀ k, k ≠ 47 → k ≠ 48 → I' m k = I m k
theorem hmLf.rf {m : Nat} {I : xI} : hmLf m I I := ⟨fun _ _ _ _ => rfl, fun _ _ _ => rfl⟩
theorem hmLf.tr {m : Nat} {I J K : xI} (h1 : hmLf m I J) (h2 : hmLf m J K) : hmLf m I K := ⟨fun x a b c => (h2.1 x a b c).trans (h1.1 x a b c), fun k a b => (h2.2 k a b).trans (h1.2 k a b)⟩
theorem hmLf.fm {m : Nat} {I J : xI} (h1 : hmFm m I J) : hmLf m I J := ⟨fun x _ b c => h1 x b c, fun k _ _ => by rw [h1 m (by omega) (by omega)]⟩
theorem hmLf.um {m : Nat} {I J : xI} (h1 : hmLf m I J) {k : Nat} {v : Int32} (hk : k = 47 ∨ k = 48) : hmLf m I (va_up J m (va_up (J m) k v)) := ⟨fun x a b c => by rw [va_up_ne _ _ a]; exact h1.1 x a b c, fun j a b => by rw [va_up_self, va_up_ne _ _ (by omega)]; exact h1.2 j a b⟩
theorem hmSet_do {O : hmO} {tk : Nat} {x : Nat × Nat × Nat} {H : hmH} (h : x.1 < 3) : hmSet (hmDo O tk x H).1 = hmSet H := by
  unfold hmDo
  by_cases h0 : x.1 = 0
  · rw [if_pos h0]
    split <;> rfl
  · rw [if_neg h0]
    by_cases h1 : x.1 = 1
    · rw [if_pos h1]
      split
      · unfold hmLeave
        split <;> rfl
      · rfl
    · rw [if_neg h1, if_pos (by omega)]
      split
      · unfold hmSwap
        split <;> rfl
      · rfl
set_option maxHeartbeats 4000000 in
theorem mc_goes {d : Nat} {sh : xSh} {R : xR} {L : xL} {I : xI} {Q : xQ} {m : Nat} {O : hmO} {H : hmH} (hm : xModel sh R m) (hS : hmMr (I (m + 28)) H) (hO : hmMo I m O) (ho : hmOok O) (hok : hmOk O H) {D : hmDay} (hD : hmMd I m 0 D) (hDk : hmDok O D) {i tk : Nat} (hi : i < D.length) (htk : 1 ≤ tk) (htk2 : tk ≤ 20) (hmn : hmMin H < 800000) (h46 : I m 46 = nI tk) {f : Int32} (h48 : I m 48 = f) (hf : hmNg f) (hQ : ∀ I', hmLf m I I' → I' m 47 = I m 47 → hmMr (I' (m + 28)) (hmDo O tk (D.getD i (3, 0, 0)) H).1 → I' m 48 = (if ¬ hmSet (hmDo O tk (D.getD i (3, 0, 0)) H).1 = hmSet H ∧ f = -1 then nI i else f) → Q (some (.int (hmB (hmDo O tk (D.getD i (3, 0, 0)) H).2))) 0 sh R L I') : Ex (d + 7) 0 0 MX9_goes 0 sh R L I 0 [some (.ref m), some (.int (nI i)), none, none] [] Q := by
  obtain ⟨d1, d2, d3⟩ := id hD
  obtain ⟨l1, l2, l3⟩ := d3 i hi
  rw [Nat.mul_zero, Nat.zero_add] at l1 l2 l3
  have hmem := hDk _ (hm_day_mem hi)
  obtain ⟨⟨wh, a, b⟩, ex⟩ : ∃ x, D.getD i (3, 0, 0) = x := ⟨_, rfl⟩
  rw [ex] at l1 l2 l3 hmem hQ
  simp only at l1 l2 l3 hmem
  obtain ⟨m1, m2, m3⟩ := hmem
  have o6 := ho.1
  have s6 := hS.1
  have hlN : ∀ x, x ∈ hmLine H → x < 6 := fun x hx => by
    have := hok.2.1 x hx
    omega
  have h4 : wh = 0 ∨ wh = 1 ∨ wh = 2 ∨ wh = 3 := by omega
  rcases h4 with rfl | rfl | rfl | rfl
  · have ha := m2 (by omega)
    refine Ex_aload_n 1 (i := 0) dX9_goes_0 rfl rfl rfl ?_
    refine Ex_getR 4 dX9_goes_1 fX9_84 (xMs_0 hm) rfl (xMr_36 hm) rfl ?_
    refine Ex_iload_n 5 (i := 1) dX9_goes_4 rfl rfl rfl ?_
    refine Ex_aI 6 i (I (m + 25) i) dX9_goes_5 (xMs_25 hm) rfl (by omega) (by decide) rfl rfl ?_
    rw [l2 (by omega)]
    refine Ex_istore_n 7 (i := 2) (ls' := [some (.ref m), some (.int (nI i)), some (.int (nI a)), none]) dX9_goes_6 rfl (Nat.le_of_ble_eq_true rfl) rfl rfl rfl ?_
    refine Ex_aload_n 8 (i := 0) dX9_goes_7 rfl rfl rfl ?_
    refine Ex_getR 11 dX9_goes_8 fX9_81 (xMs_0 hm) rfl (xMr_35 hm) rfl ?_
    refine Ex_iload_n 12 (i := 1) dX9_goes_11 rfl rfl rfl ?_
    refine Ex_aI 13 i (I (m + 24) i) dX9_goes_12 (xMs_24 hm) rfl (by omega) (by decide) rfl rfl ?_
    rw [l1]
    refine Ex_istore_n 14 (i := 3) (ls' := [some (.ref m), some (.int (nI i)), some (.int (nI a)), some (.int 0)]) dX9_goes_13 rfl (Nat.le_of_ble_eq_true rfl) rfl rfl rfl ?_
    refine Ex_iload_n 15 (i := 3) dX9_goes_14 rfl rfl rfl ?_
    refine Ex_iconst 16 (v := 3) dX9_goes_15 (by decide) rfl ?_
    refine Ex_icmp_ne 19 41 dX9_goes_16 (by decide) rfl (fun c1 => ?_) (fun c1 => absurd c1 (by decide))
    refine Ex_iload_n 42 (i := 3) dX9_goes_41 rfl rfl rfl ?_
    refine Ex_if_ne 45 63 dX9_goes_42 (by decide) rfl (fun c2 => absurd c2 (fun q => q (by decide))) (fun c2 => ?_)
    refine Ex_aload_n 46 (i := 0) dX9_goes_45 rfl rfl rfl ?_
    refine Ex_iload_n 47 (i := 2) dX9_goes_46 rfl rfl rfl ?_
    refine Ex_callV (M' := MX9_canRing) 50 [.int (nI a)] (rest := []) dX9_goes_47 lX9_354 mX9_canRing rfl (xMs_0 hm) rfl (Nat.le_of_ble_eq_true rfl) (Nat.le_of_ble_eq_true rfl) rfl ?_
    refine mc_canRing hm hS (by omega) (fun x hx => by have := hlN x hx; omega) ?_
    simp only [Option.toList, List.cons_append, List.nil_append]
    refine Ex_if_ne 53 55 dX9_goes_50 (by decide) rfl (fun c3 => ?_) (fun c3 => ?_)
    · refine Ex_aload_n 56 (i := 0) dX9_goes_55 rfl rfl rfl ?_
      refine Ex_iload_n 57 (i := 2) dX9_goes_56 rfl rfl rfl ?_
      refine Ex_callV (M' := MX9_rings) 60 [.int (nI a)] (rest := []) dX9_goes_57 lX9_360 mX9_rings rfl (xMs_0 hm) rfl (Nat.le_of_ble_eq_true rfl) (Nat.le_of_ble_eq_true rfl) rfl ?_
      have hcan := hmB_ne c3
      have hni : a ∉ hmLine H := by
        have h2 : hmBit (hmSet H) a = false ∧ a ∉ hmLine H := by simpa [hmCanRing] using hcan
        exact h2.2
      have hroom := hmOk_room hok ho ha hni
      refine mc_rings hm hS (by omega) hroom (fun r' hr' => ?_)
      simp only [Option.toList, List.nil_append, List.cons_append]
      refine Ex_goto 113 dX9_goes_60 (by decide) ?_
      refine Ex_iconst 114 (v := 1) dX9_goes_113 (by decide) rfl ?_
      refine Ex_iret dX9_goes_114 rfl (by decide) (Or.inl rfl) ?_
      have e : hmDo O tk (0, a, b) H = (hmCome H a, true) := by
        show (if hmCanRing H a = true then _ else _) = _
        rw [if_pos hcan]
      rw [← h48] at hQ
      have hq := hQ (va_up I (m + 28) r') (hmLf.fm hmFm.u28) (by rw [va_up_ne _ _ (by omega)])
      rw [e] at hq
      refine hq (by rw [va_up_self]; exact hr') ?_
      rw [va_up_ne _ _ (by omega), if_neg (fun q => q.1 rfl)]
    · refine Ex_iconst 54 (v := 0) dX9_goes_53 (by decide) rfl ?_
      refine Ex_iret dX9_goes_54 rfl (by decide) (Or.inl rfl) ?_
      have hcf := hmB_eq c3
      have e : hmDo O tk (0, a, b) H = (H, false) := by
        show (if hmCanRing H a = true then _ else _) = _
        rw [hcf, if_neg (by decide)]
      rw [← h48] at hQ
      have hq := hQ I hmLf.rf rfl
      rw [e] at hq
      exact hq hS (by rw [if_neg (fun q => q.1 rfl)])
  · have ha := m2 (by omega)
    refine Ex_aload_n 1 (i := 0) dX9_goes_0 rfl rfl rfl ?_
    refine Ex_getR 4 dX9_goes_1 fX9_84 (xMs_0 hm) rfl (xMr_36 hm) rfl ?_
    refine Ex_iload_n 5 (i := 1) dX9_goes_4 rfl rfl rfl ?_
    refine Ex_aI 6 i (I (m + 25) i) dX9_goes_5 (xMs_25 hm) rfl (by omega) (by decide) rfl rfl ?_
    rw [l2 (by omega)]
    refine Ex_istore_n 7 (i := 2) (ls' := [some (.ref m), some (.int (nI i)), some (.int (nI a)), none]) dX9_goes_6 rfl (Nat.le_of_ble_eq_true rfl) rfl rfl rfl ?_
    refine Ex_aload_n 8 (i := 0) dX9_goes_7 rfl rfl rfl ?_
    refine Ex_getR 11 dX9_goes_8 fX9_81 (xMs_0 hm) rfl (xMr_35 hm) rfl ?_
    refine Ex_iload_n 12 (i := 1) dX9_goes_11 rfl rfl rfl ?_
    refine Ex_aI 13 i (I (m + 24) i) dX9_goes_12 (xMs_24 hm) rfl (by omega) (by decide) rfl rfl ?_
    rw [l1]
    refine Ex_istore_n 14 (i := 3) (ls' := [some (.ref m), some (.int (nI i)), some (.int (nI a)), some (.int 1)]) dX9_goes_13 rfl (Nat.le_of_ble_eq_true rfl) rfl rfl rfl ?_
    refine Ex_iload_n 15 (i := 3) dX9_goes_14 rfl rfl rfl ?_
    refine Ex_iconst 16 (v := 3) dX9_goes_15 (by decide) rfl ?_
    refine Ex_icmp_ne 19 41 dX9_goes_16 (by decide) rfl (fun c1 => ?_) (fun c1 => absurd c1 (by decide))
    refine Ex_iload_n 42 (i := 3) dX9_goes_41 rfl rfl rfl ?_
    refine Ex_if_ne 45 63 dX9_goes_42 (by decide) rfl (fun c2 => ?_) (fun c2 => absurd c2 (by decide))
    refine Ex_iload_n 64 (i := 3) dX9_goes_63 rfl rfl rfl ?_
    refine Ex_iconst 65 (v := 1) dX9_goes_64 (by decide) rfl ?_
    refine Ex_icmp_ne 68 86 dX9_goes_65 (by decide) rfl (fun c3 => absurd c3 (fun q => q (by decide))) (fun c3 => ?_)
    refine Ex_aload_n 69 (i := 0) dX9_goes_68 rfl rfl rfl ?_
    refine Ex_iload_n 70 (i := 2) dX9_goes_69 rfl rfl rfl ?_
    refine Ex_callV (M' := MX9_placeOf) 73 [.int (nI a)] (rest := []) dX9_goes_70 lX9_319 mX9_placeOf rfl (xMs_0 hm) rfl (Nat.le_of_ble_eq_true rfl) (Nat.le_of_ble_eq_true rfl) rfl ?_
    refine mc_placeOf hm hS (by omega) (fun x hx => by have := hlN x hx; omega) ?_
    simp only [Option.toList, List.cons_append, List.nil_append]
    refine Ex_if_ge 76 78 dX9_goes_73 (by decide) rfl (fun c4 => ?_) (fun c4 => ?_)
    · refine Ex_aload_n 79 (i := 0) dX9_goes_78 rfl rfl rfl ?_
      refine Ex_iload_n 80 (i := 2) dX9_goes_79 rfl rfl rfl ?_
      refine Ex_callV (M' := MX9_ends) 83 [.int (nI a)] (rest := []) dX9_goes_80 lX9_335 mX9_ends rfl (xMs_0 hm) rfl (Nat.le_of_ble_eq_true rfl) (Nat.le_of_ble_eq_true rfl) rfl ?_
      have hwm : a ∈ hmLine H := by
        by_cases z : a ∈ hmLine H
        · exact z
        · exact absurd ((hmPlc_lt (by omega)).mpr z) (Int32.not_lt.mpr c4)
      refine mc_ends hm hS hwm hlN (fun r' hr' => ?_)
      simp only [Option.toList, List.nil_append, List.cons_append]
      refine Ex_goto 113 dX9_goes_83 (by decide) ?_
      refine Ex_iconst 114 (v := 1) dX9_goes_113 (by decide) rfl ?_
      refine Ex_iret dX9_goes_114 rfl (by decide) (Or.inl rfl) ?_
      have e : hmDo O tk (1, a, b) H = (hmLeave H a, true) := by
        show (if a ∈ hmLine H then _ else _) = _
        rw [if_pos hwm]
      rw [← h48] at hQ
      have hq := hQ (va_up I (m + 28) r') (hmLf.fm hmFm.u28) (by rw [va_up_ne _ _ (by omega)])
      rw [e] at hq
      refine hq (by rw [va_up_self]; exact hr') ?_
      rw [va_up_ne _ _ (by omega), if_neg (fun q => q.1 (by unfold hmLeave; split <;> rfl))]
    · refine Ex_iconst 77 (v := 0) dX9_goes_76 (by decide) rfl ?_
      refine Ex_iret dX9_goes_77 rfl (by decide) (Or.inl rfl) ?_
      have hni := (hmPlc_lt (by omega)).mp (Int32.not_le.mp c4)
      have e : hmDo O tk (1, a, b) H = (H, false) := by
        show (if a ∈ hmLine H then _ else _) = _
        rw [if_neg hni]
      rw [← h48] at hQ
      have hq := hQ I hmLf.rf rfl
      rw [e] at hq
      exact hq hS (by rw [if_neg (fun q => q.1 rfl)])
  · have ha := m2 (by omega)
    obtain ⟨hb, hab⟩ := m3 rfl
    refine Ex_aload_n 1 (i := 0) dX9_goes_0 rfl rfl rfl ?_
    refine Ex_getR 4 dX9_goes_1 fX9_84 (xMs_0 hm) rfl (xMr_36 hm) rfl ?_
    refine Ex_iload_n 5 (i := 1) dX9_goes_4 rfl rfl rfl ?_
    refine Ex_aI 6 i (I (m + 25) i) dX9_goes_5 (xMs_25 hm) rfl (by omega) (by decide) rfl rfl ?_
    rw [l2 (by omega)]
    refine Ex_istore_n 7 (i := 2) (ls' := [some (.ref m), some (.int (nI i)), some (.int (nI a)), none]) dX9_goes_6 rfl (Nat.le_of_ble_eq_true rfl) rfl rfl rfl ?_
    refine Ex_aload_n 8 (i := 0) dX9_goes_7 rfl rfl rfl ?_
    refine Ex_getR 11 dX9_goes_8 fX9_81 (xMs_0 hm) rfl (xMr_35 hm) rfl ?_
    refine Ex_iload_n 12 (i := 1) dX9_goes_11 rfl rfl rfl ?_
    refine Ex_aI 13 i (I (m + 24) i) dX9_goes_12 (xMs_24 hm) rfl (by omega) (by decide) rfl rfl ?_
    rw [l1]
    refine Ex_istore_n 14 (i := 3) (ls' := [some (.ref m), some (.int (nI i)), some (.int (nI a)), some (.int 2)]) dX9_goes_13 rfl (Nat.le_of_ble_eq_true rfl) rfl rfl rfl ?_
    refine Ex_iload_n 15 (i := 3) dX9_goes_14 rfl rfl rfl ?_
    refine Ex_iconst 16 (v := 3) dX9_goes_15 (by decide) rfl ?_
    refine Ex_icmp_ne 19 41 dX9_goes_16 (by decide) rfl (fun c1 => ?_) (fun c1 => absurd c1 (by decide))
    refine Ex_iload_n 42 (i := 3) dX9_goes_41 rfl rfl rfl ?_
    refine Ex_if_ne 45 63 dX9_goes_42 (by decide) rfl (fun c2 => ?_) (fun c2 => absurd c2 (by decide))
    refine Ex_iload_n 64 (i := 3) dX9_goes_63 rfl rfl rfl ?_
    refine Ex_iconst 65 (v := 1) dX9_goes_64 (by decide) rfl ?_
    refine Ex_icmp_ne 68 86 dX9_goes_65 (by decide) rfl (fun c3 => ?_) (fun c3 => absurd c3 (by decide))
    refine Ex_aload_n 87 (i := 0) dX9_goes_86 rfl rfl rfl ?_
    refine Ex_iload_n 88 (i := 2) dX9_goes_87 rfl rfl rfl ?_
    refine Ex_aload_n 89 (i := 0) dX9_goes_88 rfl rfl rfl ?_
    refine Ex_getR 92 dX9_goes_89 fX9_87 (xMs_0 hm) rfl (xMr_37 hm) rfl ?_
    refine Ex_iload_n 93 (i := 1) dX9_goes_92 rfl rfl rfl ?_
    refine Ex_aI 94 i (I (m + 26) i) dX9_goes_93 (xMs_26 hm) rfl (by omega) (by decide) rfl rfl ?_
    rw [l3 rfl]
    refine Ex_callV (M' := MX9_canSwap) 97 [.int (nI a), .int (nI b)] (rest := []) dX9_goes_94 lX9_363 mX9_canSwap rfl (xMs_0 hm) rfl (Nat.le_of_ble_eq_true rfl) (Nat.le_of_ble_eq_true rfl) rfl ?_
    refine mc_canSwap hm hS hO ho hok (by omega) (by omega) ?_
    simp only [Option.toList, List.cons_append, List.nil_append]
    refine Ex_if_ne 100 102 dX9_goes_97 (by decide) rfl (fun c4 => ?_) (fun c4 => ?_)
    · refine Ex_aload_n 103 (i := 0) dX9_goes_102 rfl rfl rfl ?_
      refine Ex_iload_n 104 (i := 2) dX9_goes_103 rfl rfl rfl ?_
      refine Ex_aload_n 105 (i := 0) dX9_goes_104 rfl rfl rfl ?_
      refine Ex_getR 108 dX9_goes_105 fX9_87 (xMs_0 hm) rfl (xMr_37 hm) rfl ?_
      refine Ex_iload_n 109 (i := 1) dX9_goes_108 rfl rfl rfl ?_
      refine Ex_aI 110 i (I (m + 26) i) dX9_goes_109 (xMs_26 hm) rfl (by omega) (by decide) rfl rfl ?_
      rw [l3 rfl]
      refine Ex_callV (M' := MX9_swaps) 113 [.int (nI a), .int (nI b)] (rest := []) dX9_goes_110 lX9_366 mX9_swaps rfl (xMs_0 hm) rfl (Nat.le_of_ble_eq_true rfl) (Nat.le_of_ble_eq_true rfl) rfl ?_
      have hcs2 : (a ≠ b ∧ a ∈ hmLine H) ∧ b ∈ hmLine H := by simpa [hmCanSwap] using hmB_ne c4
      refine mc_swaps hm hS hcs2.1.2 hcs2.2 hlN hok.1 (fun r' hr' => ?_)
      simp only [Option.toList, List.nil_append, List.cons_append]
      refine Ex_iconst 114 (v := 1) dX9_goes_113 (by decide) rfl ?_
      refine Ex_iret dX9_goes_114 rfl (by decide) (Or.inl rfl) ?_
      have e : hmDo O tk (2, a, b) H = (hmSwap H a b, true) := by
        show (if a ∈ hmLine H ∧ b ∈ hmLine H then _ else _) = _
        rw [if_pos ⟨hcs2.1.2, hcs2.2⟩]
      rw [← h48] at hQ
      have hq := hQ (va_up I (m + 28) r') (hmLf.fm hmFm.u28) (by rw [va_up_ne _ _ (by omega)])
      rw [e] at hq
      refine hq (by rw [va_up_self]; exact hr') ?_
      rw [va_up_ne _ _ (by omega), if_neg (fun q => q.1 (by unfold hmSwap; split <;> rfl))]
    · refine Ex_iconst 101 (v := 0) dX9_goes_100 (by decide) rfl ?_
      refine Ex_iret dX9_goes_101 rfl (by decide) (Or.inl rfl) ?_
      have hni : ¬ (a ∈ hmLine H ∧ b ∈ hmLine H) := fun z => by
        have h1 := hmB_eq c4
        simp [hmCanSwap, z.1, z.2, hab] at h1
      have e : hmDo O tk (2, a, b) H = (H, false) := by
        show (if a ∈ hmLine H ∧ b ∈ hmLine H then _ else _) = _
        rw [if_neg hni]
      rw [← h48] at hQ
      have hq := hQ I hmLf.rf rfl
      rw [e] at hq
      exact hq hS (by rw [if_neg (fun q => q.1 rfl)])
  · skip
    refine Ex_aload_n 1 (i := 0) dX9_goes_0 rfl rfl rfl ?_
    refine Ex_getR 4 dX9_goes_1 fX9_84 (xMs_0 hm) rfl (xMr_36 hm) rfl ?_
    refine Ex_iload_n 5 (i := 1) dX9_goes_4 rfl rfl rfl ?_
    refine Ex_aI 6 i (I (m + 25) i) dX9_goes_5 (xMs_25 hm) rfl (by omega) (by decide) rfl rfl ?_
    refine Ex_istore_n 7 (i := 2) (ls' := [some (.ref m), some (.int (nI i)), some (.int (I (m + 25) i)), none]) dX9_goes_6 rfl (Nat.le_of_ble_eq_true rfl) rfl rfl rfl ?_
    refine Ex_aload_n 8 (i := 0) dX9_goes_7 rfl rfl rfl ?_
    refine Ex_getR 11 dX9_goes_8 fX9_81 (xMs_0 hm) rfl (xMr_35 hm) rfl ?_
    refine Ex_iload_n 12 (i := 1) dX9_goes_11 rfl rfl rfl ?_
    refine Ex_aI 13 i (I (m + 24) i) dX9_goes_12 (xMs_24 hm) rfl (by omega) (by decide) rfl rfl ?_
    rw [l1]
    refine Ex_istore_n 14 (i := 3) (ls' := [some (.ref m), some (.int (nI i)), some (.int (I (m + 25) i)), some (.int 3)]) dX9_goes_13 rfl (Nat.le_of_ble_eq_true rfl) rfl rfl rfl ?_
    refine Ex_iload_n 15 (i := 3) dX9_goes_14 rfl rfl rfl ?_
    refine Ex_iconst 16 (v := 3) dX9_goes_15 (by decide) rfl ?_
    refine Ex_icmp_ne 19 41 dX9_goes_16 (by decide) rfl (fun c1 => absurd c1 (fun q => q (by decide))) (fun c1 => ?_)
    refine Ex_aload_n 20 (i := 0) dX9_goes_19 rfl rfl rfl ?_
    refine Ex_callV (M' := MX9_passes) 23 [] (rest := []) dX9_goes_20 lX9_369 mX9_passes rfl (xMs_0 hm) rfl (Nat.le_of_ble_eq_true rfl) (Nat.le_of_ble_eq_true rfl) rfl ?_
    refine mc_passes hm hS hO ho hok h46 htk htk2 (by omega) (fun I1 hF1 hS1 => ?_)
    have e48 : I1 m 48 = f := by rw [hF1 m (by omega) (by omega)]; exact h48
    have e47 : I1 m 47 = I m 47 := by rw [hF1 m (by omega) (by omega)]
    have hdf := hm_diff0 (hmOk_minute (tk := tk) hok ho).2.2.2.1 hok.2.2.2.1 (fun c hc hb => hmMinute_set (tk := tk) hok ho hc hb)
    have e : hmDo O tk (3, a, b) H = (hmMinute O tk H, true) := rfl
    rw [e] at hQ
    simp only [Option.toList, List.nil_append, List.cons_append]
    refine Ex_if_eq 26 113 dX9_goes_23 (by decide) rfl (fun c2 => ?_) (fun c2 => ?_)
    · refine Ex_iconst 114 (v := 1) dX9_goes_113 (by decide) rfl ?_
      refine Ex_iret dX9_goes_114 rfl (by decide) (Or.inl rfl) ?_
      exact hQ I1 (hmLf.fm hF1) e47 hS1 (by rw [e48, if_neg (fun q => q.1 (hdf.mp c2))])
    · refine Ex_aload_n 27 (i := 0) dX9_goes_26 rfl rfl rfl ?_
      refine Ex_gI 30 (I1 m 48) dX9_goes_27 fX9_372 (xMs_0 hm) rfl rfl rfl ?_
      rw [e48]
      refine Ex_if_ge 33 113 dX9_goes_30 (by decide) rfl (fun c3 => ?_) (fun c3 => ?_)
      · refine Ex_iconst 114 (v := 1) dX9_goes_113 (by decide) rfl ?_
        refine Ex_iret dX9_goes_114 rfl (by decide) (Or.inl rfl) ?_
        exact hQ I1 (hmLf.fm hF1) e47 hS1 (by rw [e48, if_neg (fun q => absurd ((hmNg_lt hf).mpr q.2) (Int32.not_lt.mpr c3))])
      · refine Ex_aload_n 34 (i := 0) dX9_goes_33 rfl rfl rfl ?_
        refine Ex_iload_n 35 (i := 1) dX9_goes_34 rfl rfl rfl ?_
        refine Ex_pI 38 (I1 m) (va_up I1 m (va_up (I1 m) 48 (nI i))) dX9_goes_35 fX9_372 rfl (xMs_0 hm) rfl (fun _ => rfl) rfl rfl rfl rfl ?_
        refine Ex_goto 113 dX9_goes_38 (by decide) ?_
        refine Ex_iconst 114 (v := 1) dX9_goes_113 (by decide) rfl ?_
        refine Ex_iret dX9_goes_114 rfl (by decide) (Or.inl rfl) ?_
        refine hQ _ (hmLf.um (hmLf.fm hF1) (Or.inr rfl)) (by rw [va_up_self, va_up_ne _ _ (by omega)]; exact e47) (by rw [va_up_ne _ _ (by omega)]; exact hS1) ?_
        rw [va_up_self, va_up_self, if_pos ⟨fun q => c2 (hdf.mpr q), (hmNg_lt hf).mp (Int32.not_le.mp c3)⟩]
set_option maxHeartbeats 4000000 in
theorem mc_judges_loop {d : Nat} {sh : xSh} {R : xR} {L : xL} {I : xI} {Q : xQ} {m : Nat} {O : hmO} (hm : xModel sh R m) (hO : hmMo I m O) (ho : hmOok O) {D : hmDay} (hD : hmMd I m 0 D) (hDk : hmDok O D) {tk : Nat} (htk : 1 ≤ tk) (htk2 : tk ≤ 20) (hE : ∀ J, hmLf m I J → hmMr (J (m + 28)) (hmJd O tk D D.length).1 → J m 47 = (hmJd O tk D D.length).2.1 → J m 48 = (hmJd O tk D D.length).2.2 → Ex (d + 8) 0 0 MX9_judges 0 sh R L J 70 [some (.ref m), some (.int (nI tk)), none] [] Q) : ∀ n i J, n + i = D.length → hmLf m I J → hmMr (J (m + 28)) (hmJd O tk D i).1 → J m 46 = nI tk → J m 47 = (hmJd O tk D i).2.1 → J m 48 = (hmJd O tk D i).2.2 → Ex (d + 8) 0 0 MX9_judges 0 sh R L J 34 [some (.ref m), some (.int (nI tk)), some (.int (nI i))] [] Q := by
  intro n
  induction n with
  | zero =>
    intro i J hi gJ hSJ j46 j47 j48
    have hOJ : hmMo J m O := hO.kept (fun x a b => gJ.1 x (by omega) (by omega) (by omega))
    have hDJ : hmMd J m 0 D := hD.kept (fun x a b => gJ.1 x (by omega) (by omega) (by omega))
    obtain ⟨hokJ, hmJ⟩ := hmOk_jd (tk := tk) ho hDk i (by omega)
    have d40 := hDJ.1
    have hlJ := hDJ.2.1
    obtain ⟨hn1, hn2⟩ := hmNg_jd (O := O) (tk := tk) d40 i (by omega)
    refine Ex_iload_n 35 (i := 2) dX9_judges_34 rfl rfl rfl ?_
    refine Ex_aload_n 36 (i := 0) dX9_judges_35 rfl rfl rfl ?_
    refine Ex_getR 39 dX9_judges_36 fX9_78 (xMs_0 hm) rfl (xMr_34 hm) rfl ?_
    refine Ex_iconst 40 (v := 0) dX9_judges_39 (by decide) rfl ?_
    refine Ex_aI 41 0 (J (m + 23) 0) dX9_judges_40 (xMs_23 hm) rfl (by decide) (by decide) rfl rfl ?_
    rw [hlJ]
    refine Ex_icmp_ge 44 70 dX9_judges_41 (by decide) rfl (fun c1 => ?_) (fun c1 => absurd c1 (fun q => q (nI_le (by omega) (by omega))))
    refine Ex_fgt (ls' := [some (.ref m), some (.int (nI tk)), none]) (by simp [xsub]) ?_
    have hiD : i = D.length := by omega
    subst hiD
    exact hE J gJ hSJ j47 j48
  | succ n ih =>
    intro i J hi gJ hSJ j46 j47 j48
    have hOJ : hmMo J m O := hO.kept (fun x a b => gJ.1 x (by omega) (by omega) (by omega))
    have hDJ : hmMd J m 0 D := hD.kept (fun x a b => gJ.1 x (by omega) (by omega) (by omega))
    obtain ⟨hokJ, hmJ⟩ := hmOk_jd (tk := tk) ho hDk i (by omega)
    have d40 := hDJ.1
    have hlJ := hDJ.2.1
    obtain ⟨hn1, hn2⟩ := hmNg_jd (O := O) (tk := tk) d40 i (by omega)
    refine Ex_iload_n 35 (i := 2) dX9_judges_34 rfl rfl rfl ?_
    refine Ex_aload_n 36 (i := 0) dX9_judges_35 rfl rfl rfl ?_
    refine Ex_getR 39 dX9_judges_36 fX9_78 (xMs_0 hm) rfl (xMr_34 hm) rfl ?_
    refine Ex_iconst 40 (v := 0) dX9_judges_39 (by decide) rfl ?_
    refine Ex_aI 41 0 (J (m + 23) 0) dX9_judges_40 (xMs_23 hm) rfl (by decide) (by decide) rfl rfl ?_
    rw [hlJ]
    refine Ex_icmp_ge 44 70 dX9_judges_41 (by decide) rfl (fun c1 => absurd c1 (nI_ge (by omega) (by omega))) (fun c1 => ?_)
    refine Ex_aload_n 45 (i := 0) dX9_judges_44 rfl rfl rfl ?_
    refine Ex_iload_n 46 (i := 2) dX9_judges_45 rfl rfl rfl ?_
    refine Ex_callV (M' := MX9_goes) 49 [.int (nI i)] (rest := []) dX9_judges_46 lX9_378 mX9_goes rfl (xMs_0 hm) rfl (Nat.le_of_ble_eq_true rfl) (Nat.le_of_ble_eq_true rfl) rfl ?_
    refine mc_goes hm hSJ hOJ ho hokJ hDJ hDk (show i < D.length by omega) htk htk2 (by omega) j46 j48 hn2 (fun I1 g1 e47 hS1 e48 => ?_)
    have gJ1 := gJ.tr g1
    have f46 : I1 m 46 = nI tk := by rw [g1.2 46 (by omega) (by omega)]; exact j46
    have f47 : I1 m 47 = (hmJd O tk D i).2.1 := e47.trans j47
    simp only [Option.toList, List.nil_append, List.cons_append]
    refine Ex_if_ne 52 64 dX9_judges_49 (by decide) rfl (fun c2 => ?_) (fun c2 => ?_)
    · refine Ex_iinc 67 (v := (nI (i + 1))) (ls' := [some (.ref m), some (.int (nI tk)), some (.int (nI (i + 1)))]) dX9_judges_64 rfl (xinc _) (Nat.le_of_ble_eq_true rfl) rfl rfl rfl ?_
      refine Ex_goto 34 dX9_judges_67 (by decide) ?_
      have e1 : (hmJd O tk D (i + 1)).2.1 = (hmJd O tk D i).2.1 := by
        show (if (hmDo O tk (D.getD i (3, 0, 0)) (hmJd O tk D i).1).2 = false ∧ (hmJd O tk D i).2.1 = -1 then _ else _) = _
        rw [if_neg (fun q => absurd (hmB_ne c2) (by rw [q.1]; decide))]
      exact ih (i + 1) I1 (by omega) gJ1 hS1 f46 (by rw [e1]; exact f47) e48
    · refine Ex_aload_n 53 (i := 0) dX9_judges_52 rfl rfl rfl ?_
      refine Ex_gI 56 (I1 m 47) dX9_judges_53 fX9_375 (xMs_0 hm) rfl rfl rfl ?_
      rw [f47]
      refine Ex_if_ge 59 64 dX9_judges_56 (by decide) rfl (fun c3 => ?_) (fun c3 => ?_)
      · refine Ex_iinc 67 (v := (nI (i + 1))) (ls' := [some (.ref m), some (.int (nI tk)), some (.int (nI (i + 1)))]) dX9_judges_64 rfl (xinc _) (Nat.le_of_ble_eq_true rfl) rfl rfl rfl ?_
        refine Ex_goto 34 dX9_judges_67 (by decide) ?_
        have e1 : (hmJd O tk D (i + 1)).2.1 = (hmJd O tk D i).2.1 := by
          show (if (hmDo O tk (D.getD i (3, 0, 0)) (hmJd O tk D i).1).2 = false ∧ (hmJd O tk D i).2.1 = -1 then _ else _) = _
          rw [if_neg (fun q => absurd ((hmNg_lt hn1).mpr q.2) (Int32.not_lt.mpr c3))]
        exact ih (i + 1) I1 (by omega) gJ1 hS1 f46 (by rw [e1]; exact f47) e48
      · refine Ex_aload_n 60 (i := 0) dX9_judges_59 rfl rfl rfl ?_
        refine Ex_iload_n 61 (i := 2) dX9_judges_60 rfl rfl rfl ?_
        refine Ex_pI 64 (I1 m) (va_up I1 m (va_up (I1 m) 47 (nI i))) dX9_judges_61 fX9_375 rfl (xMs_0 hm) rfl (fun _ => rfl) rfl rfl rfl rfl ?_
        refine Ex_iinc 67 (v := (nI (i + 1))) (ls' := [some (.ref m), some (.int (nI tk)), some (.int (nI (i + 1)))]) dX9_judges_64 rfl (xinc _) (Nat.le_of_ble_eq_true rfl) rfl rfl rfl ?_
        refine Ex_goto 34 dX9_judges_67 (by decide) ?_
        have e1 : (hmJd O tk D (i + 1)).2.1 = nI i := by
          show (if (hmDo O tk (D.getD i (3, 0, 0)) (hmJd O tk D i).1).2 = false ∧ (hmJd O tk D i).2.1 = -1 then _ else _) = _
          rw [if_pos ⟨hmB_eq c2, (hmNg_lt hn1).mp (Int32.not_le.mp c3)⟩]
        exact ih (i + 1) _ (by omega) (hmLf.um gJ1 (Or.inl rfl)) (by rw [va_up_ne _ _ (by omega)]; exact hS1) (by rw [va_up_self, va_up_ne _ _ (by omega)]; exact f46) (by rw [va_up_self, va_up_self, e1]) (by rw [va_up_self, va_up_ne _ _ (by omega)]; exact e48)
set_option maxHeartbeats 4000000 in
theorem mc_judges {d : Nat} {sh : xSh} {R : xR} {L : xL} {I : xI} {Q : xQ} {m : Nat} {O : hmO} {H : hmH} (hm : xModel sh R m) (hS : hmMr (I (m + 28)) H) (hO : hmMo I m O) (ho : hmOok O) {D : hmDay} (hD : hmMd I m 0 D) (hDk : hmDok O D) (h46 : I m 46 = nI (hmTk O)) {tk : Nat} (htk : 1 ≤ tk) (htk2 : tk ≤ 20) (hQ : ∀ I', hmMg m I I' → hmMr (I' (m + 28)) H → I' m 47 = (hmJd O tk D D.length).2.1 → I' m 48 = (hmJd O tk D D.length).2.2 → Q (some (.int (hmCnt (hmSet (hmJd O tk D D.length).1)))) 0 sh R L I') : Ex (d + 8) 0 0 MX9_judges 0 sh R L I 0 [some (.ref m), some (.int (nI tk)), none] [] Q := by
  refine Ex_aload_n 1 (i := 0) dX9_judges_0 rfl rfl rfl ?_
  refine Ex_getR 4 dX9_judges_1 fX9_93 (xMs_0 hm) rfl (xMr_39 hm) rfl ?_
  refine Ex_iconst 5 (v := 0) dX9_judges_4 (by decide) rfl ?_
  refine Ex_aload_n 6 (i := 0) dX9_judges_5 rfl rfl rfl ?_
  refine Ex_getR 9 dX9_judges_6 fX9_96 (xMs_0 hm) rfl (xMr_40 hm) rfl ?_
  refine Ex_iconst 10 (v := 0) dX9_judges_9 (by decide) rfl ?_
  refine Ex_callS (M' := MX9_copies) 13 [.ref (m + 28), .int 0, .ref (m + 29), .int 0] (rest := []) dX9_judges_10 lX9_350 mX9_copies rfl rfl (Nat.le_of_ble_eq_true rfl) (Nat.le_of_ble_eq_true rfl) rfl ?_
  refine mc_cp (np := 58) (nq := 58) (a := 0) (b := 0) (J := (va_up I (m + 29) (va_cpy (I (m + 28)) (I (m + 29)) 0 0 58))) (xMs_28 hm) (xMs_29 hm) (by omega) (by omega) (by omega) (by omega) (by omega) rfl rfl rfl ?_
  simp only [Option.toList, List.nil_append, List.cons_append]
  refine Ex_aload_n 14 (i := 0) dX9_judges_13 rfl rfl rfl ?_
  refine Ex_callV (M' := MX9_fresh) 17 [] (rest := []) dX9_judges_14 lX9_303 mX9_fresh rfl (xMs_0 hm) rfl (Nat.le_of_ble_eq_true rfl) (Nat.le_of_ble_eq_true rfl) rfl ?_
  refine mc_fresh hm (hO.kept (fun x a b => va_up_ne _ _ (by omega))) ho (fun r hr => ?_)
  simp only [Option.toList, List.nil_append, List.cons_append]
  refine Ex_aload_n 18 (i := 0) dX9_judges_17 rfl rfl rfl ?_
  refine Ex_iload_n 19 (i := 1) dX9_judges_18 rfl rfl rfl ?_
  refine Ex_pI 22 (I m) (va_up (va_up (va_up I (m + 29) (va_cpy (I (m + 28)) (I (m + 29)) 0 0 58)) (m + 28) r) m (va_up (I m) 46 (nI tk))) dX9_judges_19 fX9_123 rfl (xMs_0 hm) rfl (fun _ => rfl) ((va_up_ne _ _ (by omega)).trans (va_up_ne _ _ (by omega))) rfl rfl rfl ?_
  refine Ex_aload_n 23 (i := 0) dX9_judges_22 rfl rfl rfl ?_
  refine Ex_iconst 24 (v := (-1)) dX9_judges_23 (by decide) rfl ?_
  refine Ex_pI 27 (va_up (I m) 46 (nI tk)) (va_up (va_up (va_up I (m + 29) (va_cpy (I (m + 28)) (I (m + 29)) 0 0 58)) (m + 28) r) m (va_up (va_up (I m) 46 (nI tk)) 47 (-1))) dX9_judges_24 fX9_375 rfl (xMs_0 hm) rfl (fun _ => rfl) (va_up_self _ _ _) rfl (va_up_up _ _ _ _) rfl ?_
  refine Ex_aload_n 28 (i := 0) dX9_judges_27 rfl rfl rfl ?_
  refine Ex_iconst 29 (v := (-1)) dX9_judges_28 (by decide) rfl ?_
  refine Ex_pI 32 (va_up (va_up (I m) 46 (nI tk)) 47 (-1)) (va_up (va_up (va_up I (m + 29) (va_cpy (I (m + 28)) (I (m + 29)) 0 0 58)) (m + 28) r) m (va_up (va_up (va_up (I m) 46 (nI tk)) 47 (-1)) 48 (-1))) dX9_judges_29 fX9_372 rfl (xMs_0 hm) rfl (fun _ => rfl) (va_up_self _ _ _) rfl (va_up_up _ _ _ _) rfl ?_
  refine Ex_iconst 33 (v := 0) dX9_judges_32 (by decide) rfl ?_
  refine Ex_istore_n 34 (i := 2) (ls' := [some (.ref m), some (.int (nI tk)), some (.int 0)]) dX9_judges_33 rfl (Nat.le_of_ble_eq_true rfl) rfl rfl rfl ?_
  refine mc_judges_loop hm (hO.kept (fun x a b => by rw [va_up_ne _ _ (by omega), va_up_ne _ _ (by omega), va_up_ne _ _ (by omega)])) ho (hD.kept (fun x a b => by rw [va_up_ne _ _ (by omega), va_up_ne _ _ (by omega), va_up_ne _ _ (by omega)])) hDk htk htk2 (fun J gJ hSJ j47 j48 => ?_) D.length 0 _ (by omega) hmLf.rf (by rw [va_up_ne _ _ (by omega), va_up_self]; exact hr) (by rw [va_up_self, va_up_ne _ _ (by omega), va_up_ne _ _ (by omega), va_up_self]) (by rw [va_up_self, va_up_ne _ _ (by omega), va_up_self]; rfl) (by rw [va_up_self, va_up_self]; rfl)
  have hOJ : hmMo J m O := hO.kept (fun x a b => by rw [gJ.1 x (by omega) (by omega) (by omega), va_up_ne _ _ (by omega), va_up_ne _ _ (by omega), va_up_ne _ _ (by omega)])
  refine Ex_aload_n 71 (i := 0) dX9_judges_70 rfl rfl rfl ?_
  refine Ex_getR 74 dX9_judges_71 fX9_93 (xMs_0 hm) rfl (xMr_39 hm) rfl ?_
  refine Ex_iconst 75 (v := 2) dX9_judges_74 (by decide) rfl ?_
  refine Ex_aI 76 2 (J (m + 28) 2) dX9_judges_75 (xMs_28 hm) rfl (by decide) (by decide) rfl rfl ?_
  rw [hSJ.2.2.2.1]
  refine Ex_callS (M' := MX9_bits) 79 [.int (hmSet (hmJd O tk D D.length).1)] (rest := []) dX9_judges_76 lX9_322 mX9_bits rfl rfl (Nat.le_of_ble_eq_true rfl) (Nat.le_of_ble_eq_true rfl) rfl ?_
  refine mc_bits ?_
  simp only [Option.toList, List.cons_append, List.nil_append]
  refine Ex_istore_n 80 (i := 2) (ls' := [some (.ref m), some (.int (nI tk)), some (.int (hmCnt (hmSet (hmJd O tk D D.length).1)))]) dX9_judges_79 rfl (Nat.le_of_ble_eq_true rfl) rfl rfl rfl ?_
  refine Ex_aload_n 81 (i := 0) dX9_judges_80 rfl rfl rfl ?_
  refine Ex_aload_n 82 (i := 0) dX9_judges_81 rfl rfl rfl ?_
  refine Ex_getR 85 dX9_judges_82 fX9_13 (xMs_0 hm) rfl (xMr_10 hm) rfl ?_
  refine Ex_iconst 86 (v := 1) dX9_judges_85 (by decide) rfl ?_
  refine Ex_aI 87 1 (J (m + 2) 1) dX9_judges_86 (xMs_2 hm) rfl (by decide) (by decide) rfl rfl ?_
  rw [hOJ.2.1]
  refine Ex_pI 90 (J m) (va_up J m (va_up (J m) 46 (nI (hmTk O)))) dX9_judges_87 fX9_123 rfl (xMs_0 hm) rfl (fun _ => rfl) rfl rfl rfl rfl ?_
  refine Ex_aload_n 91 (i := 0) dX9_judges_90 rfl rfl rfl ?_
  refine Ex_getR 94 dX9_judges_91 fX9_96 (xMs_0 hm) rfl (xMr_40 hm) rfl ?_
  refine Ex_iconst 95 (v := 0) dX9_judges_94 (by decide) rfl ?_
  refine Ex_aload_n 96 (i := 0) dX9_judges_95 rfl rfl rfl ?_
  refine Ex_getR 99 dX9_judges_96 fX9_93 (xMs_0 hm) rfl (xMr_39 hm) rfl ?_
  refine Ex_iconst 100 (v := 0) dX9_judges_99 (by decide) rfl ?_
  refine Ex_callS (M' := MX9_copies) 103 [.ref (m + 29), .int 0, .ref (m + 28), .int 0] (rest := []) dX9_judges_100 lX9_350 mX9_copies rfl rfl (Nat.le_of_ble_eq_true rfl) (Nat.le_of_ble_eq_true rfl) rfl ?_
  refine mc_cp (np := 58) (nq := 58) (a := 0) (b := 0) (J := (va_up (va_up J m (va_up (J m) 46 (nI (hmTk O)))) (m + 28) (va_cpy (J (m + 29)) (J (m + 28)) 0 0 58))) (xMs_29 hm) (xMs_28 hm) (by omega) (by omega) (by omega) (by omega) (by omega) (va_up_ne _ _ (by omega)) (va_up_ne _ _ (by omega)) rfl ?_
  simp only [Option.toList, List.nil_append, List.cons_append]
  refine Ex_iload_n 104 (i := 2) dX9_judges_103 rfl rfl rfl ?_
  refine Ex_iret dX9_judges_104 rfl rfl (Or.inl rfl) ?_
  have e29 : J (m + 29) = va_cpy (I (m + 28)) (I (m + 29)) 0 0 58 := by
    rw [gJ.1 (m + 29) (by omega) (by omega) (by omega), va_up_ne _ _ (by omega), va_up_ne _ _ (by omega), va_up_self]
  refine hQ _ ⟨fun x hx => ?_, ?_, ?_, ?_, ?_⟩ ?_ ?_ ?_
  · have hx2 : ¬ (x = m ∨ (m + 11 ≤ x ∧ x < m + 23) ∨ (m + 28 ≤ x ∧ x < m + 31) ∨ (m + 34 ≤ x ∧ x < m + 38)) := hx
    rw [va_up_ne _ _ (by omega), va_up_ne _ _ (by omega), gJ.1 x (by omega) (by omega) (by omega), va_up_ne _ _ (by omega), va_up_ne _ _ (by omega), va_up_ne _ _ (by omega)]
  · rw [va_up_ne _ _ (by omega), va_up_self, va_up_ne _ _ (by omega), gJ.2 0 (by omega) (by omega), va_up_self, va_up_ne _ _ (by omega), va_up_ne _ _ (by omega), va_up_ne _ _ (by omega)]
  · rw [va_up_ne _ _ (by omega), va_up_self, va_up_ne _ _ (by omega), gJ.2 1 (by omega) (by omega), va_up_self, va_up_ne _ _ (by omega), va_up_ne _ _ (by omega), va_up_ne _ _ (by omega)]
  · rw [va_up_ne _ _ (by omega), va_up_self, va_up_ne _ _ (by omega), gJ.2 45 (by omega) (by omega), va_up_self, va_up_ne _ _ (by omega), va_up_ne _ _ (by omega), va_up_ne _ _ (by omega)]
  · rw [va_up_ne _ _ (by omega), va_up_self, va_up_self]
    exact h46.symm
  · rw [va_up_self, e29]
    exact hS.cpy rfl _
  · rw [va_up_ne _ _ (by omega), va_up_self, va_up_ne _ _ (by omega)]
    exact j47
  · rw [va_up_ne _ _ (by omega), va_up_self, va_up_ne _ _ (by omega)]
    exact j48
set_option maxHeartbeats 4000000 in
theorem mb_judged {d : Nat} {sh : xSh} {R : xR} {L : xL} {I : xI} {Q : xQ} {m : Nat} {O : hmO} {H : hmH} (hm : xModel sh R m) (hS : hmMr (I (m + 28)) H) (hO : hmMo I m O) (ho : hmOok O) {D : hmDay} (hD : hmMd I m 0 D) (hDk : hmDok O D) (h46 : I m 46 = nI (hmTk O)) {qv : Int32} (hQ : ∀ I', hmMg m I I' → hmMr (I' (m + 28)) H → Q (some (.int (spJudged O D qv))) 0 sh R L I') : Ex (d + 9) 0 0 MX9_judged 0 sh R L I 5 [some (.ref m), some (.int qv), none] [] Q := by
  refine Ex_iload_n 6 (i := 1) dX9_judged_5 rfl rfl rfl ?_
  refine Ex_iconst 7 (v := 0) dX9_judged_6 (by decide) rfl ?_
  refine Ex_iconst 8 (v := 2) dX9_judged_7 (by decide) rfl ?_
  refine Ex_callS (M' := MX9_within) 11 [.int qv, .int 0, .int 2] (rest := []) dX9_judged_8 lX9_244 mX9_within rfl rfl (Nat.le_of_ble_eq_true rfl) (Nat.le_of_ble_eq_true rfl) rfl ?_
  refine mc_within ?_
  simp only [Option.toList, List.cons_append, List.nil_append]
  refine Ex_if_ne 14 17 dX9_judged_11 (by decide) rfl (fun c1 => ?_) (fun c1 => ?_)
  · refine Ex_aload_n 18 (i := 0) dX9_judged_17 rfl rfl rfl ?_
    refine Ex_aload_n 19 (i := 0) dX9_judged_18 rfl rfl rfl ?_
    refine Ex_getR 22 dX9_judged_19 fX9_13 (xMs_0 hm) rfl (xMr_10 hm) rfl ?_
    refine Ex_iconst 23 (v := 1) dX9_judged_22 (by decide) rfl ?_
    refine Ex_aI 24 1 (I (m + 2) 1) dX9_judged_23 (xMs_2 hm) rfl (by decide) (by decide) rfl rfl ?_
    rw [hO.2.1]
    refine Ex_callV (M' := MX9_judges) 27 [.int (nI (hmTk O))] (rest := []) dX9_judged_24 lX9_381 mX9_judges rfl (xMs_0 hm) rfl (Nat.le_of_ble_eq_true rfl) (Nat.le_of_ble_eq_true rfl) rfl ?_
    refine mc_judges (tk := (hmTk O)) hm hS hO ho hD hDk h46 ho.2.1 ho.2.2.1 (fun I1 g1 hS1 j47 j48 => ?_)
    simp only [Option.toList, List.nil_append, List.cons_append]
    refine Ex_istore_n 28 (i := 2) (ls' := [some (.ref m), some (.int qv), some (.int (hmCnt (hmSet (hmJd O (hmTk O) D D.length).1)))]) dX9_judged_27 rfl (Nat.le_of_ble_eq_true rfl) rfl rfl rfl ?_
    refine Ex_iload_n 29 (i := 1) dX9_judged_28 rfl rfl rfl ?_
    refine Ex_if_ne 32 39 dX9_judged_29 (by decide) rfl (fun c2 => ?_) (fun c2 => ?_)
    · refine Ex_iload_n 40 (i := 1) dX9_judged_39 rfl rfl rfl ?_
      refine Ex_iconst 41 (v := 1) dX9_judged_40 (by decide) rfl ?_
      refine Ex_icmp_ne 44 51 dX9_judged_41 (by decide) rfl (fun c3 => ?_) (fun c3 => ?_)
      · refine Ex_iload_n 52 (i := 2) dX9_judged_51 rfl rfl rfl ?_
        refine Ex_iret dX9_judged_52 rfl rfl (Or.inl rfl) ?_
        have hct : hmCal 3 qv = true := by
          rw [← hmWith_cal (k := 2) (by omega)]
          exact hmB_ne c1
        have e2 : ¬ qv = 2 → False := fun h2 => by
          obtain ⟨w, hw, rfl⟩ := hmCal_of hct
          have h3 : w = 0 ∨ w = 1 ∨ w = 2 := by omega
          rcases h3 with rfl | rfl | rfl
          · exact c2 rfl
          · exact c3 rfl
          · exact h2 rfl
        have e : spJudged O D qv = hmCnt (hmSet (hmJd O (hmTk O) D D.length).1) := by
          by_cases h2 : qv = 2
          · simp only [spJudged, hct, if_true, spJudge, if_pos h2]
          · exact absurd h2 (fun q => e2 q)
        rw [← e]
        exact hQ _ g1 hS1
      · refine Ex_aload_n 45 (i := 0) dX9_judged_44 rfl rfl rfl ?_
        refine Ex_gI 48 (I1 m 48) dX9_judged_45 fX9_372 (xMs_0 hm) rfl rfl rfl ?_
        rw [j48]
        refine Ex_goto 52 dX9_judged_48 (by decide) ?_
        refine Ex_iret dX9_judged_52 rfl rfl (Or.inl rfl) ?_
        have hct : hmCal 3 qv = true := by
          rw [← hmWith_cal (k := 2) (by omega)]
          exact hmB_ne c1
        have e : spJudged O D qv = (hmJd O (hmTk O) D D.length).2.2 := by
          have h2 : ¬ qv = 2 := fun q => by
            rw [c3] at q
            exact absurd q (by decide)
          simp only [spJudged, hct, if_true, spJudge, if_neg h2, if_neg c2]
        rw [← e]
        exact hQ _ g1 hS1
    · refine Ex_aload_n 33 (i := 0) dX9_judged_32 rfl rfl rfl ?_
      refine Ex_gI 36 (I1 m 47) dX9_judged_33 fX9_375 (xMs_0 hm) rfl rfl rfl ?_
      rw [j47]
      refine Ex_goto 52 dX9_judged_36 (by decide) ?_
      refine Ex_iret dX9_judged_52 rfl rfl (Or.inl rfl) ?_
      have hct : hmCal 3 qv = true := by
        rw [← hmWith_cal (k := 2) (by omega)]
        exact hmB_ne c1
      have e : spJudged O D qv = (hmJd O (hmTk O) D D.length).2.1 := by
        simp only [spJudged, hct, if_true, spJudge, c2]
        rfl
      rw [← e]
      exact hQ _ g1 hS1
  · refine Ex_bipush 16 (v := (-2)) dX9_judged_14 (by decide) rfl ?_
    refine Ex_iret dX9_judged_16 rfl rfl (Or.inl rfl) ?_
    have e : spJudged O D qv = -2 := by
      have h1 : hmCal 3 qv = false := by
        rw [← hmWith_cal (k := 2) (by omega)]
        exact hmB_eq c1
      simp [spJudged, h1]
    rw [← e]
    exact hQ _ hmMg.rf hS
set_option maxHeartbeats 4000000 in
theorem mq_judged {d : Nat} {sh : xSh} {R : xR} {L : xL} {I : xI} {Q : xQ} {m : Nat} {O : hmO} {H : hmH} (hm : xModel sh R m) (hS : hmMr (I (m + 28)) H) (hO : hmMo I m O) (ho : hmOok O) {D : hmDay} (hD : hmMd I m 0 D) (hDk : hmDok O D) (h46 : I m 46 = nI (hmTk O)) {qv : Int32} (hQ : ∀ I', hmMg m (hmTh I m) I' → hmMr (I' (m + 28)) H → Q (some (.int (spJudged O D qv))) 0 sh R L I') : Ex (d + 9) 0 0 MX9_judged 0 sh R L I 0 [some (.ref m), some (.int qv), none] [] Q := by
  refine Ex_aload_n 1 (i := 0) dX9_judged_0 rfl rfl rfl ?_
  refine Ex_iconst 2 (v := 0) dX9_judged_1 (by decide) rfl ?_
  refine Ex_pI 5 (I m) (va_up I m (va_up (I m) 0 0)) dX9_judged_2 fX9_130 rfl (xMs_0 hm) rfl (fun _ => rfl) rfl rfl rfl rfl ?_
  exact mb_judged hm (hmTh_mr hS) (hmTh_mo hO) ho (show hmMd (hmTh I m) m 0 D from hD.kept (fun x a b => va_up_ne _ _ (by omega))) hDk ((hmTh_f (by omega)).trans h46) hQ
theorem hm_w20 {v : Int32} : hmWith v 1 20 = true ↔ (hmCal 21 v = true ∧ ¬ v = 0) := by
  have e1 : (1 : Int32).toInt = 1 := by decide
  have e20 : (20 : Int32).toInt = 20 := by decide
  have e0 : (0 : Int32).toInt = 0 := by decide
  simp only [hmWith, hmCal, decide_eq_true_eq, Int32.not_lt, Int32.le_iff_toInt_le, e1, e20]
  constructor
  · intro h
    refine ⟨by omega, fun q => ?_⟩
    rw [q, e0] at h
    omega
  · intro h
    have h2 : ¬ v.toInt = 0 := fun q => h.2 (Int32.toInt_inj.mp (q.trans e0.symm))
    omega
set_option maxHeartbeats 4000000 in
theorem mb_other {d : Nat} {sh : xSh} {R : xR} {L : xL} {I : xI} {Q : xQ} {m : Nat} {O : hmO} {H : hmH} (hm : xModel sh R m) (hS : hmMr (I (m + 28)) H) (hO : hmMo I m O) (ho : hmOok O) {D : hmDay} (hD : hmMd I m 0 D) (hDk : hmDok O D) (h46 : I m 46 = nI (hmTk O)) {qv : Int32} (hQ : ∀ I', hmMg m I I' → hmMr (I' (m + 28)) H → Q (some (.int (spOther O D qv))) 0 sh R L I') : Ex (d + 9) 0 0 MX9_other 0 sh R L I 5 [some (.ref m), some (.int qv)] [] Q := by
  refine Ex_iload_n 6 (i := 1) dX9_other_5 rfl rfl rfl ?_
  refine Ex_iconst 7 (v := 1) dX9_other_6 (by decide) rfl ?_
  refine Ex_bipush 9 (v := 20) dX9_other_7 (by decide) rfl ?_
  refine Ex_callS (M' := MX9_within) 12 [.int qv, .int 1, .int 20] (rest := []) dX9_other_9 lX9_244 mX9_within rfl rfl (Nat.le_of_ble_eq_true rfl) (Nat.le_of_ble_eq_true rfl) rfl ?_
  refine mc_within ?_
  simp only [Option.toList, List.cons_append, List.nil_append]
  refine Ex_if_eq 15 23 dX9_other_12 (by decide) rfl (fun c1 => ?_) (fun c1 => ?_)
  · refine Ex_iconst 24 (v := (-1)) dX9_other_23 (by decide) rfl ?_
    refine Ex_iret dX9_other_24 rfl rfl (Or.inl rfl) ?_
    have e : spOther O D qv = -1 := by
      have h1 : ¬ (hmCal 21 qv = true ∧ ¬ qv = 0) := fun q => by
        have := hm_w20.mpr q
        rw [hmB_eq c1] at this
        exact absurd this (by decide)
      simp only [spOther, if_neg h1]
    rw [← e]
    exact hQ _ hmMg.rf hS
  · have hcc := hm_w20.mp (hmB_ne c1)
    obtain ⟨w, hw, rfl⟩ := hmCal_of hcc.1
    have hix : hmIx (nI w) = w := hmIx_nI (by omega)
    have hw0 : w ≠ 0 := fun q => hcc.2 (by rw [q]; rfl)
    refine Ex_aload_n 16 (i := 0) dX9_other_15 rfl rfl rfl ?_
    refine Ex_iload_n 17 (i := 1) dX9_other_16 rfl rfl rfl ?_
    refine Ex_callV (M' := MX9_judges) 20 [.int (nI w)] (rest := []) dX9_other_17 lX9_381 mX9_judges rfl (xMs_0 hm) rfl (Nat.le_of_ble_eq_true rfl) (Nat.le_of_ble_eq_true rfl) rfl ?_
    refine mc_judges (tk := w) hm hS hO ho hD hDk h46 (by omega) (by omega) (fun I1 g1 hS1 j47 j48 => ?_)
    simp only [Option.toList, List.nil_append, List.cons_append]
    refine Ex_goto 24 dX9_other_20 (by decide) ?_
    refine Ex_iret dX9_other_24 rfl rfl (Or.inl rfl) ?_
    have e : spOther O D (nI w) = hmCnt (hmSet (hmJd O w D D.length).1) := by
      simp only [spOther, if_pos hcc, hix]
      rfl
    rw [← e]
    exact hQ _ g1 hS1
set_option maxHeartbeats 4000000 in
theorem mq_other {d : Nat} {sh : xSh} {R : xR} {L : xL} {I : xI} {Q : xQ} {m : Nat} {O : hmO} {H : hmH} (hm : xModel sh R m) (hS : hmMr (I (m + 28)) H) (hO : hmMo I m O) (ho : hmOok O) {D : hmDay} (hD : hmMd I m 0 D) (hDk : hmDok O D) (h46 : I m 46 = nI (hmTk O)) {qv : Int32} (hQ : ∀ I', hmMg m (hmTh I m) I' → hmMr (I' (m + 28)) H → Q (some (.int (spOther O D qv))) 0 sh R L I') : Ex (d + 9) 0 0 MX9_other 0 sh R L I 0 [some (.ref m), some (.int qv)] [] Q := by
  refine Ex_aload_n 1 (i := 0) dX9_other_0 rfl rfl rfl ?_
  refine Ex_iconst 2 (v := 0) dX9_other_1 (by decide) rfl ?_
  refine Ex_pI 5 (I m) (va_up I m (va_up (I m) 0 0)) dX9_other_2 fX9_130 rfl (xMs_0 hm) rfl (fun _ => rfl) rfl rfl rfl rfl ?_
  exact mb_other hm (hmTh_mr hS) (hmTh_mo hO) ho (show hmMd (hmTh I m) m 0 D from hD.kept (fun x a b => va_up_ne _ _ (by omega))) hDk ((hmTh_f (by omega)).trans h46) hQ
