theorem hmWg_ge {f : List Nat → Int32} : ∀ (l : List (List Nat)) (b : Int32 × List Nat), (∀ r, r ∈ l → 0 ≤ f r) → (l ≠ [] ∨ 0 ≤ b.1) → 0 ≤ (l.foldl (hmWg f) b).1 := by
  intro l
  induction l with
  | nil =>
    intro b _ h
    exact h.elim (fun q => absurd rfl q) id
  | cons r l ih =>
    intro b h _
    rw [List.foldl_cons]
    refine ih _ (fun x hx => h x (List.mem_cons_of_mem _ hx)) (Or.inr ?_)
    unfold hmWg
    split
    · rename_i c
      exact Int32.le_trans (h r List.mem_cons_self) c
    · exact h r List.mem_cons_self
theorem hmIt_cons (n : Nat) (r : List Nat) : hmIt (n + 1) r = r :: (match hmAdv r with | none => [] | some r' => hmIt n r') := rfl
theorem hmIt_ne (n : Nat) (r : List Nat) : hmIt (n + 1) r ≠ [] := by rw [hmIt_cons]; exact List.cons_ne_nil _ _
set_option maxHeartbeats 4000000 in
theorem c_weighB {d : Nat} {sh : xSh} {R : xR} {L : xL} {I : xI} {Q : xQ} {a : Nat} {f : List Nat → Int32} {b : Int32 × List Nat} {r : List Nat} (ha : xRows sh R a) (hr : hmRw I a r) (hl : r.length ≤ 6) (h3 : I a 3 = b.1) (hb : (b.1 = -1 ∨ ∀ i, i < r.length → I (a + 2) i = nI (b.2.getD i 0))) (hQ : ∀ I', (∀ x, x ≠ a → x ≠ a + 2 → I' x = I x) → (∀ k, k ≠ 3 → I' a k = I a k) → I' a 3 = (hmWg f b r).1 → ((hmWg f b r).1 = -1 ∨ ∀ i, i < r.length → I' (a + 2) i = nI ((hmWg f b r).2.getD i 0)) → Q none 0 sh R L I') : Ex (d + 1) 0 0 MX6_weigh 0 sh R L I 0 [some (.ref a), some (.int (f r))] [] Q := by
  refine c_weigh ha (fun c => ?_) (fun c => ?_)
  · rw [h3] at c
    have e : hmWg f b r = b := if_pos c
    exact hQ I (fun _ _ _ => rfl) (fun _ _ => rfl) (by rw [e]; exact h3) (by rw [e]; exact hb)
  · rw [h3] at c
    have e : hmWg f b r = (f r, r) := if_neg c
    refine hQ _ (fun x p q => by rw [va_up_ne _ _ q, va_up_ne _ _ p]) (fun k hk => by rw [va_up_ne _ _ (by omega), va_up_self, va_up_ne _ _ hk]) (by rw [va_up_ne _ _ (by omega), va_up_self, va_up_self, e]) (Or.inr (fun i hi => ?_))
    rw [va_up_self, hm_cpy (show i < 6 by omega), e]
    exact hr i hi
set_option maxHeartbeats 4000000 in
theorem c_settledNextBy {d : Nat} {sh : xSh} {R : xR} {L : xL} {I : xI} {Q : xQ} {h dk dd pl pd : Nat} {O : hmO} {H : hmH} (hx : xHM sh R h dk dd pl pd) (hO : hmD I dk O) (ho : hmOok O) (hH : hmR I (h + 30) H) (hok : hmOk O H) (hmn : hmMin H < 800000) {r : List Nat} (hrr : r ∈ hmRows H) (hrw : hmRw I (h + 45) r) (h2 : I (h + 45) 2 = nI r.length) (hQ : ∀ I', hmFd (h + 35) dk I I' → Q (some (.int (hmNx O H r))) 0 sh R L I') : Ex (d + 4) 0 0 MX8_settledNextBy 0 sh R L I 0 [some (.ref h), some (.ref (h + 45))] [] Q := by
  obtain ⟨h6, hlen, hset, htak, hmin, hline, hhas, hheld, htalk⟩ := id hH
  obtain ⟨on, otk, ow, olen, olaw⟩ := id hO
  obtain ⟨o6, ot1, ot2, oo, oll, owf⟩ := id ho
  have hdd := xH_27 hx
  have hlN := hok.2.1
  obtain ⟨hrl, hrk, hrn, hrm, hr6⟩ := hm_row_line hok ho hrr
  refine Ex_aload_n 1 (i := 0) dX8_settledNextBy_0 rfl rfl rfl ?_
  refine Ex_getR 4 dX8_settledNextBy_1 fX8_43 (xH_0 hx) rfl (xH_7 hx) rfl ?_
  refine Ex_aload_n 5 (i := 0) dX8_settledNextBy_4 rfl rfl rfl ?_
  refine Ex_getR 8 dX8_settledNextBy_5 fX8_39 (xH_0 hx) rfl (xH_6 hx) rfl ?_
  refine Ex_callV (M' := MX1_copyFrom) 11 [.ref (h + 30)] (rest := []) dX8_settledNextBy_8 lX8_166 mX1_copyFrom rfl (xH_19 hx).1 rfl (Nat.le_of_ble_eq_true rfl) (Nat.le_of_ble_eq_true rfl) rfl ?_
  refine c_copyFrom (xH_19 hx) (xH_18 hx) (by omega) hH (fun I0 hF0 hH0 => ?_)
  have g0 : hmFd (h + 35) dk I I0 := fun x a _ => hF0 x (fun q => a (by unfold hmIn at q; omega))
  have hO0 : hmD I0 dk O := hO.fd g0 (by omega)
  simp only [Option.toList, List.nil_append, List.cons_append]
  refine Ex_aload_n 12 (i := 0) dX8_settledNextBy_11 rfl rfl rfl ?_
  refine Ex_getR 15 dX8_settledNextBy_12 fX8_43 (xH_0 hx) rfl (xH_7 hx) rfl ?_
  refine Ex_aload_n 16 (i := 1) dX8_settledNextBy_15 rfl rfl rfl ?_
  refine Ex_getR 19 dX8_settledNextBy_16 fX8_322 (xH_23 hx).1 rfl (xH_23 hx).2.2.2.1 rfl ?_
  refine Ex_aload_n 20 (i := 1) dX8_settledNextBy_19 rfl rfl rfl ?_
  refine Ex_gI 23 (I0 (h + 45) 2) dX8_settledNextBy_20 fX8_231 (xH_23 hx).1 rfl rfl rfl ?_
  rw [g0 (h + 45) (by omega) (by omega), h2]
  refine Ex_callV (M' := MX1_standAs) 26 [.ref (h + 46), .int (nI r.length)] (rest := []) dX8_settledNextBy_23 lX8_325 mX1_standAs rfl (xH_19 hx).1 rfl (Nat.le_of_ble_eq_true rfl) (Nat.le_of_ble_eq_true rfl) rfl ?_
  refine c_standAs (xH_19 hx) (xH_23 hx).2.1 (by omega) hH0 hrl (fun i hi => by rw [g0 (h + 45 + 1) (by omega) (by omega)]; exact hrw i hi) (fun I1 hF1 hH1 => ?_)
  have g1 : hmFd (h + 35) dk I0 I1 := fun x a _ => hF1 x (fun q => a (by unfold hmIn at q; omega))
  have hO1 : hmD I1 dk O := hO0.fd g1 (by omega)
  simp only [Option.toList, List.nil_append, List.cons_append]
  refine Ex_aload_n 27 (i := 0) dX8_settledNextBy_26 rfl rfl rfl ?_
  refine Ex_getR 30 dX8_settledNextBy_27 fX8_43 (xH_0 hx) rfl (xH_7 hx) rfl ?_
  refine Ex_aload_n 31 (i := 0) dX8_settledNextBy_30 rfl rfl rfl ?_
  refine Ex_getR 34 dX8_settledNextBy_31 fX8_19 (xH_0 hx) rfl (xH_2 hx) rfl ?_
  refine Ex_aload_n 35 (i := 0) dX8_settledNextBy_34 rfl rfl rfl ?_
  refine Ex_getR 38 dX8_settledNextBy_35 fX8_19 (xH_0 hx) rfl (xH_2 hx) rfl ?_
  refine Ex_gI 41 (I1 dk 7) dX8_settledNextBy_38 fX8_153 (xH_14 hx).1 rfl rfl rfl ?_
  rw [hO1.2.1]
  refine Ex_callV (M' := MX1_passMinute) 44 [.ref dk, .int (nI (hmTk O))] (rest := []) dX8_settledNextBy_41 lX8_156 mX1_passMinute rfl (xH_19 hx).1 rfl (Nat.le_of_ble_eq_true rfl) (Nat.le_of_ble_eq_true rfl) rfl ?_
  refine c_passMinute (xH_19 hx) (xH_14 hx) (by omega) hH1 hO1 ho hrk ot1 ot2 (show hmMin H < 1000000 by omega) (fun I2 g2 hH2 => ?_)
  simp only [Option.toList, List.nil_append, List.cons_append]
  refine Ex_iret dX8_settledNextBy_44 rfl rfl (Or.inl rfl) ?_
  exact hQ I2 ((g0.tr g1).tr g2)
/-- what finding an order may change -/
def hmOf (h dk : Nat) (I I' : xI) : Prop := ∀ x, ¬ (h + 35 ≤ x ∧ x < h + 40) → ¬ (h + 42 ≤ x ∧ x < h + 45) → x ≠ dk + 8 → I' x = I x
theorem hmOf.rf {h dk : Nat} {I : xI} : hmOf h dk I I := fun _ _ _ _ => rfl
theorem hmOf.tr {h dk : Nat} {I J K : xI} (h1 : hmOf h dk I J) (h2 : hmOf h dk J K) : hmOf h dk I K := fun x a b c => (h2 x a b c).trans (h1 x a b c)
theorem hmOf.fd {h dk : Nat} {I J : xI} (h1 : hmFd (h + 35) dk I J) : hmOf h dk I J := fun x a _ c => h1 x (by omega) c
theorem hm_take_all {r : List Nat} {i : Nat} (h : r.length ≤ i) : r.take i = r := List.take_of_length_le h
theorem hm_notin_take {r : List Nat} (hnd : r.Nodup) {i : Nat} (hi : i < r.length) : (r.getD i 0) ∉ r.take i := by
  intro q
  obtain ⟨j, hj, e⟩ := List.mem_take_iff_getElem.mp q
  have e2 : r.getD i 0 = r[i] := by rw [List.getD_eq_getElem?_getD, List.getElem?_eq_getElem hi]; rfl
  rw [e2] at e
  have := (List.getElem_inj hnd).mp e
  omega
set_option maxHeartbeats 4000000 in
theorem c_fo_in {d : Nat} {sh : xSh} {R : xR} {L : xL} {I : xI} {Q : xQ} {h dk dd pl pd : Nat} {O : hmO} {H : hmH} (hx : xHM sh R h dk dd pl pd) (ho : hmOok O) (hok : hmOk O H) (hmn : hmMin H < 800000) {r : List Nat} (hnd : r.Nodup) (hcan : ∀ x, x ∈ r → x < hmN O ∧ hmCanRing H x = true) (hl : r.length ≤ 6) {x1 x2 : Int32} : ∀ n i J, n + i = r.length → hmR J (h + 35) (hmCm H (r.take i)) → hmRw J (h + 42) r → J (h + 42) 2 = nI r.length → (∀ I', hmFr (hmIn (h + 35) 5) J I' → hmR I' (h + 35) (hmCm H r) → Ex (d + 5) 0 0 MX8_findOrder 0 sh R L I' 72 [some (.ref h), some (.int x1), some (.int x2), some (.int (nI r.length))] [] Q) → Ex (d + 5) 0 0 MX8_findOrder 0 sh R L J 39 [some (.ref h), some (.int x1), some (.int x2), some (.int (nI i))] [] Q := by
  intro n
  induction n with
  | zero =>
    intro i J hi hH hrw h2 hk
    have hsub : ∀ x, x ∈ r.take i → x < hmN O ∧ hmCanRing H x = true := fun x hx => hcan x (List.mem_of_mem_take hx)
    obtain ⟨k1, k2, k3, k4⟩ := hmCm_can ho (r.take i) H hok (List.Sublist.nodup (List.take_sublist i r) hnd) hsub
    have o6 := ho.1
    refine Ex_iload_n 40 (i := 3) dX8_findOrder_39 rfl rfl rfl ?_
    refine Ex_aload_n 41 (i := 0) dX8_findOrder_40 rfl rfl rfl ?_
    refine Ex_getR 44 dX8_findOrder_41 fX8_59 (xH_0 hx) rfl (xH_10 hx) rfl ?_
    refine Ex_gI 47 (J (h + 42) 2) dX8_findOrder_44 fX8_231 (xH_22 hx).1 rfl rfl rfl ?_
    rw [h2]
    refine Ex_icmp_ge 50 72 dX8_findOrder_47 (by decide) rfl (fun c1 => ?_) (fun c1 => absurd c1 (fun q => q (nI_le (by omega) (by omega))))
    rw [hm_take_all (by omega)] at hH
    rw [show i = r.length by omega]
    exact hk J (fun _ _ => rfl) hH
  | succ n ih =>
    intro i J hi hH hrw h2 hk
    have hsub : ∀ x, x ∈ r.take i → x < hmN O ∧ hmCanRing H x = true := fun x hx => hcan x (List.mem_of_mem_take hx)
    obtain ⟨k1, k2, k3, k4⟩ := hmCm_can ho (r.take i) H hok (List.Sublist.nodup (List.take_sublist i r) hnd) hsub
    have o6 := ho.1
    refine Ex_iload_n 40 (i := 3) dX8_findOrder_39 rfl rfl rfl ?_
    refine Ex_aload_n 41 (i := 0) dX8_findOrder_40 rfl rfl rfl ?_
    refine Ex_getR 44 dX8_findOrder_41 fX8_59 (xH_0 hx) rfl (xH_10 hx) rfl ?_
    refine Ex_gI 47 (J (h + 42) 2) dX8_findOrder_44 fX8_231 (xH_22 hx).1 rfl rfl rfl ?_
    rw [h2]
    refine Ex_icmp_ge 50 72 dX8_findOrder_47 (by decide) rfl (fun c1 => absurd c1 (nI_ge (by omega) (by omega))) (fun c1 => ?_)
    refine Ex_aload_n 51 (i := 0) dX8_findOrder_50 rfl rfl rfl ?_
    refine Ex_getR 54 dX8_findOrder_51 fX8_43 (xH_0 hx) rfl (xH_7 hx) rfl ?_
    refine Ex_aload_n 55 (i := 0) dX8_findOrder_54 rfl rfl rfl ?_
    refine Ex_getR 58 dX8_findOrder_55 fX8_59 (xH_0 hx) rfl (xH_10 hx) rfl ?_
    refine Ex_getR 61 dX8_findOrder_58 fX8_322 (xH_22 hx).1 rfl (xH_22 hx).2.2.2.1 rfl ?_
    refine Ex_iload_n 62 (i := 3) dX8_findOrder_61 rfl rfl rfl ?_
    refine Ex_aI 63 i (J (h + 43) i) dX8_findOrder_62 (xH_22 hx).2.1 rfl (by omega) (by decide) rfl rfl ?_
    rw [hrw i (by omega)]
    refine Ex_callV (M' := MX1_comeToEnd) 66 [.int (nI (r.getD i 0))] (rest := []) dX8_findOrder_63 lX8_139 mX1_comeToEnd rfl (xH_19 hx).1 rfl (Nat.le_of_ble_eq_true rfl) (Nat.le_of_ble_eq_true rfl) rfl ?_
    have hri := hm_getD_mem (show i < r.length by omega)
    have hcw := hcan _ hri
    have hcr : hmCanRing (hmCm H (r.take i)) (r.getD i 0) = true := by
      have z1 : hmBit (hmSet H) (r.getD i 0) = false ∧ (r.getD i 0) ∉ hmLine H := by simpa [hmCanRing] using hcw.2
      have z2 : (r.getD i 0) ∉ r.take i := hm_notin_take hnd (by omega)
      have z3 : (r.getD i 0) ∉ hmLine H ++ r.take i := fun q => (List.mem_append.mp q).elim z1.2 z2
      unfold hmCanRing
      rw [k2, k4, z1.1, List.contains_eq_mem, decide_eq_false z3]
      rfl
    have hni : (r.getD i 0) ∉ hmLine (hmCm H (r.take i)) := by
      have h2 : hmBit (hmSet (hmCm H (r.take i))) (r.getD i 0) = false ∧ (r.getD i 0) ∉ hmLine (hmCm H (r.take i)) := by simpa [hmCanRing] using hcr
      exact h2.2
    refine c_comeToEnd (xH_19 hx) hH (by omega) (hmOk_room k1 ho hcw.1 hni) (fun I1 hF1 hH1 => ?_)
    simp only [Option.toList, List.nil_append, List.cons_append]
    refine Ex_iinc 69 (v := (nI (i + 1))) (ls' := [some (.ref h), some (.int x1), some (.int x2), some (.int (nI (i + 1)))]) dX8_findOrder_66 rfl (xinc _) (Nat.le_of_ble_eq_true rfl) rfl rfl rfl ?_
    refine Ex_goto 39 dX8_findOrder_69 (by decide) ?_
    have kk : ∀ x, ¬ (h + 35 ≤ x ∧ x < h + 40) → I1 x = J x := fun x a => hF1 x (fun q => a (by unfold hmIn at q; omega))
    exact ih (i + 1) I1 (by omega) (by rw [hmCm_s H r (by omega)]; exact hH1) (hrw.kept (kk _ (by omega))) (by rw [kk _ (by omega)]; exact h2) (fun I' g => hk I' (fun x hx => (g x hx).trans (hF1 x hx)))
set_option maxHeartbeats 4000000 in
theorem c_fo_end {d : Nat} {sh : xSh} {R : xR} {L : xL} {I : xI} {Q : xQ} {h dk dd pl pd : Nat} (hx : xHM sh R h dk dd pl pd) {J : xI} {z : Nat} {b : Int32 × List Nat} {x1 x2 : Int32} (gJ : hmOf h dk I J) (j2 : J (h + 42) 2 = nI z) (j3 : J (h + 42) 3 = b.1) (j4 : b.1 = -1 ∨ ∀ i, i < z → J (h + 44) i = nI (b.2.getD i 0)) (hQ : ∀ I', hmOf h dk I I' → I' (h + 42) 4 = 1 → I' (h + 42) 2 = nI z → I' (h + 42) 3 = b.1 → (b.1 = -1 ∨ ∀ i, i < z → I' (h + 44) i = nI (b.2.getD i 0)) → Q none 0 sh R L I') : Ex d 0 0 MX8_findOrder 0 sh R L J 140 [some (.ref h), some (.int x1), some (.int x2), none] [] Q := by
  refine Ex_aload_n 141 (i := 0) dX8_findOrder_140 rfl rfl rfl ?_
  refine Ex_getR 144 dX8_findOrder_141 fX8_59 (xH_0 hx) rfl (xH_10 hx) rfl ?_
  refine Ex_iconst 145 (v := 1) dX8_findOrder_144 (by decide) rfl ?_
  refine Ex_pI 148 (J (h + 42)) (va_up J (h + 42) (va_up (J (h + 42)) 4 1)) dX8_findOrder_145 fX8_170 rfl (xH_22 hx).1 (by decide) (fun _ => rfl) rfl rfl rfl rfl ?_
  refine Ex_ret0 dX8_findOrder_148 rfl (Or.inl rfl) ?_
  refine hQ _ (fun x a b c => by rw [va_up_ne _ _ (by omega)]; exact gJ x a b c) (by rw [va_up_self, va_up_self]) (by rw [va_up_self, va_up_ne _ _ (by omega)]; exact j2) (by rw [va_up_self, va_up_ne _ _ (by omega)]; exact j3) ?_
  rw [va_up_ne _ _ (by omega)]
  exact j4
set_option maxHeartbeats 4000000 in
theorem c_fo_loop {d : Nat} {sh : xSh} {R : xR} {L : xL} {I : xI} {Q : xQ} {h dk dd pl pd : Nat} {O : hmO} {H : hmH} (hx : xHM sh R h dk dd pl pd) (hO : hmD I dk O) (ho : hmOok O) (hH : hmR I (h + 30) H) (hok : hmOk O H) (hmn : hmMin H < 800000) {z : Nat} (hle : ∀ q, q ∈ (hmPm (hmMem (hmFree (hmN O) H) 6).length (hmFree (hmN O) H)) → hmFo O H q ≤ nI (hmN O)) : ∀ n t r b J, n + t = 720 → hmOf h dk I J → (∀ q, q ∈ hmIt n r → q ∈ (hmPm (hmMem (hmFree (hmN O) H) 6).length (hmFree (hmN O) H))) → r.length = z → hmRw J (h + 42) r → J (h + 42) 2 = nI z → J (h + 42) 3 = b.1 → (b.1 = -1 ∨ ∀ i, i < z → J (h + 44) i = nI (b.2.getD i 0)) → (∀ I', hmOf h dk I I' → I' (h + 42) 4 = 1 → I' (h + 42) 2 = nI z → I' (h + 42) 3 = ((hmIt n r).foldl (hmWg (hmFo O H)) b).1 → (((hmIt n r).foldl (hmWg (hmFo O H)) b).1 = -1 ∨ ∀ i, i < z → I' (h + 44) i = nI (((hmIt n r).foldl (hmWg (hmFo O H)) b).2.getD i 0)) → Q none 0 sh R L I') → Ex (d + 5) 0 0 MX8_findOrder 0 sh R L J 15 [some (.ref h), some (.int 1), some (.int (nI t)), none] [] Q := by
  obtain ⟨h6, hlen, hset, htak, hmin, hline, hhas, hheld, htalk⟩ := id hH
  obtain ⟨on, otk, ow, olen, olaw⟩ := id hO
  obtain ⟨o6, ot1, ot2, oo, oll, owf⟩ := id ho
  have hdd := xH_27 hx
  have hlN := hok.2.1
  intro n
  induction n with
  | zero =>
    intro t r b J ht gJ hin hz hrw j2 j3 j4 hQ
    refine Ex_iload_n 16 (i := 1) dX8_findOrder_15 rfl rfl rfl ?_
    refine Ex_if_eq 19 140 dX8_findOrder_16 (by decide) rfl (fun c1 => absurd c1 (by decide)) (fun c1 => ?_)
    refine Ex_iload_n 20 (i := 2) dX8_findOrder_19 rfl rfl rfl ?_
    refine Ex_sipush 23 (v := 720) dX8_findOrder_20 (by decide) rfl ?_
    refine Ex_icmp_ge 26 140 dX8_findOrder_23 (by decide) rfl (fun c2 => ?_) (fun c2 => absurd c2 (fun q => q (nI_le (a := 720) (by omega) (by omega))))
    exact c_fo_end hx gJ j2 j3 j4 hQ
  | succ n ih =>
    intro t r b J ht gJ hin hz hrw j2 j3 j4 hQ
    have hrr := hin r (by rw [hmIt_cons]; exact List.mem_cons_self)
    obtain ⟨q1, q2, q3⟩ := hmFree_ok hok ho hrr
    have q6 : ∀ x, x ∈ r → x < 6 := fun x hx => by have := (q3 x hx).1; omega
    have ql : r.length ≤ 6 := by rw [q1]; exact hmMem_le _ 6
    have hHJ : hmR J (h + 30) H := hH.kept (fun x a b => gJ x (by omega) (by omega) (by omega))
    have hOJ : hmD J dk O := hO.kept (fun x a b => gJ x (by omega) (by omega) (by omega))
    obtain ⟨e1, e2, e3, e4⟩ := hmCm_can ho r H hok q2 q3
    refine Ex_iload_n 16 (i := 1) dX8_findOrder_15 rfl rfl rfl ?_
    refine Ex_if_eq 19 140 dX8_findOrder_16 (by decide) rfl (fun c1 => absurd c1 (by decide)) (fun c1 => ?_)
    refine Ex_iload_n 20 (i := 2) dX8_findOrder_19 rfl rfl rfl ?_
    refine Ex_sipush 23 (v := 720) dX8_findOrder_20 (by decide) rfl ?_
    refine Ex_icmp_ge 26 140 dX8_findOrder_23 (by decide) rfl (fun c2 => absurd c2 (nI_ge (b := 720) (by omega) (by omega))) (fun c2 => ?_)
    refine Ex_aload_n 27 (i := 0) dX8_findOrder_26 rfl rfl rfl ?_
    refine Ex_getR 30 dX8_findOrder_27 fX8_43 (xH_0 hx) rfl (xH_7 hx) rfl ?_
    refine Ex_aload_n 31 (i := 0) dX8_findOrder_30 rfl rfl rfl ?_
    refine Ex_getR 34 dX8_findOrder_31 fX8_39 (xH_0 hx) rfl (xH_6 hx) rfl ?_
    refine Ex_callV (M' := MX1_copyFrom) 37 [.ref (h + 30)] (rest := []) dX8_findOrder_34 lX8_166 mX1_copyFrom rfl (xH_19 hx).1 rfl (Nat.le_of_ble_eq_true rfl) (Nat.le_of_ble_eq_true rfl) rfl ?_
    refine c_copyFrom (xH_19 hx) (xH_18 hx) (by omega) hHJ (fun I0 hF0 hH0 => ?_)
    have g0 : hmFd (h + 35) dk J I0 := fun x a _ => hF0 x (fun q => a (by unfold hmIn at q; omega))
    have hO0 : hmD I0 dk O := hOJ.fd g0 (by omega)
    simp only [Option.toList, List.nil_append, List.cons_append]
    refine Ex_iconst 38 (v := 0) dX8_findOrder_37 (by decide) rfl ?_
    refine Ex_istore_n 39 (i := 3) (ls' := [some (.ref h), some (.int 1), some (.int (nI t)), some (.int 0)]) dX8_findOrder_38 rfl (Nat.le_of_ble_eq_true rfl) rfl rfl rfl ?_
    refine c_fo_in (I := I) (r := r) hx ho hok hmn q2 q3 ql r.length 0 I0 (by omega) (by exact hH0) (hrw.kept (g0 _ (by omega) (by omega))) (by rw [g0 _ (by omega) (by omega), hz]; exact j2) (fun I1 hF1 hH1 => ?_)
    have g1 : hmFd (h + 35) dk I0 I1 := fun x a _ => hF1 x (fun q => a (by unfold hmIn at q; omega))
    have hO1 : hmD I1 dk O := hO0.fd g1 (by omega)
    refine Ex_aload_n 73 (i := 0) dX8_findOrder_72 rfl rfl rfl ?_
    refine Ex_getR 76 dX8_findOrder_73 fX8_43 (xH_0 hx) rfl (xH_7 hx) rfl ?_
    refine Ex_aload_n 77 (i := 0) dX8_findOrder_76 rfl rfl rfl ?_
    refine Ex_getR 80 dX8_findOrder_77 fX8_19 (xH_0 hx) rfl (xH_2 hx) rfl ?_
    refine Ex_callV (M' := MX1_runOut) 83 [.ref dk] (rest := []) dX8_findOrder_80 lX8_181 mX1_runOut rfl (xH_19 hx).1 rfl (Nat.le_of_ble_eq_true rfl) (Nat.le_of_ble_eq_true rfl) rfl ?_
    refine c_runOut (xH_19 hx) (xH_14 hx) (by omega) hO1 ho hH1 e1 (by omega) (fun I2 g2 hH2 => ?_)
    have gt : hmOf h dk J I2 := hmOf.fd ((g0.tr g1).tr g2)
    have s10 := hm_s610 (hmOut_ok ho 30 _ e1).1.2.2.2.1
    simp only [Option.toList, List.nil_append, List.cons_append]
    refine Ex_pop 84 dX8_findOrder_83 rfl rfl ?_
    refine Ex_aload_n 85 (i := 0) dX8_findOrder_84 rfl rfl rfl ?_
    refine Ex_getR 88 dX8_findOrder_85 fX8_59 (xH_0 hx) rfl (xH_10 hx) rfl ?_
    refine Ex_aload_n 89 (i := 0) dX8_findOrder_88 rfl rfl rfl ?_
    refine Ex_getR 92 dX8_findOrder_89 fX8_43 (xH_0 hx) rfl (xH_7 hx) rfl ?_
    refine Ex_gI 95 (I2 (h + 35) 5) dX8_findOrder_92 fX8_112 (xH_19 hx).1 rfl rfl rfl ?_
    rw [show I2 (h + 35) 5 = (hmSet (hmOut O 30 (hmCm H r)).2) from hH2.2.2.1]
    have gg : ∀ x, ¬ (h + 35 ≤ x ∧ x < h + 40) → x ≠ dk + 8 → I2 x = J x := fun x a c => ((g0.tr g1).tr g2) x (by omega) c
    refine Ex_callS (M' := MJ6_bitCount_0f7a4) 98 [.int (hmSet (hmOut O 30 (hmCm H r)).2)] (rest := [.ref (h + 42)]) dX8_findOrder_95 lX8_203 mJ6_bitCount_0f7a4 rfl rfl (Nat.le_of_ble_eq_true rfl) (Nat.le_of_ble_eq_true rfl) rfl ?_
    refine c_bitCountS s10 ?_
    simp only [Option.toList, List.cons_append, List.nil_append]
    refine Ex_callV (M' := MX6_weigh) 101 [.int (hmFo O H r)] (rest := []) dX8_findOrder_98 lX8_225 mX6_weigh rfl (xH_22 hx).1 rfl (Nat.le_of_ble_eq_true rfl) (Nat.le_of_ble_eq_true rfl) rfl ?_
    refine c_weighB (f := (hmFo O H)) (b := b) (r := r) (xH_22 hx) (hrw.kept (gg _ (by omega) (by omega))) ql (by rw [gg _ (by omega) (by omega)]; exact j3) (by rw [gg _ (by omega) (by omega), hz]; exact j4) (fun I3 g3 k3 v3 w3 => ?_)
    simp only [Option.toList, List.nil_append, List.cons_append]
    have gt3 : hmOf h dk I I3 := fun x a b c => by rw [g3 x (by omega) (by omega)]; exact (gJ.tr gt) x a b c
    have v2 : I3 (h + 42) 2 = nI z := by rw [k3 2 (by omega), gg _ (by omega) (by omega)]; exact j2
    have hr3 : hmRw I3 (h + 42) r := fun k hk => by rw [g3 _ (by omega) (by omega), gg _ (by omega) (by omega)]; exact hrw k hk
    rw [hz] at w3
    refine Ex_aload_n 102 (i := 0) dX8_findOrder_101 rfl rfl rfl ?_
    refine Ex_getR 105 dX8_findOrder_102 fX8_59 (xH_0 hx) rfl (xH_10 hx) rfl ?_
    refine Ex_gI 108 (I3 (h + 42) 3) dX8_findOrder_105 fX8_228 (xH_22 hx).1 rfl rfl rfl ?_
    rw [v3]
    refine Ex_aload_n 109 (i := 0) dX8_findOrder_108 rfl rfl rfl ?_
    refine Ex_getR 112 dX8_findOrder_109 fX8_19 (xH_0 hx) rfl (xH_2 hx) rfl ?_
    refine Ex_gI 115 (I3 dk 6) dX8_findOrder_112 fX8_187 (xH_14 hx).1 rfl rfl rfl ?_
    rw [show I3 dk 6 = nI (hmN O) by rw [gt3 dk (by omega) (by omega) (by omega)]; exact on]
    refine Ex_icmp_ge 118 132 dX8_findOrder_115 (by decide) rfl (fun c3 => ?_) (fun c3 => ?_)
    · refine Ex_iconst 133 (v := 0) dX8_findOrder_132 (by decide) rfl ?_
      refine Ex_istore_n 134 (i := 1) (ls' := [some (.ref h), some (.int 0), some (.int (nI t)), some (.int (nI r.length))]) dX8_findOrder_133 rfl (Nat.le_of_ble_eq_true rfl) rfl rfl rfl ?_
      refine Ex_iinc 137 (v := (nI (t + 1))) (ls' := [some (.ref h), some (.int 0), some (.int (nI (t + 1))), some (.int (nI r.length))]) dX8_findOrder_134 rfl (xinc _) (Nat.le_of_ble_eq_true rfl) rfl rfl rfl ?_
      refine Ex_goto 15 dX8_findOrder_137 (by decide) ?_
      refine Ex_iload_n 16 (i := 1) dX8_findOrder_15 rfl rfl rfl ?_
      refine Ex_if_eq 19 140 dX8_findOrder_16 (by decide) rfl (fun c4 => ?_) (fun c4 => absurd c4 (fun q => q (by decide)))
      refine Ex_fgt (ls' := [some (.ref h), some (.int 0), some (.int (nI (t + 1))), none]) (by simp [xsub]) ?_
      have eS : (hmIt (n + 1) r).foldl (hmWg (hmFo O H)) b = hmWg (hmFo O H) b r := by
        rw [hmIt_cons, List.foldl_cons]
        refine hmWg_stop _ (fun q hq => ?_)
        have hq2 := hin q (by rw [hmIt_cons]; exact List.mem_cons_of_mem _ hq)
        exact Int32.le_trans (hle q hq2) c3
      rw [eS] at hQ
      exact c_fo_end hx gt3 v2 v3 w3 hQ
    · refine Ex_aload_n 119 (i := 0) dX8_findOrder_118 rfl rfl rfl ?_
      refine Ex_getR 122 dX8_findOrder_119 fX8_59 (xH_0 hx) rfl (xH_10 hx) rfl ?_
      refine Ex_callV (M' := MX6_advance) 125 [] (rest := []) dX8_findOrder_122 lX8_234 mX6_advance rfl (xH_22 hx).1 rfl (Nat.le_of_ble_eq_true rfl) (Nat.le_of_ble_eq_true rfl) rfl ?_
      refine c_advance (r := r) (xH_22 hx) hr3 q6 ql (by rw [hz]; exact v2) (fun eA => ?_) (fun r4 I4 eA g4 hr4 => ?_)
      · simp only [Option.toList, List.nil_append, List.cons_append]
        refine Ex_if_eq 128 132 dX8_findOrder_125 (by decide) rfl (fun c5 => ?_) (fun c5 => absurd c5 (fun q => q (by decide)))
        refine Ex_iconst 133 (v := 0) dX8_findOrder_132 (by decide) rfl ?_
        refine Ex_istore_n 134 (i := 1) (ls' := [some (.ref h), some (.int 0), some (.int (nI t)), some (.int (nI r.length))]) dX8_findOrder_133 rfl (Nat.le_of_ble_eq_true rfl) rfl rfl rfl ?_
        refine Ex_iinc 137 (v := (nI (t + 1))) (ls' := [some (.ref h), some (.int 0), some (.int (nI (t + 1))), some (.int (nI r.length))]) dX8_findOrder_134 rfl (xinc _) (Nat.le_of_ble_eq_true rfl) rfl rfl rfl ?_
        refine Ex_goto 15 dX8_findOrder_137 (by decide) ?_
        refine Ex_iload_n 16 (i := 1) dX8_findOrder_15 rfl rfl rfl ?_
        refine Ex_if_eq 19 140 dX8_findOrder_16 (by decide) rfl (fun c6 => ?_) (fun c6 => absurd c6 (fun q => q (by decide)))
        refine Ex_fgt (ls' := [some (.ref h), some (.int 0), some (.int (nI (t + 1))), none]) (by simp [xsub]) ?_
        have eS : (hmIt (n + 1) r).foldl (hmWg (hmFo O H)) b = hmWg (hmFo O H) b r := by
          rw [hmIt_cons, eA]
          rfl
        rw [eS] at hQ
        exact c_fo_end hx gt3 v2 v3 w3 hQ
      · simp only [Option.toList, List.nil_append, List.cons_append]
        refine Ex_if_eq 128 132 dX8_findOrder_125 (by decide) rfl (fun c7 => absurd c7 (by decide)) (fun c7 => ?_)
        refine Ex_iconst 129 (v := 1) dX8_findOrder_128 (by decide) rfl ?_
        refine Ex_goto 133 dX8_findOrder_129 (by decide) ?_
        refine Ex_istore_n 134 (i := 1) (ls' := [some (.ref h), some (.int 1), some (.int (nI t)), some (.int (nI r.length))]) dX8_findOrder_133 rfl (Nat.le_of_ble_eq_true rfl) rfl rfl rfl ?_
        refine Ex_iinc 137 (v := (nI (t + 1))) (ls' := [some (.ref h), some (.int 1), some (.int (nI (t + 1))), some (.int (nI r.length))]) dX8_findOrder_134 rfl (xinc _) (Nat.le_of_ble_eq_true rfl) rfl rfl rfl ?_
        refine Ex_goto 15 dX8_findOrder_137 (by decide) ?_
        refine Ex_fgt (ls' := [some (.ref h), some (.int 1), some (.int (nI (t + 1))), none]) (by simp [xsub]) ?_
        have eS : (hmIt (n + 1) r).foldl (hmWg (hmFo O H)) b = (hmIt n r4).foldl (hmWg (hmFo O H)) (hmWg (hmFo O H) b r) := by
          rw [hmIt_cons, eA]
          rfl
        rw [eS] at hQ
        have kk : ∀ x, x ≠ h + 43 → I4 x = I3 x := fun x a => g4 x a
        exact ih (t + 1) r4 (hmWg (hmFo O H) b r) I4 (by omega) (fun x a b c => by rw [kk x (by omega)]; exact gt3 x a b c) (fun q hq => hin q (by rw [hmIt_cons, eA]; exact List.mem_cons_of_mem _ hq)) ((hmAdv_len eA).trans hz) hr4 (by rw [kk _ (by omega)]; exact v2) (by rw [kk _ (by omega)]; exact v3) (by rw [kk _ (by omega)]; exact w3) hQ
set_option maxHeartbeats 4000000 in
theorem c_findOrder {d : Nat} {sh : xSh} {R : xR} {L : xL} {I : xI} {Q : xQ} {h dk dd pl pd : Nat} {O : hmO} {H : hmH} (hx : xHM sh R h dk dd pl pd) (hO : hmD I dk O) (ho : hmOok O) (hH : hmR I (h + 30) H) (hok : hmOk O H) (hmn : hmMin H < 800000) (hsb : hmSb (hmN O) H) (hQ : ∀ I', hmOf h dk I I' → (I' (h + 42) 4 = 1 ∧ I' (h + 42) 2 = nI (hmFind (hmFo O H) (hmFree (hmN O) H)).1 ∧ (hmFind (hmFo O H) (hmFree (hmN O) H)).1 ≤ 6 ∧ I' (h + 42) 3 = (hmFind (hmFo O H) (hmFree (hmN O) H)).2.1 ∧ ∀ i, i < (hmFind (hmFo O H) (hmFree (hmN O) H)).1 → I' (h + 44) i = nI ((hmFind (hmFo O H) (hmFree (hmN O) H)).2.2.getD i 0)) → Q none 0 sh R L I') : Ex (d + 5) 0 0 MX8_findOrder 0 sh R L I 0 [some (.ref h), none, none, none] [] Q := by
  obtain ⟨h6, hlen, hset, htak, hmin, hline, hhas, hheld, htalk⟩ := id hH
  obtain ⟨on, otk, ow, olen, olaw⟩ := id hO
  obtain ⟨o6, ot1, ot2, oo, oll, owf⟩ := id ho
  have hdd := xH_27 hx
  have hlN := hok.2.1
  have hs6 := hmFree_s6 ho.1 H
  have hpm := hm_pm_it hs6
  have hnn : ∀ q, q ∈ (hmPm (hmMem (hmFree (hmN O) H) 6).length (hmFree (hmN O) H)) → 0 ≤ hmFo O H q := fun q hq => by
    obtain ⟨q1, q2, q3⟩ := hmFree_ok hok ho hq
    obtain ⟨e1, e2, e3, e4⟩ := hmCm_can ho q H hok q2 q3
    unfold hmFo
    rw [hm_cnt_mem (hmOut_ok ho 30 _ e1).1.2.2.2.1]
    have := hmMem_le (hmSet (hmOut O 30 (hmCm H q)).2) 6
    exact hm_nI0 (by omega)
  refine Ex_aload_n 1 (i := 0) dX8_findOrder_0 rfl rfl rfl ?_
  refine Ex_getR 4 dX8_findOrder_1 fX8_59 (xH_0 hx) rfl (xH_10 hx) rfl ?_
  refine Ex_aload_n 5 (i := 0) dX8_findOrder_4 rfl rfl rfl ?_
  refine Ex_callV (M' := MX8_freeCallers) 8 [] (rest := [.ref (h + 42)]) dX8_findOrder_5 lX8_199 mX8_freeCallers rfl (xH_0 hx) rfl (Nat.le_of_ble_eq_true rfl) (Nat.le_of_ble_eq_true rfl) rfl ?_
  refine c_freeCallers hx hO ho hH hok ?_
  simp only [Option.toList, List.cons_append, List.nil_append]
  refine Ex_callV (M' := MX6_begin) 11 [.int (hmFree (hmN O) H)] (rest := []) dX8_findOrder_8 lX8_218 mX6_begin rfl (xH_22 hx).1 rfl (Nat.le_of_ble_eq_true rfl) (Nat.le_of_ble_eq_true rfl) rfl ?_
  refine c_rowsBegin (xH_22 hx) (fun I1 k1 k2 k3 k4 k5 => ?_)
  simp only [Option.toList, List.nil_append, List.cons_append]
  refine Ex_iconst 12 (v := 1) dX8_findOrder_11 (by decide) rfl ?_
  refine Ex_istore_n 13 (i := 1) (ls' := [some (.ref h), some (.int 1), none, none]) dX8_findOrder_12 rfl (Nat.le_of_ble_eq_true rfl) rfl rfl rfl ?_
  refine Ex_iconst 14 (v := 0) dX8_findOrder_13 (by decide) rfl ?_
  refine Ex_istore_n 15 (i := 2) (ls' := [some (.ref h), some (.int 1), some (.int 0), none]) dX8_findOrder_14 rfl (Nat.le_of_ble_eq_true rfl) rfl rfl rfl ?_
  have g1 : hmOf h dk I I1 := fun x a b c => k1 x (by omega) (by omega)
  refine c_fo_loop (I := I) hx hO ho hH hok hmn (z := (hmMem (hmFree (hmN O) H) 6).length) (fun q hq => hmFo_le hok ho hsb hq) 720 0 (hmMem (hmFree (hmN O) H) 6) (-1, []) I1 rfl g1 (fun q hq => by rw [hpm]; exact hq) rfl k5 k2 k3 (Or.inl rfl) (fun I' a1 a2 a3 a4 a5 => ?_)
  rw [← hpm] at a4 a5
  have hge := hmWg_ge (hmPm (hmMem (hmFree (hmN O) H) 6).length (hmFree (hmN O) H)) (-1, []) hnn (Or.inl (by rw [hpm]; exact hmIt_ne _ _))
  exact hQ I' a1 ⟨a2, a3, hmMem_le _ 6, a4, a5.resolve_left (fun q => absurd hge (by rw [q]; decide))⟩
set_option maxHeartbeats 4000000 in
theorem c_order {d : Nat} {sh : xSh} {R : xR} {L : xL} {I : xI} {Q : xQ} {h dk dd pl pd : Nat} {O : hmO} {H : hmH} (hx : xHM sh R h dk dd pl pd) (hO : hmD I dk O) (ho : hmOok O) (hH : hmR I (h + 30) H) (hok : hmOk O H) (hmn : hmMin H < 800000) (hsb : hmSb (hmN O) H) (hc : hmCache I h (hmFind (hmFo O H) (hmFree (hmN O) H))) {qv : Int32} (hQ : ∀ I', hmOf h dk I I' → hmCache I' h (hmFind (hmFo O H) (hmFree (hmN O) H)) → Q (some (.int (spOrder O H qv))) 0 sh R L I') : Ex (d + 6) 0 0 MX8_order 0 sh R L I 0 [some (.ref h), some (.int qv)] [] Q := by
  obtain ⟨h6, hlen, hset, htak, hmin, hline, hhas, hheld, htalk⟩ := id hH
  obtain ⟨on, otk, ow, olen, olaw⟩ := id hO
  obtain ⟨o6, ot1, ot2, oo, oll, owf⟩ := id ho
  have hdd := xH_27 hx
  have hlN := hok.2.1
  rcases hc with hc | hc
  · refine Ex_aload_n 1 (i := 0) dX8_order_0 rfl rfl rfl ?_
    refine Ex_getR 4 dX8_order_1 fX8_59 (xH_0 hx) rfl (xH_10 hx) rfl ?_
    refine Ex_gI 7 (I (h + 42) 4) dX8_order_4 fX8_170 (xH_22 hx).1 rfl rfl rfl ?_
    rw [hc]
    refine Ex_if_ne 10 14 dX8_order_7 (by decide) rfl (fun c1 => absurd c1 (fun q => q (by decide))) (fun c1 => ?_)
    refine Ex_aload_n 11 (i := 0) dX8_order_10 rfl rfl rfl ?_
    refine Ex_callV (M' := MX8_findOrder) 14 [] (rest := []) dX8_order_11 lX8_193 mX8_findOrder rfl (xH_0 hx) rfl (Nat.le_of_ble_eq_true rfl) (Nat.le_of_ble_eq_true rfl) rfl ?_
    refine c_findOrder hx hO ho hH hok hmn hsb (fun I1 g1 kn => ?_)
    simp only [Option.toList, List.nil_append, List.cons_append]
    refine Ex_aload_n 15 (i := 0) dX8_order_14 rfl rfl rfl ?_
    refine Ex_getR 18 dX8_order_15 fX8_59 (xH_0 hx) rfl (xH_10 hx) rfl ?_
    refine Ex_iload_n 19 (i := 1) dX8_order_18 rfl rfl rfl ?_
    refine Ex_callV (M' := MX6_answerTo) 22 [.int qv] (rest := []) dX8_order_19 lX8_196 mX6_answerTo rfl (xH_22 hx).1 rfl (Nat.le_of_ble_eq_true rfl) (Nat.le_of_ble_eq_true rfl) rfl ?_
    refine c_answerTo (f := (hmFind (hmFo O H) (hmFree (hmN O) H))) (xH_22 hx) kn.2.2.1 kn.2.1 kn.2.2.2.1 kn.2.2.2.2 ?_
    simp only [Option.toList, List.cons_append, List.nil_append]
    refine Ex_iret dX8_order_22 rfl rfl (Or.inl rfl) ?_
    exact hQ I1 g1 (Or.inr kn)
  · refine Ex_aload_n 1 (i := 0) dX8_order_0 rfl rfl rfl ?_
    refine Ex_getR 4 dX8_order_1 fX8_59 (xH_0 hx) rfl (xH_10 hx) rfl ?_
    refine Ex_gI 7 (I (h + 42) 4) dX8_order_4 fX8_170 (xH_22 hx).1 rfl rfl rfl ?_
    rw [hc.1]
    refine Ex_if_ne 10 14 dX8_order_7 (by decide) rfl (fun c1 => ?_) (fun c1 => absurd c1 (by decide))
    refine Ex_aload_n 15 (i := 0) dX8_order_14 rfl rfl rfl ?_
    refine Ex_getR 18 dX8_order_15 fX8_59 (xH_0 hx) rfl (xH_10 hx) rfl ?_
    refine Ex_iload_n 19 (i := 1) dX8_order_18 rfl rfl rfl ?_
    refine Ex_callV (M' := MX6_answerTo) 22 [.int qv] (rest := []) dX8_order_19 lX8_196 mX6_answerTo rfl (xH_22 hx).1 rfl (Nat.le_of_ble_eq_true rfl) (Nat.le_of_ble_eq_true rfl) rfl ?_
    refine c_answerTo (f := (hmFind (hmFo O H) (hmFree (hmN O) H))) (xH_22 hx) hc.2.2.1 hc.2.1 hc.2.2.2.1 hc.2.2.2.2 ?_
    simp only [Option.toList, List.cons_append, List.nil_append]
    refine Ex_iret dX8_order_22 rfl rfl (Or.inl rfl) ?_
    exact hQ I hmOf.rf (Or.inr hc)
theorem hmQf.up {h dk : Nat} {I J K : xI} (h1 : hmQf h dk I J) (h2 : ∀ x, ¬ (h + 45 ≤ x ∧ x < h + 49) → K x = J x) : hmQf h dk I K := fun x a b c => (h2 x b).trans (h1 x a b c)
set_option maxHeartbeats 4000000 in
theorem c_deal_end {d : Nat} {sh : xSh} {R : xR} {L : xL} {I : xI} {Q : xQ} {h dk dd pl pd : Nat} (hx : xHM sh R h dk dd pl pd) {O : hmO} {H : hmH} {J : xI} {b : Int32 × List Nat} (gJ : hmQf h dk I J) (j2 : J (h + 45) 2 = nI (hmFind (hmFe2 O H) (hmBits (hmLine H))).1) (j3 : J (h + 45) 3 = b.1) (j4 : b.1 = -1 ∨ ∀ i, i < (hmFind (hmFe2 O H) (hmBits (hmLine H))).1 → J (h + 47) i = nI (b.2.getD i 0)) (hb : b = (hmFind (hmFe2 O H) (hmBits (hmLine H))).2) (hge : 0 ≤ b.1) {qv x1 x2 : Int32} (hQ : ∀ I', hmQf h dk I I' → Q (some (.int (spDeal O H qv))) 0 sh R L I') : Ex (d + 1) 0 0 MX8_deal 0 sh R L J 86 [some (.ref h), some (.int qv), some (.int x1), some (.int x2)] [] Q := by
  subst hb
  refine Ex_aload_n 87 (i := 0) dX8_deal_86 rfl rfl rfl ?_
  refine Ex_getR 90 dX8_deal_87 fX8_63 (xH_0 hx) rfl (xH_11 hx) rfl ?_
  refine Ex_iload_n 91 (i := 1) dX8_deal_90 rfl rfl rfl ?_
  refine Ex_callV (M' := MX6_answerTo) 94 [.int qv] (rest := []) dX8_deal_91 lX8_196 mX6_answerTo rfl (xH_23 hx).1 rfl (Nat.le_of_ble_eq_true rfl) (Nat.le_of_ble_eq_true rfl) rfl ?_
  refine c_answerTo (f := (hmFind (hmFe2 O H) (hmBits (hmLine H)))) (xH_23 hx) (hmMem_le _ 6) j2 j3 (j4.resolve_left (fun q => absurd hge (by rw [q]; decide))) ?_
  simp only [Option.toList, List.cons_append, List.nil_append]
  refine Ex_iret dX8_deal_94 rfl rfl (Or.inl rfl) ?_
  exact hQ J gJ
set_option maxHeartbeats 4000000 in
theorem c_deal_loop {d : Nat} {sh : xSh} {R : xR} {L : xL} {I : xI} {Q : xQ} {h dk dd pl pd : Nat} {O : hmO} {H : hmH} (hx : xHM sh R h dk dd pl pd) (hO : hmD I dk O) (ho : hmOok O) (hH : hmR I (h + 30) H) (hok : hmOk O H) (hmn : hmMin H < 800000) {qv : Int32} (hQ : ∀ I', hmQf h dk I I' → Q (some (.int (spDeal O H qv))) 0 sh R L I') : ∀ n t r b J, n + t = 720 → hmQf h dk I J → (∀ q, q ∈ hmIt n r → q ∈ hmRows H) → r.length = (hmFind (hmFe2 O H) (hmBits (hmLine H))).1 → hmRw J (h + 45) r → J (h + 45) 2 = nI (hmFind (hmFe2 O H) (hmBits (hmLine H))).1 → J (h + 45) 3 = b.1 → (b.1 = -1 ∨ ∀ i, i < (hmFind (hmFe2 O H) (hmBits (hmLine H))).1 → J (h + 47) i = nI (b.2.getD i 0)) → ((hmIt n r).foldl (hmWg (hmFe2 O H)) b) = (hmFind (hmFe2 O H) (hmBits (hmLine H))).2 → (n = 0 → 0 ≤ b.1) → Ex (d + 5) 0 0 MX8_deal 0 sh R L J 18 [some (.ref h), some (.int qv), some (.int 1), some (.int (nI t))] [] Q := by
  obtain ⟨h6, hlen, hset, htak, hmin, hline, hhas, hheld, htalk⟩ := id hH
  obtain ⟨on, otk, ow, olen, olaw⟩ := id hO
  obtain ⟨o6, ot1, ot2, oo, oll, owf⟩ := id ho
  have hdd := xH_27 hx
  have hlN := hok.2.1
  intro n
  induction n with
  | zero =>
    intro t r b J ht gJ hin hz hrw j2 j3 j4 hb hge
    refine Ex_iload_n 19 (i := 2) dX8_deal_18 rfl rfl rfl ?_
    refine Ex_if_eq 22 86 dX8_deal_19 (by decide) rfl (fun c1 => absurd c1 (by decide)) (fun c1 => ?_)
    refine Ex_iload_n 23 (i := 3) dX8_deal_22 rfl rfl rfl ?_
    refine Ex_sipush 26 (v := 720) dX8_deal_23 (by decide) rfl ?_
    refine Ex_icmp_ge 29 86 dX8_deal_26 (by decide) rfl (fun c2 => ?_) (fun c2 => absurd c2 (fun q => q (nI_le (a := 720) (by omega) (by omega))))
    exact c_deal_end hx gJ j2 j3 j4 hb (hge rfl) hQ
  | succ n ih =>
    intro t r b J ht gJ hin hz hrw j2 j3 j4 hb hge
    have hrr := hin r (by rw [hmIt_cons]; exact List.mem_cons_self)
    obtain ⟨hrl, hrk, hrn, hrm, q6⟩ := hm_row_line hok ho hrr
    have ql : r.length ≤ 6 := by rw [hz]; exact hmMem_le _ 6
    have hHJ : hmR J (h + 30) H := hH.kept (fun x a b => gJ x (by omega) (by omega) (by omega))
    have hOJ : hmD J dk O := hO.kept (fun x a b => gJ x (by omega) (by omega) (by omega))
    have s10 := hm_s610 (hmNx_s6 hok ho hrr)
    have hpos : 0 ≤ (hmWg (hmFe2 O H) b r).1 := by
      have := hmMem_le (hmNx O H r) 6
      have z0 : 0 ≤ hmFe2 O H r := by
        unfold hmFe2
        rw [hm_cnt_mem (hmNx_s6 hok ho hrr)]
        exact hm_nI0 (by omega)
      unfold hmWg
      split
      · rename_i c
        exact Int32.le_trans z0 c
      · exact z0
    refine Ex_iload_n 19 (i := 2) dX8_deal_18 rfl rfl rfl ?_
    refine Ex_if_eq 22 86 dX8_deal_19 (by decide) rfl (fun c1 => absurd c1 (by decide)) (fun c1 => ?_)
    refine Ex_iload_n 23 (i := 3) dX8_deal_22 rfl rfl rfl ?_
    refine Ex_sipush 26 (v := 720) dX8_deal_23 (by decide) rfl ?_
    refine Ex_icmp_ge 29 86 dX8_deal_26 (by decide) rfl (fun c2 => absurd c2 (nI_ge (b := 720) (by omega) (by omega))) (fun c2 => ?_)
    refine Ex_aload_n 30 (i := 0) dX8_deal_29 rfl rfl rfl ?_
    refine Ex_getR 33 dX8_deal_30 fX8_63 (xH_0 hx) rfl (xH_11 hx) rfl ?_
    refine Ex_aload_n 34 (i := 0) dX8_deal_33 rfl rfl rfl ?_
    refine Ex_aload_n 35 (i := 0) dX8_deal_34 rfl rfl rfl ?_
    refine Ex_getR 38 dX8_deal_35 fX8_63 (xH_0 hx) rfl (xH_11 hx) rfl ?_
    refine Ex_callV (M' := MX8_settledNextBy) 41 [.ref (h + 45)] (rest := [.ref (h + 45)]) dX8_deal_38 lX8_221 mX8_settledNextBy rfl (xH_0 hx) rfl (Nat.le_of_ble_eq_true rfl) (Nat.le_of_ble_eq_true rfl) rfl ?_
    refine c_settledNextBy hx hOJ ho hHJ hok hmn hrr hrw (by rw [hz]; exact j2) (fun I2 g2 => ?_)
    have gg : ∀ x, ¬ (h + 35 ≤ x ∧ x < h + 40) → x ≠ dk + 8 → I2 x = J x := fun x a c => g2 x (by omega) c
    simp only [Option.toList, List.nil_append, List.cons_append]
    refine Ex_callS (M' := MJ6_bitCount_0f7a4) 44 [.int (hmNx O H r)] (rest := [.ref (h + 45)]) dX8_deal_41 lX8_203 mJ6_bitCount_0f7a4 rfl rfl (Nat.le_of_ble_eq_true rfl) (Nat.le_of_ble_eq_true rfl) rfl ?_
    refine c_bitCountS s10 ?_
    simp only [Option.toList, List.cons_append, List.nil_append]
    refine Ex_callV (M' := MX6_weigh) 47 [.int (hmFe2 O H r)] (rest := []) dX8_deal_44 lX8_225 mX6_weigh rfl (xH_23 hx).1 rfl (Nat.le_of_ble_eq_true rfl) (Nat.le_of_ble_eq_true rfl) rfl ?_
    refine c_weighB (f := (hmFe2 O H)) (b := b) (r := r) (xH_23 hx) (hrw.kept (gg _ (by omega) (by omega))) ql (by rw [gg _ (by omega) (by omega)]; exact j3) (by rw [gg _ (by omega) (by omega), hz]; exact j4) (fun I3 g3 k3 v3 w3 => ?_)
    simp only [Option.toList, List.nil_append, List.cons_append]
    have gt3 : hmQf h dk I I3 := (gJ.tr (hmQf.fd g2)).up (fun x a => g3 x (by omega) (by omega))
    have v2 : I3 (h + 45) 2 = nI (hmFind (hmFe2 O H) (hmBits (hmLine H))).1 := by rw [k3 2 (by omega), gg _ (by omega) (by omega)]; exact j2
    have hr3 : hmRw I3 (h + 45) r := fun k hk => by rw [g3 _ (by omega) (by omega), gg _ (by omega) (by omega)]; exact hrw k hk
    rw [hz] at w3
    refine Ex_aload_n 48 (i := 0) dX8_deal_47 rfl rfl rfl ?_
    refine Ex_getR 51 dX8_deal_48 fX8_63 (xH_0 hx) rfl (xH_11 hx) rfl ?_
    refine Ex_gI 54 (I3 (h + 45) 3) dX8_deal_51 fX8_228 (xH_23 hx).1 rfl rfl rfl ?_
    rw [v3]
    refine Ex_aload_n 55 (i := 0) dX8_deal_54 rfl rfl rfl ?_
    refine Ex_getR 58 dX8_deal_55 fX8_63 (xH_0 hx) rfl (xH_11 hx) rfl ?_
    refine Ex_gI 61 (I3 (h + 45) 2) dX8_deal_58 fX8_231 (xH_23 hx).1 rfl rfl rfl ?_
    rw [v2]
    refine Ex_icmp_ge 64 78 dX8_deal_61 (by decide) rfl (fun c3 => ?_) (fun c3 => ?_)
    · refine Ex_iconst 79 (v := 0) dX8_deal_78 (by decide) rfl ?_
      refine Ex_istore_n 80 (i := 2) (ls' := [some (.ref h), some (.int qv), some (.int 0), some (.int (nI t))]) dX8_deal_79 rfl (Nat.le_of_ble_eq_true rfl) rfl rfl rfl ?_
      refine Ex_iinc 83 (v := (nI (t + 1))) (ls' := [some (.ref h), some (.int qv), some (.int 0), some (.int (nI (t + 1)))]) dX8_deal_80 rfl (xinc _) (Nat.le_of_ble_eq_true rfl) rfl rfl rfl ?_
      refine Ex_goto 18 dX8_deal_83 (by decide) ?_
      refine Ex_iload_n 19 (i := 2) dX8_deal_18 rfl rfl rfl ?_
      refine Ex_if_eq 22 86 dX8_deal_19 (by decide) rfl (fun c4 => ?_) (fun c4 => absurd c4 (fun q => q (by decide)))
      have eS : (hmIt (n + 1) r).foldl (hmWg (hmFe2 O H)) b = hmWg (hmFe2 O H) b r := by
        rw [hmIt_cons, List.foldl_cons]
        refine hmWg_stop _ (fun q hq => ?_)
        have hq2 := hin q (by rw [hmIt_cons]; exact List.mem_cons_of_mem _ hq)
        refine Int32.le_trans ?_ c3
        show hmCnt (hmNx O H q) ≤ nI (hmMem (hmBits (hmLine H)) 6).length
        rw [hm_cnt_mem (hmNx_s6 hok ho hq2)]
        exact nI_le (hmNx_le hok ho hq2) (by have := hmMem_le (hmBits (hmLine H)) 6; omega)
      rw [eS] at hb
      exact c_deal_end hx gt3 v2 v3 w3 hb hpos hQ
    · refine Ex_aload_n 65 (i := 0) dX8_deal_64 rfl rfl rfl ?_
      refine Ex_getR 68 dX8_deal_65 fX8_63 (xH_0 hx) rfl (xH_11 hx) rfl ?_
      refine Ex_callV (M' := MX6_advance) 71 [] (rest := []) dX8_deal_68 lX8_234 mX6_advance rfl (xH_23 hx).1 rfl (Nat.le_of_ble_eq_true rfl) (Nat.le_of_ble_eq_true rfl) rfl ?_
      refine c_advance (r := r) (xH_23 hx) hr3 q6 ql (by rw [hz]; exact v2) (fun eA => ?_) (fun r4 I4 eA g4 hr4 => ?_)
      · simp only [Option.toList, List.nil_append, List.cons_append]
        refine Ex_if_eq 74 78 dX8_deal_71 (by decide) rfl (fun c5 => ?_) (fun c5 => absurd c5 (fun q => q (by decide)))
        refine Ex_iconst 79 (v := 0) dX8_deal_78 (by decide) rfl ?_
        refine Ex_istore_n 80 (i := 2) (ls' := [some (.ref h), some (.int qv), some (.int 0), some (.int (nI t))]) dX8_deal_79 rfl (Nat.le_of_ble_eq_true rfl) rfl rfl rfl ?_
        refine Ex_iinc 83 (v := (nI (t + 1))) (ls' := [some (.ref h), some (.int qv), some (.int 0), some (.int (nI (t + 1)))]) dX8_deal_80 rfl (xinc _) (Nat.le_of_ble_eq_true rfl) rfl rfl rfl ?_
        refine Ex_goto 18 dX8_deal_83 (by decide) ?_
        refine Ex_iload_n 19 (i := 2) dX8_deal_18 rfl rfl rfl ?_
        refine Ex_if_eq 22 86 dX8_deal_19 (by decide) rfl (fun c6 => ?_) (fun c6 => absurd c6 (fun q => q (by decide)))
        have eS : (hmIt (n + 1) r).foldl (hmWg (hmFe2 O H)) b = hmWg (hmFe2 O H) b r := by
          rw [hmIt_cons, eA]
          rfl
        rw [eS] at hb
        exact c_deal_end hx gt3 v2 v3 w3 hb hpos hQ
      · simp only [Option.toList, List.nil_append, List.cons_append]
        refine Ex_if_eq 74 78 dX8_deal_71 (by decide) rfl (fun c7 => absurd c7 (by decide)) (fun c7 => ?_)
        refine Ex_iconst 75 (v := 1) dX8_deal_74 (by decide) rfl ?_
        refine Ex_goto 79 dX8_deal_75 (by decide) ?_
        refine Ex_istore_n 80 (i := 2) (ls' := [some (.ref h), some (.int qv), some (.int 1), some (.int (nI t))]) dX8_deal_79 rfl (Nat.le_of_ble_eq_true rfl) rfl rfl rfl ?_
        refine Ex_iinc 83 (v := (nI (t + 1))) (ls' := [some (.ref h), some (.int qv), some (.int 1), some (.int (nI (t + 1)))]) dX8_deal_80 rfl (xinc _) (Nat.le_of_ble_eq_true rfl) rfl rfl rfl ?_
        refine Ex_goto 18 dX8_deal_83 (by decide) ?_
        have eS : (hmIt (n + 1) r).foldl (hmWg (hmFe2 O H)) b = (hmIt n r4).foldl (hmWg (hmFe2 O H)) (hmWg (hmFe2 O H) b r) := by
          rw [hmIt_cons, eA]
          rfl
        rw [eS] at hb
        have kk : ∀ x, x ≠ h + 46 → I4 x = I3 x := fun x a => g4 x a
        exact ih (t + 1) r4 (hmWg (hmFe2 O H) b r) I4 (by omega) (gt3.up (fun x a => kk x (by omega))) (fun q hq => hin q (by rw [hmIt_cons, eA]; exact List.mem_cons_of_mem _ hq)) ((hmAdv_len eA).trans hz) hr4 (by rw [kk _ (by omega)]; exact v2) (by rw [kk _ (by omega)]; exact v3) (by rw [kk _ (by omega)]; exact w3) hb (fun _ => hpos)
set_option maxHeartbeats 4000000 in
theorem c_deal {d : Nat} {sh : xSh} {R : xR} {L : xL} {I : xI} {Q : xQ} {h dk dd pl pd : Nat} {O : hmO} {H : hmH} (hx : xHM sh R h dk dd pl pd) (hO : hmD I dk O) (ho : hmOok O) (hH : hmR I (h + 30) H) (hok : hmOk O H) (hmn : hmMin H < 800000) {qv : Int32} (hQ : ∀ I', hmQf h dk I I' → Q (some (.int (spDeal O H qv))) 0 sh R L I') : Ex (d + 5) 0 0 MX8_deal 0 sh R L I 0 [some (.ref h), some (.int qv), none, none] [] Q := by
  obtain ⟨h6, hlen, hset, htak, hmin, hline, hhas, hheld, htalk⟩ := id hH
  obtain ⟨on, otk, ow, olen, olaw⟩ := id hO
  obtain ⟨o6, ot1, ot2, oo, oll, owf⟩ := id ho
  have hdd := xH_27 hx
  have hlN := hok.2.1
  have hpm := hm_pm_it (hm_line_s6 hok ho)
  refine Ex_aload_n 1 (i := 0) dX8_deal_0 rfl rfl rfl ?_
  refine Ex_getR 4 dX8_deal_1 fX8_63 (xH_0 hx) rfl (xH_11 hx) rfl ?_
  refine Ex_aload_n 5 (i := 0) dX8_deal_4 rfl rfl rfl ?_
  refine Ex_getR 8 dX8_deal_5 fX8_39 (xH_0 hx) rfl (xH_6 hx) rfl ?_
  refine Ex_callV (M' := MX1_lineBits) 11 [] (rest := [.ref (h + 45)]) dX8_deal_8 lX8_215 mX1_lineBits rfl (xH_18 hx).1 rfl (Nat.le_of_ble_eq_true rfl) (Nat.le_of_ble_eq_true rfl) rfl ?_
  refine c_lineBits (xH_18 hx) hH ?_
  simp only [Option.toList, List.cons_append, List.nil_append]
  refine Ex_callV (M' := MX6_begin) 14 [.int (hmBits (hmLine H))] (rest := []) dX8_deal_11 lX8_218 mX6_begin rfl (xH_23 hx).1 rfl (Nat.le_of_ble_eq_true rfl) (Nat.le_of_ble_eq_true rfl) rfl ?_
  refine c_rowsBegin (xH_23 hx) (fun I1 k1 k2 k3 k4 k5 => ?_)
  simp only [Option.toList, List.nil_append, List.cons_append]
  refine Ex_iconst 15 (v := 1) dX8_deal_14 (by decide) rfl ?_
  refine Ex_istore_n 16 (i := 2) (ls' := [some (.ref h), some (.int qv), some (.int 1), none]) dX8_deal_15 rfl (Nat.le_of_ble_eq_true rfl) rfl rfl rfl ?_
  refine Ex_iconst 17 (v := 0) dX8_deal_16 (by decide) rfl ?_
  refine Ex_istore_n 18 (i := 3) (ls' := [some (.ref h), some (.int qv), some (.int 1), some (.int 0)]) dX8_deal_17 rfl (Nat.le_of_ble_eq_true rfl) rfl rfl rfl ?_
  have g1 : hmQf h dk I I1 := fun x a b c => k1 x (by omega) (by omega)
  exact c_deal_loop (I := I) hx hO ho hH hok hmn hQ 720 0 (hmMem (hmBits (hmLine H)) 6) (-1, []) I1 rfl g1 (fun q hq => by unfold hmRows; rw [hpm]; exact hq) rfl k5 k2 k3 (Or.inl rfl) (by unfold hmFind; rw [hpm]) (fun q => absurd q (by decide))
theorem hmGd_le (O : hmO) (H : hmH) (w : Nat) : ∀ (l : List (List Nat)) (g : Nat), hmGd O H w g l ≤ g + l.length := by
  intro l
  induction l with
  | nil => intro g; exact Nat.le_refl _
  | cons r l ih =>
    intro g
    have h := ih (if hmBit (hmNx O H r) w = true then g + 1 else g)
    show hmGd O H w (if hmBit (hmNx O H r) w = true then g + 1 else g) l ≤ _
    rw [List.length_cons]
    by_cases c : hmBit (hmNx O H r) w = true
    · rw [if_pos c] at h ⊢
      omega
    · rw [if_neg c] at h ⊢
      omega
theorem hm_bitval {x : Int32} {k : Nat} : (x >>> (nI k &&& 31)) &&& 1 = if hmBit x k = true then 1 else 0 := by
  by_cases h : hmBit x k = true
  · rw [if_pos h]
    exact hmBit_1.mp h
  · rw [if_neg h]
    have h2 : ¬ (x >>> (nI k &&& 31)) &&& 1 = 1 := fun q => h (hmBit_1.mpr q)
    exact (hm_and1 _).resolve_right h2
theorem hm_goodI {x : Int32} {k g : Nat} : nI g + ((x >>> (nI k &&& 31)) &&& 1) = nI (if hmBit x k = true then g + 1 else g) := by
  rw [hm_bitval]
  by_cases h : hmBit x k = true
  · rw [if_pos h, if_pos h]
    exact nI_1 g
  · rw [if_neg h, if_neg h]
    exact Int32.add_zero _
set_option maxHeartbeats 4000000 in
theorem c_chance_end {d : Nat} {sh : xSh} {R : xR} {L : xL} {I : xI} {Q : xQ} {h dk dd pl pd : Nat} (hx : xHM sh R h dk dd pl pd) {J : xI} (gJ : hmQf h dk I J) {w al gd : Nat} (ha : 1 ≤ al) (ha2 : al ≤ 720) (hg : gd ≤ 720) {x4 : Int32} (hQ : ∀ I', hmQf h dk I I' → Q (some (.int (nI (gd * 1000000 / al)))) 0 sh R L I') : Ex d 0 0 MX8_chance 0 sh R L J 73 [some (.ref h), some (.int (nI w)), some (.int (nI al)), some (.int (nI gd)), some (.int x4)] [] Q := by
  refine Ex_iload_n 74 (i := 2) dX8_chance_73 rfl rfl rfl ?_
  refine Ex_if_le 77 86 dX8_chance_74 (by decide) rfl (fun c1 => absurd c1 (fun q => absurd (hm_le0 (by omega) q) (by omega))) (fun c1 => ?_)
  refine Ex_iload_n 78 (i := 3) dX8_chance_77 rfl rfl rfl ?_
  refine Ex_ldc 80 (v := 1000000) dX8_chance_78 kX8_253 rfl ?_
  refine Ex_imul 81 dX8_chance_80 rfl ?_
  rw [show (1000000 : Int32) = nI 1000000 from rfl, pk_mul]
  refine Ex_iload_n 82 (i := 2) dX8_chance_81 rfl rfl rfl ?_
  refine Ex_idiv 83 dX8_chance_82 (fun q => absurd ((nI_eq (b := 0) (by omega) (by omega)).mp q) (by omega)) rfl ?_
  rw [pk_div (by omega) (by omega) (by omega)]
  refine Ex_goto 87 dX8_chance_83 (by decide) ?_
  refine Ex_iret dX8_chance_87 rfl rfl (Or.inl rfl) ?_
  exact hQ J gJ
set_option maxHeartbeats 4000000 in
theorem c_chance_loop {d : Nat} {sh : xSh} {R : xR} {L : xL} {I : xI} {Q : xQ} {h dk dd pl pd : Nat} {O : hmO} {H : hmH} (hx : xHM sh R h dk dd pl pd) (hO : hmD I dk O) (ho : hmOok O) (hH : hmR I (h + 30) H) (hok : hmOk O H) (hmn : hmMin H < 800000) {w : Nat} (hw : w < 6) : ∀ n t g r J, n + t = 720 → hmQf h dk I J → (∀ q, q ∈ hmIt n r → q ∈ hmRows H) → r.length = (hmMem (hmBits (hmLine H)) 6).length → hmRw J (h + 45) r → J (h + 45) 2 = nI (hmMem (hmBits (hmLine H)) 6).length → (n = 0 → 1 ≤ t) → g ≤ t → (∀ I', hmQf h dk I I' → Q (some (.int (nI (hmGd O H w g (hmIt n r) * 1000000 / (t + (hmIt n r).length))))) 0 sh R L I') → Ex (d + 5) 0 0 MX8_chance 0 sh R L J 31 [some (.ref h), some (.int (nI w)), some (.int (nI t)), some (.int (nI g)), some (.int 1)] [] Q := by
  obtain ⟨h6, hlen, hset, htak, hmin, hline, hhas, hheld, htalk⟩ := id hH
  obtain ⟨on, otk, ow, olen, olaw⟩ := id hO
  obtain ⟨o6, ot1, ot2, oo, oll, owf⟩ := id ho
  have hdd := xH_27 hx
  have hlN := hok.2.1
  intro n
  induction n with
  | zero =>
    intro t g r J ht gJ hin hz hrw j2 ht1 hg hQ
    refine Ex_iload 33 dX8_chance_31 rfl rfl ?_
    refine Ex_if_eq 36 73 dX8_chance_33 (by decide) rfl (fun c1 => absurd c1 (by decide)) (fun c1 => ?_)
    refine Ex_iload_n 37 (i := 2) dX8_chance_36 rfl rfl rfl ?_
    refine Ex_sipush 40 (v := 720) dX8_chance_37 (by decide) rfl ?_
    refine Ex_icmp_ge 43 73 dX8_chance_40 (by decide) rfl (fun c2 => ?_) (fun c2 => absurd c2 (fun q => q (nI_le (a := 720) (by omega) (by omega))))
    exact c_chance_end hx gJ (ht1 rfl) (by omega) (by omega) hQ
  | succ n ih =>
    intro t g r J ht gJ hin hz hrw j2 ht1 hg hQ
    have hrr := hin r (by rw [hmIt_cons]; exact List.mem_cons_self)
    obtain ⟨hrl, hrk, hrn, hrm, q6⟩ := hm_row_line hok ho hrr
    have ql : r.length ≤ 6 := by rw [hz]; exact hmMem_le _ 6
    have hHJ : hmR J (h + 30) H := hH.kept (fun x a b => gJ x (by omega) (by omega) (by omega))
    have hOJ : hmD J dk O := hO.kept (fun x a b => gJ x (by omega) (by omega) (by omega))
    refine Ex_iload 33 dX8_chance_31 rfl rfl ?_
    refine Ex_if_eq 36 73 dX8_chance_33 (by decide) rfl (fun c1 => absurd c1 (by decide)) (fun c1 => ?_)
    refine Ex_iload_n 37 (i := 2) dX8_chance_36 rfl rfl rfl ?_
    refine Ex_sipush 40 (v := 720) dX8_chance_37 (by decide) rfl ?_
    refine Ex_icmp_ge 43 73 dX8_chance_40 (by decide) rfl (fun c2 => absurd c2 (nI_ge (b := 720) (by omega) (by omega))) (fun c2 => ?_)
    refine Ex_iload_n 44 (i := 3) dX8_chance_43 rfl rfl rfl ?_
    refine Ex_aload_n 45 (i := 0) dX8_chance_44 rfl rfl rfl ?_
    refine Ex_aload_n 46 (i := 0) dX8_chance_45 rfl rfl rfl ?_
    refine Ex_getR 49 dX8_chance_46 fX8_63 (xH_0 hx) rfl (xH_11 hx) rfl ?_
    refine Ex_callV (M' := MX8_settledNextBy) 52 [.ref (h + 45)] (rest := [.int (nI g)]) dX8_chance_49 lX8_221 mX8_settledNextBy rfl (xH_0 hx) rfl (Nat.le_of_ble_eq_true rfl) (Nat.le_of_ble_eq_true rfl) rfl ?_
    refine c_settledNextBy hx hOJ ho hHJ hok hmn hrr hrw (by rw [hz]; exact j2) (fun I2 g2 => ?_)
    have gg : ∀ x, ¬ (h + 35 ≤ x ∧ x < h + 40) → x ≠ dk + 8 → I2 x = J x := fun x a c => g2 x (by omega) c
    simp only [Option.toList, List.nil_append, List.cons_append]
    refine Ex_iload_n 53 (i := 1) dX8_chance_52 rfl rfl rfl ?_
    refine Ex_ishr 54 dX8_chance_53 rfl ?_
    refine Ex_iconst 55 (v := 1) dX8_chance_54 (by decide) rfl ?_
    refine Ex_iand 56 dX8_chance_55 rfl ?_
    refine Ex_iadd 57 dX8_chance_56 rfl ?_
    rw [hm_goodI]
    have gt3 : hmQf h dk I I2 := gJ.tr (hmQf.fd g2)
    have v2 : I2 (h + 45) 2 = nI (hmMem (hmBits (hmLine H)) 6).length := by rw [gg _ (by omega) (by omega)]; exact j2
    have hr3 : hmRw I2 (h + 45) r := fun k hk => by rw [gg _ (by omega) (by omega)]; exact hrw k hk
    have hg1 : (if hmBit (hmNx O H r) w = true then g + 1 else g) ≤ t + 1 := by split <;> omega
    refine Ex_istore_n 58 (i := 3) (ls' := [some (.ref h), some (.int (nI w)), some (.int (nI t)), some (.int (nI (if hmBit (hmNx O H r) w = true then g + 1 else g))), some (.int 1)]) dX8_chance_57 rfl (Nat.le_of_ble_eq_true rfl) rfl rfl rfl ?_
    refine Ex_iinc 61 (v := (nI (t + 1))) (ls' := [some (.ref h), some (.int (nI w)), some (.int (nI (t + 1))), some (.int (nI (if hmBit (hmNx O H r) w = true then g + 1 else g))), some (.int 1)]) dX8_chance_58 rfl (xinc _) (Nat.le_of_ble_eq_true rfl) rfl rfl rfl ?_
    refine Ex_aload_n 62 (i := 0) dX8_chance_61 rfl rfl rfl ?_
    refine Ex_getR 65 dX8_chance_62 fX8_63 (xH_0 hx) rfl (xH_11 hx) rfl ?_
    refine Ex_callV (M' := MX6_advance) 68 [] (rest := []) dX8_chance_65 lX8_234 mX6_advance rfl (xH_23 hx).1 rfl (Nat.le_of_ble_eq_true rfl) (Nat.le_of_ble_eq_true rfl) rfl ?_
    refine c_advance (r := r) (xH_23 hx) hr3 q6 ql (by rw [hz]; exact v2) (fun eA => ?_) (fun r4 I4 eA g4 hr4 => ?_)
    · simp only [Option.toList, List.nil_append, List.cons_append]
      refine Ex_istore 70 (ls' := [some (.ref h), some (.int (nI w)), some (.int (nI (t + 1))), some (.int (nI (if hmBit (hmNx O H r) w = true then g + 1 else g))), some (.int 0)]) dX8_chance_68 (Nat.le_of_ble_eq_true rfl) rfl rfl rfl ?_
      refine Ex_goto 31 dX8_chance_70 (by decide) ?_
      refine Ex_iload 33 dX8_chance_31 rfl rfl ?_
      refine Ex_if_eq 36 73 dX8_chance_33 (by decide) rfl (fun c3 => ?_) (fun c3 => absurd c3 (fun q => q (by decide)))
      have eS : hmIt (n + 1) r = [r] := by rw [hmIt_cons, eA]
      rw [eS] at hQ
      exact c_chance_end hx gt3 (by omega) (by omega) (by omega) hQ
    · simp only [Option.toList, List.nil_append, List.cons_append]
      refine Ex_istore 70 (ls' := [some (.ref h), some (.int (nI w)), some (.int (nI (t + 1))), some (.int (nI (if hmBit (hmNx O H r) w = true then g + 1 else g))), some (.int 1)]) dX8_chance_68 (Nat.le_of_ble_eq_true rfl) rfl rfl rfl ?_
      refine Ex_goto 31 dX8_chance_70 (by decide) ?_
      have eS : hmIt (n + 1) r = r :: hmIt n r4 := by rw [hmIt_cons, eA]
      rw [eS] at hQ
      have kk : ∀ x, x ≠ h + 46 → I4 x = I2 x := fun x a => g4 x a
      refine ih (t + 1) (if hmBit (hmNx O H r) w = true then g + 1 else g) r4 I4 (by omega) (gt3.up (fun x a => kk x (by omega))) (fun q hq => hin q (by rw [eS]; exact List.mem_cons_of_mem _ hq)) ((hmAdv_len eA).trans hz) hr4 (by rw [kk _ (by omega)]; exact v2) (fun _ => by omega) hg1 (fun I' g => ?_)
      have e2 : t + (r :: hmIt n r4).length = t + 1 + (hmIt n r4).length := by rw [List.length_cons]; omega
      rw [e2] at hQ
      exact hQ I' g
set_option maxHeartbeats 4000000 in
theorem c_chance {d : Nat} {sh : xSh} {R : xR} {L : xL} {I : xI} {Q : xQ} {h dk dd pl pd : Nat} {O : hmO} {H : hmH} (hx : xHM sh R h dk dd pl pd) (hO : hmD I dk O) (ho : hmOok O) (hH : hmR I (h + 30) H) (hok : hmOk O H) (hmn : hmMin H < 800000) {qv : Int32} (hQ : ∀ I', hmQf h dk I I' → Q (some (.int (spChance O H qv))) 0 sh R L I') : Ex (d + 5) 0 0 MX8_chance 0 sh R L I 0 [some (.ref h), some (.int qv), none, none, none] [] Q := by
  obtain ⟨h6, hlen, hset, htak, hmin, hline, hhas, hheld, htalk⟩ := id hH
  obtain ⟨on, otk, ow, olen, olaw⟩ := id hO
  obtain ⟨o6, ot1, ot2, oo, oll, owf⟩ := id ho
  have hdd := xH_27 hx
  have hlN := hok.2.1
  have hpm := hm_pm_it (hm_line_s6 hok ho)
  refine Ex_aload_n 1 (i := 0) dX8_chance_0 rfl rfl rfl ?_
  refine Ex_iload_n 2 (i := 1) dX8_chance_1 rfl rfl rfl ?_
  refine Ex_callV (M' := MX8_isOnLine) 5 [.int qv] (rest := []) dX8_chance_2 lX8_143 mX8_isOnLine rfl (xH_0 hx) rfl (Nat.le_of_ble_eq_true rfl) (Nat.le_of_ble_eq_true rfl) rfl ?_
  refine c_isOnLine hx hO ho hH hok ?_
  simp only [Option.toList, List.cons_append, List.nil_append]
  refine Ex_if_ne 8 10 dX8_chance_5 (by decide) rfl (fun c1 => ?_) (fun c1 => ?_)
  · have hon := hmB_ne c1
    obtain ⟨w, hw, hwm, rfl⟩ := hmOn_of o6 hon
    have hix : hmIx (nI w) = w := hmIx_nI (by omega)
    refine Ex_iconst 11 (v := 0) dX8_chance_10 (by decide) rfl ?_
    refine Ex_istore_n 12 (i := 2) (ls' := [some (.ref h), some (.int (nI w)), some (.int 0), none, none]) dX8_chance_11 rfl (Nat.le_of_ble_eq_true rfl) rfl rfl rfl ?_
    refine Ex_iconst 13 (v := 0) dX8_chance_12 (by decide) rfl ?_
    refine Ex_istore_n 14 (i := 3) (ls' := [some (.ref h), some (.int (nI w)), some (.int 0), some (.int 0), none]) dX8_chance_13 rfl (Nat.le_of_ble_eq_true rfl) rfl rfl rfl ?_
    refine Ex_aload_n 15 (i := 0) dX8_chance_14 rfl rfl rfl ?_
    refine Ex_getR 18 dX8_chance_15 fX8_63 (xH_0 hx) rfl (xH_11 hx) rfl ?_
    refine Ex_aload_n 19 (i := 0) dX8_chance_18 rfl rfl rfl ?_
    refine Ex_getR 22 dX8_chance_19 fX8_39 (xH_0 hx) rfl (xH_6 hx) rfl ?_
    refine Ex_callV (M' := MX1_lineBits) 25 [] (rest := [.ref (h + 45)]) dX8_chance_22 lX8_215 mX1_lineBits rfl (xH_18 hx).1 rfl (Nat.le_of_ble_eq_true rfl) (Nat.le_of_ble_eq_true rfl) rfl ?_
    refine c_lineBits (xH_18 hx) hH ?_
    simp only [Option.toList, List.cons_append, List.nil_append]
    refine Ex_callV (M' := MX6_begin) 28 [.int (hmBits (hmLine H))] (rest := []) dX8_chance_25 lX8_218 mX6_begin rfl (xH_23 hx).1 rfl (Nat.le_of_ble_eq_true rfl) (Nat.le_of_ble_eq_true rfl) rfl ?_
    refine c_rowsBegin (xH_23 hx) (fun I1 k1 k2 k3 k4 k5 => ?_)
    simp only [Option.toList, List.nil_append, List.cons_append]
    refine Ex_iconst 29 (v := 1) dX8_chance_28 (by decide) rfl ?_
    refine Ex_istore 31 (ls' := [some (.ref h), some (.int (nI w)), some (.int 0), some (.int 0), some (.int 1)]) dX8_chance_29 (Nat.le_of_ble_eq_true rfl) rfl rfl rfl ?_
    have g1 : hmQf h dk I I1 := fun x a b c => k1 x (by omega) (by omega)
    have e : spChance O H (nI w) = nI (hmGd O H w 0 (hmIt 720 (hmMem (hmBits (hmLine H)) 6)) * 1000000 / (0 + (hmIt 720 (hmMem (hmBits (hmLine H)) 6)).length)) := by
      rw [← hpm, Nat.zero_add]
      simp only [spChance, hon, hix, if_true]
      rfl
    rw [e] at hQ
    exact c_chance_loop (I := I) hx hO ho hH hok hmn (by omega) 720 0 0 (hmMem (hmBits (hmLine H)) 6) I1 rfl g1 (fun q hq => by unfold hmRows; rw [hpm]; exact hq) rfl k5 k2 (fun q => absurd q (by decide)) (Nat.le_refl _) hQ
  · refine Ex_iconst 9 (v := (-1)) dX8_chance_8 (by decide) rfl ?_
    refine Ex_iret dX8_chance_9 rfl rfl (Or.inl rfl) ?_
    have e : spChance O H qv = -1 := by
      simp [spChance, hmB_eq c1]
    rw [← e]
    exact hQ _ hmQf.rf
