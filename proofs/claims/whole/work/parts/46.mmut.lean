/-! changes by hand: the reference -/
def hmMP (I : xI) (m : Nat) (P : List hmH) : Prop := P.length ≤ 16 ∧ I m 45 = nI P.length ∧ ∀ j H, P[j]? = some H → hmMr (fun k => I (m + 32) (58 * (P.length - 1 - j) + k)) H
theorem hmMP.kept {I I' : xI} {m : Nat} {P : List hmH} (h : hmMP I m P) (h0 : I' m 45 = I m 45) (h1 : I' (m + 32) = I (m + 32)) : hmMP I' m P := by
  unfold hmMP at h ⊢
  rw [h0, h1]
  exact h
theorem hm_58 (d : Nat) : 58 * nI d = nI (58 * d) := by
  show nI 58 * nI d = _
  unfold nI
  rw [← Int32.ofNat_mul]
def hmSh (r : Nat → Int32) (i : Nat) : Nat → Int32 := fun k => if k < i then r (k + 58) else r k
theorem hmSh_s (r : Nat → Int32) (i : Nat) : va_up (hmSh r i) i (hmSh r i (i + 58)) = hmSh r (i + 1) := by
  funext k
  unfold hmSh
  by_cases e : k = i
  · subst e
    rw [va_up_self, if_neg (by omega), if_pos (by omega)]
  · rw [va_up_ne _ _ e]
    by_cases e2 : k < i
    · rw [if_pos e2, if_pos (by omega)]
    · rw [if_neg e2, if_neg (by omega)]
theorem hmSh_0 (r : Nat → Int32) : hmSh r 0 = r := by
  funext k
  unfold hmSh
  rw [if_neg (by omega)]
theorem hm_cpy2 {f g : Nat → Int32} {b k : Nat} : (k < 58 → va_cpy f g 0 b 58 (b + k) = f k) ∧ (∀ x, x < b → va_cpy f g 0 b 58 x = g x) := by
  constructor
  · intro hk
    unfold va_cpy
    rw [if_pos (by omega)]
    congr 1
    omega
  · intro x hx
    unfold va_cpy
    rw [if_neg (by omega)]
set_option maxHeartbeats 4000000 in
theorem mc_keeps_49 {d : Nat} {sh : xSh} {R : xR} {L : xL} {I : xI} {Q : xQ} {m : Nat} {H : hmH} (hm : xModel sh R m) (hS : hmMr (I (m + 28)) H) {P : List hmH} (hP : hmMP I m P) (hl : P.length < 16) (hQ : ∀ I', (∀ x, x ≠ m → x ≠ m + 32 → I' x = I x) → (∀ k, k ≠ 45 → I' m k = I m k) → hmMP I' m ((H :: P).take 16) → Q none 0 sh R L I') : Ex (d + 1) 0 0 MX9_keeps 0 sh R L I 49 [some (.ref m), none] [] Q := by
  obtain ⟨p1, p2, p3⟩ := id hP
  refine Ex_aload_n 50 (i := 0) dX9_keeps_49 rfl rfl rfl ?_
  refine Ex_getR 53 dX9_keeps_50 fX9_93 (xMs_0 hm) rfl (xMr_39 hm) rfl ?_
  refine Ex_iconst 54 (v := 0) dX9_keeps_53 (by decide) rfl ?_
  refine Ex_aload_n 55 (i := 0) dX9_keeps_54 rfl rfl rfl ?_
  refine Ex_getR 58 dX9_keeps_55 fX9_105 (xMs_0 hm) rfl (xMr_43 hm) rfl ?_
  refine Ex_bipush 60 (v := 58) dX9_keeps_58 (by decide) rfl ?_
  refine Ex_aload_n 61 (i := 0) dX9_keeps_60 rfl rfl rfl ?_
  refine Ex_gI 64 (I m 45) dX9_keeps_61 fX9_306 (xMs_0 hm) rfl rfl rfl ?_
  rw [p2]
  refine Ex_imul 65 dX9_keeps_64 rfl ?_
  rw [hm_58]
  refine Ex_callS (M' := MX9_copies) 68 [.ref (m + 28), .int 0, .ref (m + 32), .int (nI (58 * P.length))] (rest := []) dX9_keeps_65 lX9_350 mX9_copies rfl rfl (Nat.le_of_ble_eq_true rfl) (Nat.le_of_ble_eq_true rfl) rfl ?_
  refine mc_cp (np := 58) (nq := 928) (a := 0) (b := (58 * P.length)) (J := (va_up I (m + 32) (va_cpy (I (m + 28)) (I (m + 32)) 0 (58 * P.length) 58))) (xMs_28 hm) (xMs_32 hm) (by omega) (by omega) (by omega) (by omega) (by omega) rfl rfl rfl ?_
  simp only [Option.toList, List.nil_append, List.cons_append]
  refine Ex_aload_n 69 (i := 0) dX9_keeps_68 rfl rfl rfl ?_
  refine Ex_dup 70 dX9_keeps_69 rfl rfl ?_
  refine Ex_gI 73 (I m 45) dX9_keeps_70 fX9_306 (xMs_0 hm) rfl (congrFun (va_up_ne _ _ (by omega)) _) rfl ?_
  rw [p2]
  refine Ex_iconst 74 (v := 1) dX9_keeps_73 (by decide) rfl ?_
  refine Ex_iadd 75 dX9_keeps_74 rfl ?_
  rw [nI_1]
  refine Ex_pI 78 (I m) (va_up (va_up I (m + 32) (va_cpy (I (m + 28)) (I (m + 32)) 0 (58 * P.length) 58)) m (va_up (I m) 45 (nI (P.length + 1)))) dX9_keeps_75 fX9_306 rfl (xMs_0 hm) rfl (fun _ => rfl) (va_up_ne _ _ (by omega)) rfl rfl rfl ?_
  refine Ex_ret0 dX9_keeps_78 rfl (Or.inl rfl) ?_
  have ht : (H :: P).take 16 = H :: P := List.take_of_length_le (by rw [List.length_cons]; omega)
  rw [ht] at hQ
  refine hQ _ (fun x a b => by rw [va_up_ne _ _ a, va_up_ne _ _ b]) (fun k a => by rw [va_up_self, va_up_ne _ _ a]) ⟨by rw [List.length_cons]; omega, by rw [va_up_self, va_up_self, List.length_cons], fun j G hj => ?_⟩
  have hjl := (List.getElem?_eq_some_iff.mp hj).1
  rw [List.length_cons] at hjl ⊢
  have key : ∀ r, r = va_cpy (I (m + 28)) (I (m + 32)) 0 (58 * P.length) 58 → hmMr (fun k => r (58 * (P.length + 1 - 1 - j) + k)) G := by
    intro r er
    subst er
    cases j with
    | zero =>
      have h2 : H = G := by simpa using hj
      rw [← h2]
      refine hS.ext (fun k hk => ?_)
      show va_cpy _ _ 0 _ 58 (58 * (P.length + 1 - 1 - 0) + k) = _
      rw [show 58 * (P.length + 1 - 1 - 0) + k = 58 * P.length + k by omega]
      exact hm_cpy2.1 hk
    | succ j =>
      refine (p3 j G (by simpa using hj)).ext (fun k hk => ?_)
      show va_cpy _ _ 0 _ 58 (58 * (P.length + 1 - 1 - (j + 1)) + k) = _
      rw [(hm_cpy2 (k := 0)).2 _ (by omega)]
      congr 1
      omega
  refine key _ ?_
  rw [va_up_ne _ _ (by omega), va_up_self]
set_option maxHeartbeats 4000000 in
theorem mc_keeps_sh {d : Nat} {sh : xSh} {R : xR} {L : xL} {I : xI} {Q : xQ} {m : Nat} (hm : xModel sh R m) {r : Nat → Int32} (hE : Ex (d + 1) 0 0 MX9_keeps 0 sh R L (va_up I (m + 32) (hmSh r 870)) 39 [some (.ref m), none] [] Q) : ∀ n i, n + i = 870 → Ex (d + 1) 0 0 MX9_keeps 0 sh R L (va_up I (m + 32) (hmSh r i)) 11 [some (.ref m), some (.int (nI i))] [] Q := by
  intro n
  induction n with
  | zero =>
    intro i hi
    have hie : i = 870 := by omega
    subst hie
    refine Ex_iload_n 12 (i := 1) dX9_keeps_11 rfl rfl rfl ?_
    refine Ex_sipush 15 (v := 870) dX9_keeps_12 (by decide) rfl ?_
    refine Ex_icmp_ge 18 39 dX9_keeps_15 (by decide) rfl (fun c1 => ?_) (fun c1 => absurd c1 (fun q => q (nI_le (a := 870) (b := 870) (by omega) (by omega))))
    refine Ex_fgt (ls' := [some (.ref m), none]) (by simp [xsub]) ?_
    exact hE
  | succ n ih =>
    intro i hi
    refine Ex_iload_n 12 (i := 1) dX9_keeps_11 rfl rfl rfl ?_
    refine Ex_sipush 15 (v := 870) dX9_keeps_12 (by decide) rfl ?_
    refine Ex_icmp_ge 18 39 dX9_keeps_15 (by decide) rfl (fun c1 => absurd c1 (nI_ge (b := 870) (by omega) (by omega))) (fun c1 => ?_)
    refine Ex_aload_n 19 (i := 0) dX9_keeps_18 rfl rfl rfl ?_
    refine Ex_getR 22 dX9_keeps_19 fX9_105 (xMs_0 hm) rfl (xMr_43 hm) rfl ?_
    refine Ex_iload_n 23 (i := 1) dX9_keeps_22 rfl rfl rfl ?_
    refine Ex_aload_n 24 (i := 0) dX9_keeps_23 rfl rfl rfl ?_
    refine Ex_getR 27 dX9_keeps_24 fX9_105 (xMs_0 hm) rfl (xMr_43 hm) rfl ?_
    refine Ex_iload_n 28 (i := 1) dX9_keeps_27 rfl rfl rfl ?_
    refine Ex_bipush 30 (v := 58) dX9_keeps_28 (by decide) rfl ?_
    refine Ex_iadd 31 dX9_keeps_30 rfl ?_
    refine Ex_aI 32 (i + 58) ((hmSh r i) (i + 58)) dX9_keeps_31 (xMs_32 hm) (hm_ad rfl rfl) (by omega) (by decide) (congrFun (va_up_self _ _ _) _) rfl ?_
    refine Ex_sI 33 i (hmSh r i) (va_up I (m + 32) (va_up (hmSh r i) i ((hmSh r i) (i + 58)))) dX9_keeps_32 (xMs_32 hm) rfl (by omega) (by decide) (va_up_self _ _ _) (va_up_up _ _ _ _) rfl ?_
    refine Ex_iinc 36 (v := (nI (i + 1))) (ls' := [some (.ref m), some (.int (nI (i + 1)))]) dX9_keeps_33 rfl (xinc _) (Nat.le_of_ble_eq_true rfl) rfl rfl rfl ?_
    refine Ex_goto 11 dX9_keeps_36 (by decide) ?_
    rw [hmSh_s]
    exact ih (i + 1) (by omega)
set_option maxHeartbeats 4000000 in
theorem mc_keeps {d : Nat} {sh : xSh} {R : xR} {L : xL} {I : xI} {Q : xQ} {m : Nat} {H : hmH} (hm : xModel sh R m) (hS : hmMr (I (m + 28)) H) {P : List hmH} (hP : hmMP I m P) (hQ : ∀ I', (∀ x, x ≠ m → x ≠ m + 32 → I' x = I x) → (∀ k, k ≠ 45 → I' m k = I m k) → hmMP I' m ((H :: P).take 16) → Q none 0 sh R L I') : Ex (d + 1) 0 0 MX9_keeps 0 sh R L I 0 [some (.ref m), none] [] Q := by
  obtain ⟨p1, p2, p3⟩ := id hP
  refine Ex_aload_n 1 (i := 0) dX9_keeps_0 rfl rfl rfl ?_
  refine Ex_gI 4 (I m 45) dX9_keeps_1 fX9_306 (xMs_0 hm) rfl rfl rfl ?_
  rw [p2]
  refine Ex_bipush 6 (v := 16) dX9_keeps_4 (by decide) rfl ?_
  refine Ex_icmp_ne 9 49 dX9_keeps_6 (by decide) rfl (fun c1 => ?_) (fun c1 => ?_)
  · have hl : P.length ≠ 16 := fun q => c1 (by rw [q]; rfl)
    exact mc_keeps_49 hm hS hP (by omega) hQ
  · refine Ex_iconst 10 (v := 0) dX9_keeps_9 (by decide) rfl ?_
    refine Ex_istore_n 11 (i := 1) (ls' := [some (.ref m), some (.int 0)]) dX9_keeps_10 rfl (Nat.le_of_ble_eq_true rfl) rfl rfl rfl ?_
    have hl : P.length = 16 := (nI_eq (b := 16) (by omega) (by omega)).mp c1
    refine Ex_I (I' := va_up I (m + 32) (hmSh (I (m + 32)) 0)) (by rw [hmSh_0, va_up_id]) ?_
    refine mc_keeps_sh hm ?_ 870 0 rfl
    refine Ex_aload_n 40 (i := 0) dX9_keeps_39 rfl rfl rfl ?_
    refine Ex_dup 41 dX9_keeps_40 rfl rfl ?_
    refine Ex_gI 44 (I m 45) dX9_keeps_41 fX9_306 (xMs_0 hm) rfl (congrFun (va_up_ne _ _ (by omega)) _) rfl ?_
    rw [p2, hl]
    refine Ex_iconst 45 (v := 1) dX9_keeps_44 (by decide) rfl ?_
    refine Ex_isub 46 dX9_keeps_45 rfl ?_
    refine Ex_pI 49 (I m) (va_up (va_up I (m + 32) (hmSh (I (m + 32)) 870)) m (va_up (I m) 45 ((nI 16) - 1))) dX9_keeps_46 fX9_306 rfl (xMs_0 hm) rfl (fun _ => rfl) (va_up_ne _ _ (by omega)) rfl rfl rfl ?_
    have hP15 : hmMP (va_up (va_up I (m + 32) (hmSh (I (m + 32)) 870)) m (va_up (I m) 45 (nI 16 - 1))) m (P.take 15) := by
      have hl15 : (P.take 15).length = 15 := by rw [List.length_take]; omega
      refine ⟨by omega, by rw [va_up_self, va_up_self, hl15]; rfl, fun j G hj => ?_⟩
      have hjl := (List.getElem?_eq_some_iff.mp hj).1
      rw [hl15] at hjl ⊢
      rw [List.getElem?_take_of_lt hjl] at hj
      rw [va_up_ne _ _ (by omega), va_up_self]
      refine (p3 j G hj).ext (fun k hk => ?_)
      show hmSh (I (m + 32)) 870 (58 * (15 - 1 - j) + k) = _
      unfold hmSh
      rw [if_pos (by omega), hl]
      congr 1
      omega
    have hl15 : (P.take 15).length = 15 := by rw [List.length_take]; omega
    refine mc_keeps_49 hm (by rw [va_up_ne _ _ (by omega), va_up_ne _ _ (by omega)]; exact hS) hP15 (by omega) (fun I' f1 f2 f3 => ?_)
    have et : (H :: P.take 15).take 16 = (H :: P).take 16 := by
      rw [List.take_succ_cons, List.take_succ_cons, List.take_take, Nat.min_self]
    rw [et] at f3
    exact hQ I' (fun x a b => by rw [f1 x a b, va_up_ne _ _ a, va_up_ne _ _ b]) (fun k a => by rw [f2 k a, va_up_self, va_up_ne _ _ a]) f3
/-- what a change by hand changes in the reference -/
def hmKM (m : Nat) (I I' : xI) : Prop := (∀ x, x ≠ m → x ≠ m + 28 → x ≠ m + 32 → ¬ (m + 13 ≤ x ∧ x < m + 23) → I' x = I x) ∧ (∀ k, k ≠ 45 → I' m k = I m k)
theorem hmKM.fm {m : Nat} {I J K : xI} (h1 : ∀ x, x ≠ m → x ≠ m + 32 → J x = I x) (h2 : ∀ k, k ≠ 45 → J m k = I m k) (h3 : hmFm m J K) : hmKM m I K := ⟨fun x a b c e => (h3 x b e).trans (h1 x a c), fun k a => by rw [h3 m (by omega) (by omega)]; exact h2 k a⟩
theorem hmFm.u28 {m : Nat} {I : xI} {r : Nat → Int32} : hmFm m I (va_up I (m + 28) r) := fun x a _ => va_up_ne _ _ a
set_option maxHeartbeats 4000000 in
theorem mb_ring {d : Nat} {sh : xSh} {R : xR} {L : xL} {I : xI} {Q : xQ} {m : Nat} {H : hmH} {O : hmO} (hm : xModel sh R m) (hS : hmMr (I (m + 28)) H) (hO : hmMo I m O) (ho : hmOok O) (hok : hmOk O H) {P : List hmH} (hP : hmMP I m P) {qv : Int32} (hno : hmRingOk O H qv = false → Q (some (.int (-1))) 0 sh R L I) (hyes : hmRingOk O H qv = true → ∀ I', hmKM m I I' → hmMr (I' (m + 28)) (hmCome H (hmIx qv)) → hmMP I' m ((H :: P).take 16) → Q (some (.int (nI (hmLine H).length))) 0 sh R L I') : Ex (d + 2) 0 0 MX9_ring 0 sh R L I 5 [some (.ref m), some (.int qv)] [] Q := by
  obtain ⟨s6, smin, slen, sset, stak, sline, sheld, shas, stalk⟩ := id hS
  obtain ⟨o6, ot1, ot2, oo, oll, owf⟩ := id ho
  obtain ⟨on, otk, ow, cd, cfrom, cto, clen, ccd, csem⟩ := id hO
  have hlN := hok.2.1
  refine Ex_aload_n 6 (i := 0) dX9_ring_5 rfl rfl rfl ?_
  refine Ex_iload_n 7 (i := 1) dX9_ring_6 rfl rfl rfl ?_
  refine Ex_callV (M' := MX9_isCaller) 10 [.int qv] (rest := []) dX9_ring_7 lX9_347 mX9_isCaller rfl (xMs_0 hm) rfl (Nat.le_of_ble_eq_true rfl) (Nat.le_of_ble_eq_true rfl) rfl ?_
  refine mc_isCaller hm on o6 ?_
  simp only [Option.toList, List.cons_append, List.nil_append]
  refine Ex_if_eq 13 21 dX9_ring_10 (by decide) rfl (fun c1 => ?_) (fun c1 => ?_)
  · refine Ex_iconst 22 (v := (-1)) dX9_ring_21 (by decide) rfl ?_
    refine Ex_iret dX9_ring_22 rfl rfl (Or.inl rfl) ?_
    exact hno (by simp [hmRingOk, hmB_eq c1])
  · have hct := hmB_ne c1
    obtain ⟨w, hw, rfl⟩ := hmCal_of hct
    have hix : hmIx (nI w) = w := hmIx_nI (by omega)
    refine Ex_aload_n 14 (i := 0) dX9_ring_13 rfl rfl rfl ?_
    refine Ex_iload_n 15 (i := 1) dX9_ring_14 rfl rfl rfl ?_
    refine Ex_callV (M' := MX9_canRing) 18 [.int (nI w)] (rest := []) dX9_ring_15 lX9_354 mX9_canRing rfl (xMs_0 hm) rfl (Nat.le_of_ble_eq_true rfl) (Nat.le_of_ble_eq_true rfl) rfl ?_
    refine mc_canRing hm hS (by omega) (fun x hx => by have := hlN x hx; omega) ?_
    simp only [Option.toList, List.cons_append, List.nil_append]
    refine Ex_if_ne 21 23 dX9_ring_18 (by decide) rfl (fun c2 => ?_) (fun c2 => ?_)
    · refine Ex_aload_n 24 (i := 0) dX9_ring_23 rfl rfl rfl ?_
      refine Ex_callV (M' := MX9_keeps) 27 [] (rest := []) dX9_ring_24 lX9_357 mX9_keeps rfl (xMs_0 hm) rfl (Nat.le_of_ble_eq_true rfl) (Nat.le_of_ble_eq_true rfl) rfl ?_
      refine mc_keeps hm hS hP (fun I1 f1 f2 hP1 => ?_)
      have hS1 : hmMr (I1 (m + 28)) H := by rw [f1 _ (by omega) (by omega)]; exact hS
      have hO1 : hmMo I1 m O := hO.kept (fun x a b => f1 x (by omega) (by omega))
      simp only [Option.toList, List.nil_append, List.cons_append]
      refine Ex_aload_n 28 (i := 0) dX9_ring_27 rfl rfl rfl ?_
      refine Ex_iload_n 29 (i := 1) dX9_ring_28 rfl rfl rfl ?_
      refine Ex_callV (M' := MX9_rings) 32 [.int (nI w)] (rest := []) dX9_ring_29 lX9_360 mX9_rings rfl (xMs_0 hm) rfl (Nat.le_of_ble_eq_true rfl) (Nat.le_of_ble_eq_true rfl) rfl ?_
      have hcan := hmB_ne c2
      have hni : w ∉ hmLine H := by
        have h2 : hmBit (hmSet H) w = false ∧ w ∉ hmLine H := by simpa [hmCanRing] using hcan
        exact h2.2
      have hroom := hmOk_room hok ho hw hni
      refine mc_rings hm hS1 (by omega) hroom (fun r' hr' => ?_)
      have hK : hmKM m I (va_up I1 (m + 28) r') := hmKM.fm f1 f2 hmFm.u28
      have hP2 : hmMP (va_up I1 (m + 28) r') m ((H :: P).take 16) := hP1.kept (by rw [va_up_ne _ _ (by omega)]) (by rw [va_up_ne _ _ (by omega)])
      simp only [Option.toList, List.nil_append, List.cons_append]
      refine Ex_aload_n 33 (i := 0) dX9_ring_32 rfl rfl rfl ?_
      refine Ex_getR 36 dX9_ring_33 fX9_93 (xMs_0 hm) rfl (xMr_39 hm) rfl ?_
      refine Ex_iconst 37 (v := 1) dX9_ring_36 (by decide) rfl ?_
      refine Ex_aI 38 1 (r' 1) dX9_ring_37 (xMs_28 hm) rfl (by decide) (by decide) (congrFun (va_up_self _ _ _) _) rfl ?_
      refine Ex_iconst 39 (v := 1) dX9_ring_38 (by decide) rfl ?_
      have h41 : r' 1 - 1 = nI (hmLine H).length := by
        rw [hr'.2.2.1]
        show nI (hmLine H ++ [w]).length - 1 = _
        rw [List.length_append]
        exact (hm_nIsub (a := (hmLine H).length + 1) (b := 1) (by omega) (by omega)).trans (by rw [Nat.add_sub_cancel])
      refine Ex_isub 40 dX9_ring_39 rfl ?_
      rw [h41]
      refine Ex_iret dX9_ring_40 rfl rfl (Or.inl rfl) ?_
      have hok2 : hmRingOk O H (nI w) = true := by simp [hmRingOk, hct, hix, hcan]
      have hq := hyes hok2
      rw [hix] at hq
      exact hq _ hK (by rw [va_up_self]; exact hr') hP2
    · refine Ex_iconst 22 (v := (-1)) dX9_ring_21 (by decide) rfl ?_
      refine Ex_iret dX9_ring_22 rfl rfl (Or.inl rfl) ?_
      exact hno (by simp [hmRingOk, hix, hmB_eq c2])
set_option maxHeartbeats 4000000 in
theorem mq_ring {d : Nat} {sh : xSh} {R : xR} {L : xL} {I : xI} {Q : xQ} {m : Nat} {H : hmH} {O : hmO} (hm : xModel sh R m) (hS : hmMr (I (m + 28)) H) (hO : hmMo I m O) (ho : hmOok O) (hok : hmOk O H) {P : List hmH} (hP : hmMP I m P) {qv : Int32} (hno : hmRingOk O H qv = false → Q (some (.int (-1))) 0 sh R L (hmTh I m)) (hyes : hmRingOk O H qv = true → ∀ I', hmKM m (hmTh I m) I' → hmMr (I' (m + 28)) (hmCome H (hmIx qv)) → hmMP I' m ((H :: P).take 16) → Q (some (.int (nI (hmLine H).length))) 0 sh R L I') : Ex (d + 2) 0 0 MX9_ring 0 sh R L I 0 [some (.ref m), some (.int qv)] [] Q := by
  refine Ex_aload_n 1 (i := 0) dX9_ring_0 rfl rfl rfl ?_
  refine Ex_iconst 2 (v := 0) dX9_ring_1 (by decide) rfl ?_
  refine Ex_pI 5 (I m) (va_up I m (va_up (I m) 0 0)) dX9_ring_2 fX9_130 rfl (xMs_0 hm) rfl (fun _ => rfl) rfl rfl rfl rfl ?_
  exact mb_ring hm (hmTh_mr hS) (hmTh_mo hO) ho hok (show hmMP (hmTh I m) m P from hP.kept (hmTh_f (by omega)) (hmTh_r (by omega)))  hno hyes
set_option maxHeartbeats 4000000 in
theorem mb_off {d : Nat} {sh : xSh} {R : xR} {L : xL} {I : xI} {Q : xQ} {m : Nat} {H : hmH} {O : hmO} (hm : xModel sh R m) (hS : hmMr (I (m + 28)) H) (hO : hmMo I m O) (ho : hmOok O) (hok : hmOk O H) {P : List hmH} (hP : hmMP I m P) {qv : Int32} (hno : hmOn (hmN O) H qv = false → Q (some (.int 0)) 0 sh R L I) (hyes : hmOn (hmN O) H qv = true → ∀ I', hmKM m I I' → hmMr (I' (m + 28)) (hmLeave H (hmIx qv)) → hmMP I' m ((H :: P).take 16) → Q (some (.int 1)) 0 sh R L I') : Ex (d + 2) 0 0 MX9_off 0 sh R L I 5 [some (.ref m), some (.int qv)] [] Q := by
  obtain ⟨s6, smin, slen, sset, stak, sline, sheld, shas, stalk⟩ := id hS
  obtain ⟨o6, ot1, ot2, oo, oll, owf⟩ := id ho
  obtain ⟨on, otk, ow, cd, cfrom, cto, clen, ccd, csem⟩ := id hO
  have hlN := hok.2.1
  refine Ex_aload_n 6 (i := 0) dX9_off_5 rfl rfl rfl ?_
  refine Ex_iload_n 7 (i := 1) dX9_off_6 rfl rfl rfl ?_
  refine Ex_callV (M' := MX9_isCaller) 10 [.int qv] (rest := []) dX9_off_7 lX9_347 mX9_isCaller rfl (xMs_0 hm) rfl (Nat.le_of_ble_eq_true rfl) (Nat.le_of_ble_eq_true rfl) rfl ?_
  refine mc_isCaller hm on o6 ?_
  simp only [Option.toList, List.cons_append, List.nil_append]
  refine Ex_if_eq 13 21 dX9_off_10 (by decide) rfl (fun c1 => ?_) (fun c1 => ?_)
  · refine Ex_iconst 22 (v := 0) dX9_off_21 (by decide) rfl ?_
    refine Ex_iret dX9_off_22 rfl (by decide) (Or.inl rfl) ?_
    exact hno (hmOn_no (hmB_eq c1))
  · have hct := hmB_ne c1
    obtain ⟨w, hw, rfl⟩ := hmCal_of hct
    have hix : hmIx (nI w) = w := hmIx_nI (by omega)
    refine Ex_aload_n 14 (i := 0) dX9_off_13 rfl rfl rfl ?_
    refine Ex_iload_n 15 (i := 1) dX9_off_14 rfl rfl rfl ?_
    refine Ex_callV (M' := MX9_placeOf) 18 [.int (nI w)] (rest := []) dX9_off_15 lX9_319 mX9_placeOf rfl (xMs_0 hm) rfl (Nat.le_of_ble_eq_true rfl) (Nat.le_of_ble_eq_true rfl) rfl ?_
    refine mc_placeOf hm hS (by omega) (fun x hx => by have := hlN x hx; omega) ?_
    simp only [Option.toList, List.cons_append, List.nil_append]
    refine Ex_if_ge 21 23 dX9_off_18 (by decide) rfl (fun c2 => ?_) (fun c2 => ?_)
    · have hwm : w ∈ hmLine H := by
        by_cases z : w ∈ hmLine H
        · exact z
        · exact absurd ((hmPlc_lt (by omega)).mpr z) (Int32.not_lt.mpr c2)
      have hon := hmOn_yes hw (by omega) hwm
      refine Ex_aload_n 24 (i := 0) dX9_off_23 rfl rfl rfl ?_
      refine Ex_callV (M' := MX9_keeps) 27 [] (rest := []) dX9_off_24 lX9_357 mX9_keeps rfl (xMs_0 hm) rfl (Nat.le_of_ble_eq_true rfl) (Nat.le_of_ble_eq_true rfl) rfl ?_
      refine mc_keeps hm hS hP (fun I1 f1 f2 hP1 => ?_)
      have hS1 : hmMr (I1 (m + 28)) H := by rw [f1 _ (by omega) (by omega)]; exact hS
      have hO1 : hmMo I1 m O := hO.kept (fun x a b => f1 x (by omega) (by omega))
      simp only [Option.toList, List.nil_append, List.cons_append]
      refine Ex_aload_n 28 (i := 0) dX9_off_27 rfl rfl rfl ?_
      refine Ex_iload_n 29 (i := 1) dX9_off_28 rfl rfl rfl ?_
      refine Ex_callV (M' := MX9_ends) 32 [.int (nI w)] (rest := []) dX9_off_29 lX9_335 mX9_ends rfl (xMs_0 hm) rfl (Nat.le_of_ble_eq_true rfl) (Nat.le_of_ble_eq_true rfl) rfl ?_
      refine mc_ends hm hS1 hwm (fun x hx => by have := hlN x hx; omega) (fun r' hr' => ?_)
      have hK : hmKM m I (va_up I1 (m + 28) r') := hmKM.fm f1 f2 hmFm.u28
      have hP2 : hmMP (va_up I1 (m + 28) r') m ((H :: P).take 16) := hP1.kept (by rw [va_up_ne _ _ (by omega)]) (by rw [va_up_ne _ _ (by omega)])
      simp only [Option.toList, List.nil_append, List.cons_append]
      refine Ex_iconst 33 (v := 1) dX9_off_32 (by decide) rfl ?_
      refine Ex_iret dX9_off_33 rfl (by decide) (Or.inl rfl) ?_
      have hq := hyes hon
      rw [hix] at hq
      exact hq _ hK (by rw [va_up_self]; exact hr') hP2
    · refine Ex_iconst 22 (v := 0) dX9_off_21 (by decide) rfl ?_
      refine Ex_iret dX9_off_22 rfl (by decide) (Or.inl rfl) ?_
      exact hno (hmOn_no2 (by omega) ((hmPlc_lt (by omega)).mp (Int32.not_le.mp c2)))
set_option maxHeartbeats 4000000 in
theorem mq_off {d : Nat} {sh : xSh} {R : xR} {L : xL} {I : xI} {Q : xQ} {m : Nat} {H : hmH} {O : hmO} (hm : xModel sh R m) (hS : hmMr (I (m + 28)) H) (hO : hmMo I m O) (ho : hmOok O) (hok : hmOk O H) {P : List hmH} (hP : hmMP I m P) {qv : Int32} (hno : hmOn (hmN O) H qv = false → Q (some (.int 0)) 0 sh R L (hmTh I m)) (hyes : hmOn (hmN O) H qv = true → ∀ I', hmKM m (hmTh I m) I' → hmMr (I' (m + 28)) (hmLeave H (hmIx qv)) → hmMP I' m ((H :: P).take 16) → Q (some (.int 1)) 0 sh R L I') : Ex (d + 2) 0 0 MX9_off 0 sh R L I 0 [some (.ref m), some (.int qv)] [] Q := by
  refine Ex_aload_n 1 (i := 0) dX9_off_0 rfl rfl rfl ?_
  refine Ex_iconst 2 (v := 0) dX9_off_1 (by decide) rfl ?_
  refine Ex_pI 5 (I m) (va_up I m (va_up (I m) 0 0)) dX9_off_2 fX9_130 rfl (xMs_0 hm) rfl (fun _ => rfl) rfl rfl rfl rfl ?_
  exact mb_off hm (hmTh_mr hS) (hmTh_mo hO) ho hok (show hmMP (hmTh I m) m P from hP.kept (hmTh_f (by omega)) (hmTh_r (by omega)))  hno hyes
theorem hmSwapOk_eq {O : hmO} {H : hmH} {w u : Nat} (hw : w < hmN O) (hu : u < hmN O) (o6 : hmN O ≤ 6) : hmSwapOk O H (nI w) (nI u) = hmCanSwap H w u := by
  have h1 : hmOn (hmN O) H (nI w) = decide (w ∈ hmLine H) := by
    simp only [hmOn, hmCal_nI hw (show hmN O < 2 ^ 31 by omega), hmIx_nI (show w < 2 ^ 31 by omega), Bool.true_and]
  have h2 : hmOn (hmN O) H (nI u) = decide (u ∈ hmLine H) := by
    simp only [hmOn, hmCal_nI hu (show hmN O < 2 ^ 31 by omega), hmIx_nI (show u < 2 ^ 31 by omega), Bool.true_and]
  unfold hmSwapOk hmCanSwap
  rw [h1, h2]
  congr 2
  rw [Bool.eq_iff_iff, decide_eq_true_eq, decide_eq_true_eq]
  exact ⟨fun h q => h (by rw [q]), fun h q => h ((nI_eq (by omega) (by omega)).mp q)⟩
set_option maxHeartbeats 4000000 in
theorem mb_swap {d : Nat} {sh : xSh} {R : xR} {L : xL} {I : xI} {Q : xQ} {m : Nat} {H : hmH} {O : hmO} (hm : xModel sh R m) (hS : hmMr (I (m + 28)) H) (hO : hmMo I m O) (ho : hmOok O) (hok : hmOk O H) {P : List hmH} (hP : hmMP I m P) {qv qu : Int32} (hno : hmSwapOk O H qv qu = false → Q (some (.int 0)) 0 sh R L I) (hyes : hmSwapOk O H qv qu = true → ∀ I', hmKM m I I' → hmMr (I' (m + 28)) (hmSwap H (hmIx qv) (hmIx qu)) → hmMP I' m ((H :: P).take 16) → Q (some (.int 1)) 0 sh R L I') : Ex (d + 2) 0 0 MX9_swap 0 sh R L I 5 [some (.ref m), some (.int qv), some (.int qu)] [] Q := by
  obtain ⟨s6, smin, slen, sset, stak, sline, sheld, shas, stalk⟩ := id hS
  obtain ⟨o6, ot1, ot2, oo, oll, owf⟩ := id ho
  obtain ⟨on, otk, ow, cd, cfrom, cto, clen, ccd, csem⟩ := id hO
  have hlN := hok.2.1
  refine Ex_aload_n 6 (i := 0) dX9_swap_5 rfl rfl rfl ?_
  refine Ex_iload_n 7 (i := 1) dX9_swap_6 rfl rfl rfl ?_
  refine Ex_callV (M' := MX9_isCaller) 10 [.int qv] (rest := []) dX9_swap_7 lX9_347 mX9_isCaller rfl (xMs_0 hm) rfl (Nat.le_of_ble_eq_true rfl) (Nat.le_of_ble_eq_true rfl) rfl ?_
  refine mc_isCaller hm on o6 ?_
  simp only [Option.toList, List.cons_append, List.nil_append]
  refine Ex_if_eq 13 30 dX9_swap_10 (by decide) rfl (fun c1 => ?_) (fun c1 => ?_)
  · refine Ex_iconst 31 (v := 0) dX9_swap_30 (by decide) rfl ?_
    refine Ex_iret dX9_swap_31 rfl (by decide) (Or.inl rfl) ?_
    exact hno (by
      have h1 : hmOn (hmN O) H qv = false := hmOn_no (hmB_eq c1)
      simp [hmSwapOk, h1])
  · have hct := hmB_ne c1
    obtain ⟨w, hw, rfl⟩ := hmCal_of hct
    have hix : hmIx (nI w) = w := hmIx_nI (by omega)
    refine Ex_aload_n 14 (i := 0) dX9_swap_13 rfl rfl rfl ?_
    refine Ex_iload_n 15 (i := 2) dX9_swap_14 rfl rfl rfl ?_
    refine Ex_callV (M' := MX9_isCaller) 18 [.int qu] (rest := []) dX9_swap_15 lX9_347 mX9_isCaller rfl (xMs_0 hm) rfl (Nat.le_of_ble_eq_true rfl) (Nat.le_of_ble_eq_true rfl) rfl ?_
    refine mc_isCaller hm on o6 ?_
    simp only [Option.toList, List.cons_append, List.nil_append]
    refine Ex_if_eq 21 30 dX9_swap_18 (by decide) rfl (fun c2 => ?_) (fun c2 => ?_)
    · refine Ex_iconst 31 (v := 0) dX9_swap_30 (by decide) rfl ?_
      refine Ex_iret dX9_swap_31 rfl (by decide) (Or.inl rfl) ?_
      exact hno (by
        have h1 : hmOn (hmN O) H qu = false := hmOn_no (hmB_eq c2)
        simp [hmSwapOk, h1])
    · have hct2 := hmB_ne c2
      obtain ⟨u, hu, rfl⟩ := hmCal_of hct2
      have hiu : hmIx (nI u) = u := hmIx_nI (by omega)
      refine Ex_aload_n 22 (i := 0) dX9_swap_21 rfl rfl rfl ?_
      refine Ex_iload_n 23 (i := 1) dX9_swap_22 rfl rfl rfl ?_
      refine Ex_iload_n 24 (i := 2) dX9_swap_23 rfl rfl rfl ?_
      refine Ex_callV (M' := MX9_canSwap) 27 [.int (nI w), .int (nI u)] (rest := []) dX9_swap_24 lX9_363 mX9_canSwap rfl (xMs_0 hm) rfl (Nat.le_of_ble_eq_true rfl) (Nat.le_of_ble_eq_true rfl) rfl ?_
      refine mc_canSwap hm hS hO ho hok (by omega) (by omega) ?_
      simp only [Option.toList, List.nil_append, List.cons_append]
      refine Ex_if_ne 30 32 dX9_swap_27 (by decide) rfl (fun c3 => ?_) (fun c3 => ?_)
      · refine Ex_aload_n 33 (i := 0) dX9_swap_32 rfl rfl rfl ?_
        refine Ex_callV (M' := MX9_keeps) 36 [] (rest := []) dX9_swap_33 lX9_357 mX9_keeps rfl (xMs_0 hm) rfl (Nat.le_of_ble_eq_true rfl) (Nat.le_of_ble_eq_true rfl) rfl ?_
        refine mc_keeps hm hS hP (fun I1 f1 f2 hP1 => ?_)
        have hS1 : hmMr (I1 (m + 28)) H := by rw [f1 _ (by omega) (by omega)]; exact hS
        have hO1 : hmMo I1 m O := hO.kept (fun x a b => f1 x (by omega) (by omega))
        simp only [Option.toList, List.nil_append, List.cons_append]
        refine Ex_aload_n 37 (i := 0) dX9_swap_36 rfl rfl rfl ?_
        refine Ex_iload_n 38 (i := 1) dX9_swap_37 rfl rfl rfl ?_
        refine Ex_iload_n 39 (i := 2) dX9_swap_38 rfl rfl rfl ?_
        refine Ex_callV (M' := MX9_swaps) 42 [.int (nI w), .int (nI u)] (rest := []) dX9_swap_39 lX9_366 mX9_swaps rfl (xMs_0 hm) rfl (Nat.le_of_ble_eq_true rfl) (Nat.le_of_ble_eq_true rfl) rfl ?_
        have hcs := hmB_ne c3
        have hcs2 : (w ≠ u ∧ w ∈ hmLine H) ∧ u ∈ hmLine H := by simpa [hmCanSwap] using hcs
        refine mc_swaps hm hS1 hcs2.1.2 hcs2.2 (fun x hx => by have := hlN x hx; omega) hok.1 (fun r' hr' => ?_)
        have hK : hmKM m I (va_up I1 (m + 28) r') := hmKM.fm f1 f2 hmFm.u28
        have hP2 : hmMP (va_up I1 (m + 28) r') m ((H :: P).take 16) := hP1.kept (by rw [va_up_ne _ _ (by omega)]) (by rw [va_up_ne _ _ (by omega)])
        simp only [Option.toList, List.nil_append, List.cons_append]
        refine Ex_iconst 43 (v := 1) dX9_swap_42 (by decide) rfl ?_
        refine Ex_iret dX9_swap_43 rfl (by decide) (Or.inl rfl) ?_
        have hq := hyes ((hmSwapOk_eq hw hu o6).trans hcs)
        rw [hix, hiu] at hq
        exact hq _ hK (by rw [va_up_self]; exact hr') hP2
      · refine Ex_iconst 31 (v := 0) dX9_swap_30 (by decide) rfl ?_
        refine Ex_iret dX9_swap_31 rfl (by decide) (Or.inl rfl) ?_
        exact hno ((hmSwapOk_eq hw hu o6).trans (hmB_eq c3))
set_option maxHeartbeats 4000000 in
theorem mq_swap {d : Nat} {sh : xSh} {R : xR} {L : xL} {I : xI} {Q : xQ} {m : Nat} {H : hmH} {O : hmO} (hm : xModel sh R m) (hS : hmMr (I (m + 28)) H) (hO : hmMo I m O) (ho : hmOok O) (hok : hmOk O H) {P : List hmH} (hP : hmMP I m P) {qv qu : Int32} (hno : hmSwapOk O H qv qu = false → Q (some (.int 0)) 0 sh R L (hmTh I m)) (hyes : hmSwapOk O H qv qu = true → ∀ I', hmKM m (hmTh I m) I' → hmMr (I' (m + 28)) (hmSwap H (hmIx qv) (hmIx qu)) → hmMP I' m ((H :: P).take 16) → Q (some (.int 1)) 0 sh R L I') : Ex (d + 2) 0 0 MX9_swap 0 sh R L I 0 [some (.ref m), some (.int qv), some (.int qu)] [] Q := by
  refine Ex_aload_n 1 (i := 0) dX9_swap_0 rfl rfl rfl ?_
  refine Ex_iconst 2 (v := 0) dX9_swap_1 (by decide) rfl ?_
  refine Ex_pI 5 (I m) (va_up I m (va_up (I m) 0 0)) dX9_swap_2 fX9_130 rfl (xMs_0 hm) rfl (fun _ => rfl) rfl rfl rfl rfl ?_
  exact mb_swap hm (hmTh_mr hS) (hmTh_mo hO) ho hok (show hmMP (hmTh I m) m P from hP.kept (hmTh_f (by omega)) (hmTh_r (by omega)))  hno hyes
set_option maxHeartbeats 4000000 in
theorem mb_minute {d : Nat} {sh : xSh} {R : xR} {L : xL} {I : xI} {Q : xQ} {m : Nat} {H : hmH} {O : hmO} (hm : xModel sh R m) (hS : hmMr (I (m + 28)) H) (hO : hmMo I m O) (ho : hmOok O) (hok : hmOk O H) {P : List hmH} (hP : hmMP I m P) (h46 : I m 46 = nI (hmTk O)) (hmn : hmMin H < 800000)  (hyes : ∀ I', hmKM m I I' → hmMr (I' (m + 28)) (hmMinute O (hmTk O) H) → hmMP I' m ((H :: P).take 16) → Q (some (.int (hmSet (hmMinute O (hmTk O) H) &&& (hmSet H ^^^ -1)))) 0 sh R L I') : Ex (d + 7) 0 0 MX9_minute 0 sh R L I 5 [some (.ref m)] [] Q := by
  obtain ⟨s6, smin, slen, sset, stak, sline, sheld, shas, stalk⟩ := id hS
  obtain ⟨o6, ot1, ot2, oo, oll, owf⟩ := id ho
  obtain ⟨on, otk, ow, cd, cfrom, cto, clen, ccd, csem⟩ := id hO
  have hlN := hok.2.1
  refine Ex_aload_n 6 (i := 0) dX9_minute_5 rfl rfl rfl ?_
  refine Ex_callV (M' := MX9_keeps) 9 [] (rest := []) dX9_minute_6 lX9_357 mX9_keeps rfl (xMs_0 hm) rfl (Nat.le_of_ble_eq_true rfl) (Nat.le_of_ble_eq_true rfl) rfl ?_
  refine mc_keeps hm hS hP (fun I1 f1 f2 hP1 => ?_)
  have hS1 : hmMr (I1 (m + 28)) H := by rw [f1 _ (by omega) (by omega)]; exact hS
  have hO1 : hmMo I1 m O := hO.kept (fun x a b => f1 x (by omega) (by omega))
  simp only [Option.toList, List.nil_append, List.cons_append]
  refine Ex_aload_n 10 (i := 0) dX9_minute_9 rfl rfl rfl ?_
  refine Ex_callV (M' := MX9_passes) 13 [] (rest := []) dX9_minute_10 lX9_369 mX9_passes rfl (xMs_0 hm) rfl (Nat.le_of_ble_eq_true rfl) (Nat.le_of_ble_eq_true rfl) rfl ?_
  refine mc_passes hm hS1 hO1 ho hok (by rw [f2 46 (by omega)]; exact h46) ot1 ot2 (by omega) (fun I2 hF2 hS2 => ?_)
  simp only [Option.toList, List.nil_append, List.cons_append]
  refine Ex_iret dX9_minute_13 rfl rfl (Or.inl rfl) ?_
  exact hyes I2 (hmKM.fm f1 f2 hF2) hS2 (hP1.kept (by rw [hF2 m (by omega) (by omega)]) (hF2 _ (by omega) (by omega)))
set_option maxHeartbeats 4000000 in
theorem mq_minute {d : Nat} {sh : xSh} {R : xR} {L : xL} {I : xI} {Q : xQ} {m : Nat} {H : hmH} {O : hmO} (hm : xModel sh R m) (hS : hmMr (I (m + 28)) H) (hO : hmMo I m O) (ho : hmOok O) (hok : hmOk O H) {P : List hmH} (hP : hmMP I m P) (h46 : I m 46 = nI (hmTk O)) (hmn : hmMin H < 800000)  (hyes : ∀ I', hmKM m (hmTh I m) I' → hmMr (I' (m + 28)) (hmMinute O (hmTk O) H) → hmMP I' m ((H :: P).take 16) → Q (some (.int (hmSet (hmMinute O (hmTk O) H) &&& (hmSet H ^^^ -1)))) 0 sh R L I') : Ex (d + 7) 0 0 MX9_minute 0 sh R L I 0 [some (.ref m)] [] Q := by
  refine Ex_aload_n 1 (i := 0) dX9_minute_0 rfl rfl rfl ?_
  refine Ex_iconst 2 (v := 0) dX9_minute_1 (by decide) rfl ?_
  refine Ex_pI 5 (I m) (va_up I m (va_up (I m) 0 0)) dX9_minute_2 fX9_130 rfl (xMs_0 hm) rfl (fun _ => rfl) rfl rfl rfl rfl ?_
  exact mb_minute hm (hmTh_mr hS) (hmTh_mo hO) ho hok (show hmMP (hmTh I m) m P from hP.kept (hmTh_f (by omega)) (hmTh_r (by omega))) ((hmTh_f (by omega)).trans h46) hmn  hyes
set_option maxHeartbeats 4000000 in
theorem mb_undo {d : Nat} {sh : xSh} {R : xR} {L : xL} {I : xI} {Q : xQ} {m : Nat} (hm : xModel sh R m) {P : List hmH} (hP : hmMP I m P) (hno : P = [] → Q (some (.int 0)) 0 sh R L I) (hyes : ∀ G P', P = G :: P' → ∀ I', hmKM m I I' → hmMr (I' (m + 28)) G → hmMP I' m P' → Q (some (.int 1)) 0 sh R L I') : Ex (d + 1) 0 0 MX9_undo 0 sh R L I 5 [some (.ref m)] [] Q := by
  obtain ⟨p1, p2, p3⟩ := id hP
  cases P with
  | nil =>
    refine Ex_aload_n 6 (i := 0) dX9_undo_5 rfl rfl rfl ?_
    refine Ex_gI 9 (I m 45) dX9_undo_6 fX9_306 (xMs_0 hm) rfl rfl rfl ?_
    rw [p2]
    refine Ex_if_ne 12 14 dX9_undo_9 (by decide) rfl (fun c1 => absurd c1 (fun q => q rfl)) (fun c1 => ?_)
    refine Ex_iconst 13 (v := 0) dX9_undo_12 (by decide) rfl ?_
    refine Ex_iret dX9_undo_13 rfl (by decide) (Or.inl rfl) ?_
    exact hno rfl
  | cons G P =>
    have hln : (G :: P).length = P.length + 1 := List.length_cons
    rw [hln] at p1 p2 p3
    refine Ex_aload_n 6 (i := 0) dX9_undo_5 rfl rfl rfl ?_
    refine Ex_gI 9 (I m 45) dX9_undo_6 fX9_306 (xMs_0 hm) rfl rfl rfl ?_
    rw [p2]
    refine Ex_if_ne 12 14 dX9_undo_9 (by decide) rfl (fun c1 => ?_) (fun c1 => absurd c1 (fun z => absurd ((nI_eq (b := 0) (by omega) (by omega)).mp z) (by omega)))
    refine Ex_aload_n 15 (i := 0) dX9_undo_14 rfl rfl rfl ?_
    refine Ex_dup 16 dX9_undo_15 rfl rfl ?_
    refine Ex_gI 19 (I m 45) dX9_undo_16 fX9_306 (xMs_0 hm) rfl rfl rfl ?_
    rw [p2]
    refine Ex_iconst 20 (v := 1) dX9_undo_19 (by decide) rfl ?_
    refine Ex_isub 21 dX9_undo_20 rfl ?_
    rw [show nI (P.length + 1) - 1 = nI P.length from (hm_nIsub (a := P.length + 1) (b := 1) (by omega) (by omega)).trans (by rw [Nat.add_sub_cancel])]
    refine Ex_pI 24 (I m) (va_up I m (va_up (I m) 45 (nI P.length))) dX9_undo_21 fX9_306 rfl (xMs_0 hm) rfl (fun _ => rfl) rfl rfl rfl rfl ?_
    refine Ex_aload_n 25 (i := 0) dX9_undo_24 rfl rfl rfl ?_
    refine Ex_getR 28 dX9_undo_25 fX9_105 (xMs_0 hm) rfl (xMr_43 hm) rfl ?_
    refine Ex_bipush 30 (v := 58) dX9_undo_28 (by decide) rfl ?_
    refine Ex_aload_n 31 (i := 0) dX9_undo_30 rfl rfl rfl ?_
    refine Ex_gI 34 (nI P.length) dX9_undo_31 fX9_306 (xMs_0 hm) rfl (congrFun (va_up_self _ _ _) _) rfl ?_
    refine Ex_imul 35 dX9_undo_34 rfl ?_
    rw [hm_58]
    refine Ex_aload_n 36 (i := 0) dX9_undo_35 rfl rfl rfl ?_
    refine Ex_getR 39 dX9_undo_36 fX9_93 (xMs_0 hm) rfl (xMr_39 hm) rfl ?_
    refine Ex_iconst 40 (v := 0) dX9_undo_39 (by decide) rfl ?_
    refine Ex_callS (M' := MX9_copies) 43 [.ref (m + 32), .int (nI (58 * P.length)), .ref (m + 28), .int 0] (rest := []) dX9_undo_40 lX9_350 mX9_copies rfl rfl (Nat.le_of_ble_eq_true rfl) (Nat.le_of_ble_eq_true rfl) rfl ?_
    refine mc_cp (np := 928) (nq := 58) (a := (58 * P.length)) (b := 0) (J := (va_up (va_up I m (va_up (I m) 45 (nI P.length))) (m + 28) (va_cpy (I (m + 32)) (I (m + 28)) (58 * P.length) 0 58))) (xMs_32 hm) (xMs_28 hm) (by omega) (by omega) (by omega) (by omega) (by omega) (va_up_ne _ _ (by omega)) (va_up_ne _ _ (by omega)) rfl ?_
    simp only [Option.toList, List.nil_append, List.cons_append]
    refine Ex_iconst 44 (v := 1) dX9_undo_43 (by decide) rfl ?_
    refine Ex_iret dX9_undo_44 rfl (by decide) (Or.inl rfl) ?_
    refine hyes G P rfl _ ⟨fun x a b c e => by rw [va_up_ne _ _ b, va_up_ne _ _ a], fun k a => by rw [va_up_ne _ _ (by omega), va_up_self, va_up_ne _ _ a]⟩ ?_ ⟨by omega, by rw [va_up_ne _ _ (by omega), va_up_self, va_up_self], fun j K hj => ?_⟩
    · rw [va_up_self]
      refine (p3 0 G rfl).ext (fun k hk => ?_)
      unfold va_cpy
      rw [if_pos (by omega)]
      show I (m + 32) _ = I (m + 32) _
      congr 1 <;> omega
    · have hjl := (List.getElem?_eq_some_iff.mp hj).1
      rw [va_up_ne _ _ (by omega), va_up_ne _ _ (by omega)]
      refine (p3 (j + 1) K (by simpa using hj)).ext (fun k hk => ?_)
      show I (m + 32) _ = I (m + 32) _
      congr 1 <;> omega
set_option maxHeartbeats 4000000 in
theorem mq_undo {d : Nat} {sh : xSh} {R : xR} {L : xL} {I : xI} {Q : xQ} {m : Nat} (hm : xModel sh R m) {P : List hmH} (hP : hmMP I m P) (hno : P = [] → Q (some (.int 0)) 0 sh R L (hmTh I m)) (hyes : ∀ G P', P = G :: P' → ∀ I', hmKM m (hmTh I m) I' → hmMr (I' (m + 28)) G → hmMP I' m P' → Q (some (.int 1)) 0 sh R L I') : Ex (d + 1) 0 0 MX9_undo 0 sh R L I 0 [some (.ref m)] [] Q := by
  refine Ex_aload_n 1 (i := 0) dX9_undo_0 rfl rfl rfl ?_
  refine Ex_iconst 2 (v := 0) dX9_undo_1 (by decide) rfl ?_
  refine Ex_pI 5 (I m) (va_up I m (va_up (I m) 0 0)) dX9_undo_2 fX9_130 rfl (xMs_0 hm) rfl (fun _ => rfl) rfl rfl rfl rfl ?_
  exact mb_undo hm (show hmMP (hmTh I m) m P from hP.kept (hmTh_f (by omega)) (hmTh_r (by omega))) hno hyes
