/-- the orders, visited one after the other -/
def hmVis {B : Type} (f : B → List Nat → B) : Nat → List Nat → Int32 → B → B
  | 0, p, _, b => f b p
  | n + 1, p, s, b => (hmMem s 6).foldl (fun b c => hmVis f n (p ++ [c]) (hmWo s c) b) b
theorem hmVis_eq {B : Type} (f : B → List Nat → B) : ∀ (n : Nat) (p : List Nat) (s : Int32) (b : B), hmVis f n p s b = ((hmPm n s).map (fun q => p ++ q)).foldl f b := by
  intro n
  induction n with
  | zero =>
    intro p s b
    show f b p = f b (p ++ [])
    rw [List.append_nil]
  | succ n ih =>
    intro p s b
    have h : ∀ (l : List Nat) (b : B), l.foldl (fun b c => hmVis f n (p ++ [c]) (hmWo s c) b) b = ((l.flatMap (fun c => (hmPm n (hmWo s c)).map (fun r => c :: r))).map (fun q => p ++ q)).foldl f b := by
      intro l
      induction l with
      | nil => intro b; rfl
      | cons c l ihl =>
        intro b
        rw [List.foldl_cons, ihl, List.flatMap_cons, List.map_append, List.foldl_append, ih]
        congr 2
        rw [List.map_map]
        apply List.map_congr_left
        intro q _
        simp
    exact h _ b
theorem hm_wo_len0 : ∀ k, k < 64 → ∀ c, c < 6 → hmBit (nI k) c = true → (hmMem (hmWo (nI k) c) 6).length + 1 = (hmMem (nI k) 6).length := by decide +kernel
theorem hm_wo_len {s : Int32} (hs : hmS6 s) {c : Nat} (hc : c < 6) (hb : hmBit s c = true) : (hmMem (hmWo s c) 6).length + 1 = (hmMem s 6).length := by
  obtain ⟨k, hk, rfl⟩ := hs
  exact hm_wo_len0 k hk c hc hb
theorem hm_mem_z0 : ∀ k, k < 64 → (nI k = 0 ↔ (hmMem (nI k) 6).length = 0) := by decide +kernel
theorem hm_mem_z {s : Int32} (hs : hmS6 s) : (s = 0 ↔ (hmMem s 6).length = 0) := by
  obtain ⟨k, hk, rfl⟩ := hs
  exact hm_mem_z0 k hk
theorem hm_wo_s6 {s : Int32} (hs : hmS6 s) {c : Nat} : hmS6 (hmWo s c) := hm_s6_and hs
theorem hm_wo_bit {s : Int32} (hs : hmS6 s) {c w : Nat} (hc : c < 6) (hw : w < 6) (h : hmBit (hmWo s c) w = true) : hmBit s w = true := by
  unfold hmWo at h
  rw [hm_bit_diff hs (hm_s6_one hc) hw, Bool.and_eq_true] at h
  exact h.1
theorem Ex_d {d d' kc ks : Nat} {M : xM} {n : Nat} {sh : xSh} {R : xR} {L : xL} {I : xI} {pc : Nat} {ls : List (Option Value)} {st : List Value} {Q : xQ} (e : d = d') (h : Ex d' kc ks M n sh R L I pc ls st Q) : Ex d kc ks M n sh R L I pc ls st Q := by
  subst e
  exact h
/-- what visiting orders may change -/
def hmSg (m : Nat) (I I' : xI) : Prop := (∀ x, x ≠ m → ¬ (m + 28 ≤ x ∧ x < m + 31) → ¬ (m + 34 ≤ x ∧ x < m + 37) → ¬ (m + 13 ≤ x ∧ x < m + 23) → I' x = I x) ∧ ∀ k, k ≠ 50 → k ≠ 51 → k ≠ 54 → k ≠ 56 → k ≠ 57 → k ≠ 58 → I' m k = I m k
theorem hmSg.rf {m : Nat} {I : xI} : hmSg m I I := ⟨fun _ _ _ _ _ => rfl, fun _ _ _ _ _ _ _ => rfl⟩
theorem hmSg.tr {m : Nat} {I J K : xI} (h1 : hmSg m I J) (h2 : hmSg m J K) : hmSg m I K := ⟨fun x a b c e => (h2.1 x a b c e).trans (h1.1 x a b c e), fun k a b c e f g => (h2.2 k a b c e f g).trans (h1.2 k a b c e f g)⟩
theorem hmSg.gf {m : Nat} {I J : xI} (h1 : hmGf m I J) : hmSg m I J := ⟨fun x a b c e => h1.1 x a (by omega) (by omega) e, fun k a b _ _ _ _ => h1.2 k a b⟩
theorem hmSg.fm {m : Nat} {I J : xI} (h1 : hmFm m I J) : hmSg m I J := ⟨fun x a b c e => h1 x (by omega) e, fun k _ _ _ _ _ _ => by rw [h1 m (by omega) (by omega)]⟩
theorem hmSg.up {m : Nat} {I J : xI} (h1 : hmSg m I J) {a : Nat} {r : Nat → Int32} (ha : (m + 28 ≤ a ∧ a < m + 31) ∨ (m + 34 ≤ a ∧ a < m + 37)) : hmSg m I (va_up J a r) := ⟨fun x p1 p2 p3 p4 => by rw [va_up_ne _ _ (by omega)]; exact h1.1 x p1 p2 p3 p4, fun k p1 p2 p3 p4 p5 p6 => by rw [va_up_ne _ _ (by omega)]; exact h1.2 k p1 p2 p3 p4 p5 p6⟩
theorem hmSg.um {m : Nat} {I J : xI} (h1 : hmSg m I J) {k : Nat} {v : Int32} (hk : k = 54 ∨ k = 56 ∨ k = 57 ∨ k = 58) : hmSg m I (va_up J m (va_up (J m) k v)) := ⟨fun x p1 p2 p3 p4 => by rw [va_up_ne _ _ p1]; exact h1.1 x p1 p2 p3 p4, fun q p1 p2 p3 p4 p5 p6 => by rw [va_up_self, va_up_ne _ _ (by omega)]; exact h1.2 q p1 p2 p3 p4 p5 p6⟩
theorem hmSg.mg {m : Nat} {I J : xI} (h1 : hmSg m I J) : hmMg m I J := ⟨fun x hx => h1.1 x (fun q => hx (by unfold hmMt; omega)) (fun q => hx (by unfold hmMt; omega)) (fun q => hx (by unfold hmMt; omega)) (fun q => hx (by unfold hmMt; omega)), h1.2 0 (by omega) (by omega) (by omega) (by omega) (by omega) (by omega), h1.2 1 (by omega) (by omega) (by omega) (by omega) (by omega) (by omega), h1.2 45 (by omega) (by omega) (by omega) (by omega) (by omega) (by omega), h1.2 46 (by omega) (by omega) (by omega) (by omega) (by omega) (by omega)⟩
theorem hmSg.mo {m : Nat} {I J : xI} {O : hmO} (h1 : hmSg m I J) (h : hmMo I m O) : hmMo J m O := h1.mg.mo h
/-- the row so far -/
def hmRo (m : Nat) (p : List Nat) (J : xI) : Prop := ∀ i, i < p.length → J (m + 35) i = nI (p.getD i 0)
/-- the best so far, its number at k -/
def hmBe (m k z : Nat) (b : Int32 × List Nat) (J : xI) : Prop := J m k = b.1 ∧ (b.1 = -1 ∨ ∀ i, i < z → J (m + 36) i = nI (b.2.getD i 0))
theorem hmBe.kept {m k z : Nat} {b : Int32 × List Nat} {J K : xI} (h : hmBe m k z b J) (e1 : K m k = J m k) (e2 : K (m + 36) = J (m + 36)) : hmBe m k z b K := by
  unfold hmBe at h ⊢
  rw [e1, e2]
  exact h
def hmIv (m : Nat) (H : hmH) (I : xI) (V : xI → Prop) (J : xI) : Prop := hmSg m I J ∧ hmMr (J (m + 28)) H ∧ V J
set_option maxHeartbeats 4000000 in
theorem mc_orders_best {d : Nat} {sh : xSh} {R : xR} {L : xL} {Q : xQ} {J : xI} {m : Nat} (hm : xModel sh R m) {x1 x2 : Int32} : ∀ n i r3, n + i = 6 → (∀ j, j < i → r3 j = J (m + 35) j) → (∀ r', (∀ j, j < 6 → r' j = J (m + 35) j) → Q none 0 sh R L (va_up J (m + 36) r')) → Ex d 0 0 MX9_orders 0 sh R L (va_up J (m + 36) r3) 85 [some (.ref m), some (.int x1), some (.int x2), some (.int (nI i))] [] Q := by
  intro n
  induction n with
  | zero =>
    intro i r3 hi hr hQ
    refine Ex_iload_n 86 (i := 3) dX9_orders_85 rfl rfl rfl ?_
    refine Ex_bipush 88 (v := 6) dX9_orders_86 (by decide) rfl ?_
    refine Ex_icmp_ge 91 109 dX9_orders_88 (by decide) rfl (fun c1 => ?_) (fun c1 => absurd c1 (fun q => q (nI_le (a := 6) (by omega) (by omega))))
    refine Ex_ret0 dX9_orders_109 rfl (Or.inl rfl) ?_
    exact hQ r3 (fun j hj => hr j (by omega))
  | succ n ih =>
    intro i r3 hi hr hQ
    refine Ex_iload_n 86 (i := 3) dX9_orders_85 rfl rfl rfl ?_
    refine Ex_bipush 88 (v := 6) dX9_orders_86 (by decide) rfl ?_
    refine Ex_icmp_ge 91 109 dX9_orders_88 (by decide) rfl (fun c1 => absurd c1 (nI_ge (b := 6) (by omega) (by omega))) (fun c1 => ?_)
    refine Ex_aload_n 92 (i := 0) dX9_orders_91 rfl rfl rfl ?_
    refine Ex_getR 95 dX9_orders_92 fX9_117 (xMs_0 hm) rfl (xMr_53 hm) rfl ?_
    refine Ex_iload_n 96 (i := 3) dX9_orders_95 rfl rfl rfl ?_
    refine Ex_aload_n 97 (i := 0) dX9_orders_96 rfl rfl rfl ?_
    refine Ex_getR 100 dX9_orders_97 fX9_114 (xMs_0 hm) rfl (xMr_52 hm) rfl ?_
    refine Ex_iload_n 101 (i := 3) dX9_orders_100 rfl rfl rfl ?_
    refine Ex_aI 102 i (J (m + 35) i) dX9_orders_101 (xMs_35 hm) rfl (by omega) (by decide) (congrFun (va_up_ne _ _ (by omega)) _) rfl ?_
    refine Ex_sI 103 i r3 (va_up J (m + 36) (va_up r3 i (J (m + 35) i))) dX9_orders_102 (xMs_36 hm) rfl (by omega) (by decide) (va_up_self _ _ _) (va_up_up _ _ _ _) rfl ?_
    refine Ex_iinc 106 (v := (nI (i + 1))) (ls' := [some (.ref m), some (.int x1), some (.int x2), some (.int (nI (i + 1)))]) dX9_orders_103 rfl (xinc _) (Nat.le_of_ble_eq_true rfl) rfl rfl rfl ?_
    refine Ex_goto 85 dX9_orders_106 (by decide) ?_
    refine ih (i + 1) _ (by omega) (fun j hj => ?_) hQ
    by_cases h : j = i
    · rw [h, va_up_self]
    · rw [va_up_ne _ _ h]
      exact hr j (by omega)
set_option maxHeartbeats 4000000 in
theorem mc_deals_best {d : Nat} {sh : xSh} {R : xR} {L : xL} {Q : xQ} {J : xI} {m : Nat} (hm : xModel sh R m) {x1 x2 x3 : Int32} : ∀ n i r3, n + i = 6 → (∀ j, j < i → r3 j = J (m + 35) j) → (∀ r', (∀ j, j < 6 → r' j = J (m + 35) j) → Q none 0 sh R L (va_up J (m + 36) r')) → Ex d 0 0 MX9_deals 0 sh R L (va_up J (m + 36) r3) 82 [some (.ref m), some (.int x1), some (.int x2), some (.int x3), some (.int (nI i))] [] Q := by
  intro n
  induction n with
  | zero =>
    intro i r3 hi hr hQ
    refine Ex_iload 84 dX9_deals_82 rfl rfl ?_
    refine Ex_bipush 86 (v := 6) dX9_deals_84 (by decide) rfl ?_
    refine Ex_icmp_ge 89 109 dX9_deals_86 (by decide) rfl (fun c1 => ?_) (fun c1 => absurd c1 (fun q => q (nI_le (a := 6) (by omega) (by omega))))
    refine Ex_ret0 dX9_deals_109 rfl (Or.inl rfl) ?_
    exact hQ r3 (fun j hj => hr j (by omega))
  | succ n ih =>
    intro i r3 hi hr hQ
    refine Ex_iload 84 dX9_deals_82 rfl rfl ?_
    refine Ex_bipush 86 (v := 6) dX9_deals_84 (by decide) rfl ?_
    refine Ex_icmp_ge 89 109 dX9_deals_86 (by decide) rfl (fun c1 => absurd c1 (nI_ge (b := 6) (by omega) (by omega))) (fun c1 => ?_)
    refine Ex_aload_n 90 (i := 0) dX9_deals_89 rfl rfl rfl ?_
    refine Ex_getR 93 dX9_deals_90 fX9_117 (xMs_0 hm) rfl (xMr_53 hm) rfl ?_
    refine Ex_iload 95 dX9_deals_93 rfl rfl ?_
    refine Ex_aload_n 96 (i := 0) dX9_deals_95 rfl rfl rfl ?_
    refine Ex_getR 99 dX9_deals_96 fX9_114 (xMs_0 hm) rfl (xMr_52 hm) rfl ?_
    refine Ex_iload 101 dX9_deals_99 rfl rfl ?_
    refine Ex_aI 102 i (J (m + 35) i) dX9_deals_101 (xMs_35 hm) rfl (by omega) (by decide) (congrFun (va_up_ne _ _ (by omega)) _) rfl ?_
    refine Ex_sI 103 i r3 (va_up J (m + 36) (va_up r3 i (J (m + 35) i))) dX9_deals_102 (xMs_36 hm) rfl (by omega) (by decide) (va_up_self _ _ _) (va_up_up _ _ _ _) rfl ?_
    refine Ex_iinc 106 (v := (nI (i + 1))) (ls' := [some (.ref m), some (.int x1), some (.int x2), some (.int x3), some (.int (nI (i + 1)))]) dX9_deals_103 rfl (xinc _) (Nat.le_of_ble_eq_true rfl) rfl rfl rfl ?_
    refine Ex_goto 82 dX9_deals_106 (by decide) ?_
    refine ih (i + 1) _ (by omega) (fun j hj => ?_) hQ
    by_cases h : j = i
    · rw [h, va_up_self]
    · rw [va_up_ne _ _ h]
      exact hr j (by omega)
theorem hmSg.um' {m : Nat} {I J : xI} (h1 : hmSg m I J) {k : Nat} {v : Int32} {r : Nat → Int32} (e : J m = r) (hk : k = 54 ∨ k = 56 ∨ k = 57 ∨ k = 58) : hmSg m I (va_up J m (va_up r k v)) := by
  subst e
  exact h1.um hk
set_option maxHeartbeats 4000000 in
theorem mc_orders_rings {d : Nat} {sh : xSh} {R : xR} {L : xL} {I : xI} {Q : xQ} {m : Nat} {O : hmO} {H : hmH} (hm : xModel sh R m) (hO : hmMo I m O) (ho : hmOok O) (hok : hmOk O H) (h46 : I m 46 = nI (hmTk O)) (hmn : hmMin H < 800000) {z : Nat} (hz : z ≤ 6) {p : List Nat} (hpl : p.length = z) (hnd : p.Nodup) (hcan : ∀ x, x ∈ p → x < hmN O ∧ hmCanRing H x = true) {b : Int32 × List Nat} {x2 : Int32} (hQ : ∀ I', hmIv m H I (hmBe m 54 z (hmWg (hmFo O H) b p)) I' → hmRo m p I' → Q none 0 sh R L I') : ∀ n i J, n + i = p.length → hmSg m I J → hmMr (J (m + 28)) (hmCm H (p.take i)) → hmMr (J (m + 29)) H → hmRo m p J → hmBe m 54 z b J → Ex (d + 8) 0 0 MX9_orders 0 sh R L J 19 [some (.ref m), some (.int (nI p.length)), some (.int x2), some (.int (nI i))] [] Q := by
  intro n
  induction n with
  | zero =>
    intro i J hi gJ hS hA hR hB
    have hOJ := gJ.mo hO
    obtain ⟨on, otk, ow, cd, cfrom, cto, clen, ccd, csem⟩ := id hOJ
    have hsub : ∀ x, x ∈ p.take i → x < hmN O ∧ hmCanRing H x = true := fun x hx => hcan x (List.mem_of_mem_take hx)
    obtain ⟨k1, k2, k3, k4⟩ := hmCm_can ho (p.take i) H hok (List.Sublist.nodup (List.take_sublist i p) hnd) hsub
    have o6 := ho.1
    have j46 : J m 46 = nI (hmTk O) := by rw [gJ.2 46 (by omega) (by omega) (by omega) (by omega) (by omega) (by omega)]; exact h46
    refine Ex_iload_n 20 (i := 3) dX9_orders_19 rfl rfl rfl ?_
    refine Ex_iload_n 21 (i := 1) dX9_orders_20 rfl rfl rfl ?_
    refine Ex_icmp_ge 24 40 dX9_orders_21 (by decide) rfl (fun c1 => ?_) (fun c1 => absurd c1 (fun q => q (nI_le (by omega) (by omega))))
    refine Ex_aload_n 41 (i := 0) dX9_orders_40 rfl rfl rfl ?_
    refine Ex_callV (M' := MX9_goesOn) 44 [] (rest := []) dX9_orders_41 lX9_390 mX9_goesOn rfl (xMs_0 hm) rfl (Nat.le_of_ble_eq_true rfl) (Nat.le_of_ble_eq_true rfl) rfl ?_
    rw [hm_take_all (by omega)] at hS k1 k3
    refine mc_goesOn hm hS hOJ ho k1 j46 (by omega) (fun I1 g r1 r2 r3 r4 => ?_)
    simp only [Option.toList, List.nil_append, List.cons_append]
    refine Ex_aload_n 45 (i := 0) dX9_orders_44 rfl rfl rfl ?_
    refine Ex_getR 48 dX9_orders_45 fX9_96 (xMs_0 hm) rfl (xMr_40 hm) rfl ?_
    refine Ex_iconst 49 (v := 0) dX9_orders_48 (by decide) rfl ?_
    refine Ex_aload_n 50 (i := 0) dX9_orders_49 rfl rfl rfl ?_
    refine Ex_getR 53 dX9_orders_50 fX9_93 (xMs_0 hm) rfl (xMr_39 hm) rfl ?_
    refine Ex_iconst 54 (v := 0) dX9_orders_53 (by decide) rfl ?_
    refine Ex_callS (M' := MX9_copies) 57 [.ref (m + 29), .int 0, .ref (m + 28), .int 0] (rest := []) dX9_orders_54 lX9_350 mX9_copies rfl rfl (Nat.le_of_ble_eq_true rfl) (Nat.le_of_ble_eq_true rfl) rfl ?_
    refine mc_cp (np := 58) (nq := 58) (a := 0) (b := 0) (J := (va_up I1 (m + 28) (va_cpy (I1 (m + 29)) (I1 (m + 28)) 0 0 58))) (xMs_29 hm) (xMs_28 hm) (by omega) (by omega) (by omega) (by omega) (by omega) rfl rfl rfl ?_
    simp only [Option.toList, List.nil_append, List.cons_append]
    refine Ex_aload_n 58 (i := 0) dX9_orders_57 rfl rfl rfl ?_
    refine Ex_gI 61 (I1 m 51) dX9_orders_58 fX9_387 (xMs_0 hm) rfl (congrFun (va_up_ne _ _ (by omega)) _) rfl ?_
    rw [r3]
    refine Ex_callS (M' := MX9_bits) 64 [.int (hmSet (hmOut O 30 (hmCm H p)).2)] (rest := []) dX9_orders_61 lX9_322 mX9_bits rfl rfl (Nat.le_of_ble_eq_true rfl) (Nat.le_of_ble_eq_true rfl) rfl ?_
    refine mc_bits ?_
    simp only [Option.toList, List.cons_append, List.nil_append]
    refine Ex_aload_n 65 (i := 0) dX9_orders_64 rfl rfl rfl ?_
    refine Ex_gI 68 (I1 m 54) dX9_orders_65 fX9_396 (xMs_0 hm) rfl (congrFun (va_up_ne _ _ (by omega)) _) rfl ?_
    have e54 : I1 m 54 = b.1 := by rw [g.2 54 (by omega) (by omega)]; exact hB.1
    have hA1 : hmMr (va_cpy (I1 (m + 29)) (I1 (m + 28)) 0 0 58) H := by
      rw [g.1 (m + 29) (by omega) (by omega) (by omega) (by omega)]
      exact hA.cp1 _
    rw [e54]
    refine Ex_icmp_gt 71 72 dX9_orders_68 (by decide) rfl (fun c2 => ?_) (fun c2 => ?_)
    · refine Ex_aload_n 73 (i := 0) dX9_orders_72 rfl rfl rfl ?_
      refine Ex_aload_n 74 (i := 0) dX9_orders_73 rfl rfl rfl ?_
      refine Ex_gI 77 (I1 m 51) dX9_orders_74 fX9_387 (xMs_0 hm) rfl (congrFun (va_up_ne _ _ (by omega)) _) rfl ?_
      rw [r3]
      refine Ex_callS (M' := MX9_bits) 80 [.int (hmSet (hmOut O 30 (hmCm H p)).2)] (rest := [.ref m]) dX9_orders_77 lX9_322 mX9_bits rfl rfl (Nat.le_of_ble_eq_true rfl) (Nat.le_of_ble_eq_true rfl) rfl ?_
      refine mc_bits ?_
      simp only [Option.toList, List.cons_append, List.nil_append]
      refine Ex_pI 83 (I1 m) (va_up (va_up I1 (m + 28) (va_cpy (I1 (m + 29)) (I1 (m + 28)) 0 0 58)) m (va_up (I1 m) 54 (hmFo O H p))) dX9_orders_80 fX9_396 rfl (xMs_0 hm) rfl (fun _ => rfl) (va_up_ne _ _ (by omega)) rfl rfl rfl ?_
      refine Ex_iconst 84 (v := 0) dX9_orders_83 (by decide) rfl ?_
      refine Ex_istore_n 85 (i := 3) (ls' := [some (.ref m), some (.int (nI p.length)), some (.int x2), some (.int 0)]) dX9_orders_84 rfl (Nat.le_of_ble_eq_true rfl) rfl rfl rfl ?_
      have e : hmWg (hmFo O H) b p = (hmFo O H p, p) := if_neg (Int32.not_le.mpr c2)
      have e36 : (va_up (va_up I1 (m + 28) (va_cpy (I1 (m + 29)) (I1 (m + 28)) 0 0 58)) m (va_up (I1 m) 54 (hmFo O H p))) = va_up (va_up (va_up I1 (m + 28) (va_cpy (I1 (m + 29)) (I1 (m + 28)) 0 0 58)) m (va_up (I1 m) 54 (hmFo O H p))) (m + 36) ((va_up (va_up I1 (m + 28) (va_cpy (I1 (m + 29)) (I1 (m + 28)) 0 0 58)) m (va_up (I1 m) 54 (hmFo O H p))) (m + 36)) := (va_up_id _ _).symm
      rw [e36]
      refine mc_orders_best hm 6 0 _ rfl (fun j hj => absurd hj (by omega)) (fun r' hr' => ?_)
      have er : ∀ j, j < p.length → r' j = nI (p.getD j 0) := fun j hj => by
        rw [hr' j (by omega), va_up_ne _ _ (by omega), va_up_ne _ _ (by omega), g.1 (m + 35) (by omega) (by omega) (by omega) (by omega)]
        exact hR j hj
      refine hQ _ ⟨hmSg.up ?_ (Or.inr ⟨by omega, by omega⟩), ?_, ?_⟩ (fun j hj => ?_)
      · exact hmSg.um' ((gJ.tr (hmSg.gf g)).up (Or.inl ⟨by omega, by omega⟩)) (va_up_ne _ _ (by omega)) (Or.inl rfl)
      · rw [va_up_ne _ _ (by omega), va_up_ne _ _ (by omega), va_up_self]
        exact hA1
      · rw [e]
        refine ⟨by rw [va_up_ne _ _ (by omega), va_up_self, va_up_self], Or.inr (fun j hj => ?_)⟩
        rw [va_up_self]
        exact er j (by omega)
      · rw [va_up_ne _ _ (by omega), va_up_ne _ _ (by omega), va_up_ne _ _ (by omega), g.1 (m + 35) (by omega) (by omega) (by omega) (by omega)]
        exact hR j hj
    · refine Ex_ret0 dX9_orders_71 rfl (Or.inl rfl) ?_
      have e : hmWg (hmFo O H) b p = b := if_pos (Int32.not_lt.mp c2)
      refine hQ _ ⟨(gJ.tr (hmSg.gf g)).up (Or.inl ⟨by omega, by omega⟩), by rw [va_up_self]; exact hA1, ?_⟩ (fun j hj => by rw [va_up_ne _ _ (by omega), g.1 (m + 35) (by omega) (by omega) (by omega) (by omega)]; exact hR j hj)
      rw [e]
      exact hB.kept (by rw [va_up_ne _ _ (by omega), g.2 54 (by omega) (by omega)]) (by rw [va_up_ne _ _ (by omega), g.1 (m + 36) (by omega) (by omega) (by omega) (by omega)])
  | succ n ih =>
    intro i J hi gJ hS hA hR hB
    have hOJ := gJ.mo hO
    obtain ⟨on, otk, ow, cd, cfrom, cto, clen, ccd, csem⟩ := id hOJ
    have hsub : ∀ x, x ∈ p.take i → x < hmN O ∧ hmCanRing H x = true := fun x hx => hcan x (List.mem_of_mem_take hx)
    obtain ⟨k1, k2, k3, k4⟩ := hmCm_can ho (p.take i) H hok (List.Sublist.nodup (List.take_sublist i p) hnd) hsub
    have o6 := ho.1
    have j46 : J m 46 = nI (hmTk O) := by rw [gJ.2 46 (by omega) (by omega) (by omega) (by omega) (by omega) (by omega)]; exact h46
    refine Ex_iload_n 20 (i := 3) dX9_orders_19 rfl rfl rfl ?_
    refine Ex_iload_n 21 (i := 1) dX9_orders_20 rfl rfl rfl ?_
    refine Ex_icmp_ge 24 40 dX9_orders_21 (by decide) rfl (fun c1 => absurd c1 (nI_ge (by omega) (by omega))) (fun c1 => ?_)
    refine Ex_aload_n 25 (i := 0) dX9_orders_24 rfl rfl rfl ?_
    refine Ex_aload_n 26 (i := 0) dX9_orders_25 rfl rfl rfl ?_
    refine Ex_getR 29 dX9_orders_26 fX9_114 (xMs_0 hm) rfl (xMr_52 hm) rfl ?_
    refine Ex_iload_n 30 (i := 3) dX9_orders_29 rfl rfl rfl ?_
    refine Ex_aI 31 i (J (m + 35) i) dX9_orders_30 (xMs_35 hm) rfl (by omega) (by decide) rfl rfl ?_
    rw [hR i (by omega)]
    refine Ex_callV (M' := MX9_rings) 34 [.int (nI (p.getD i 0))] (rest := []) dX9_orders_31 lX9_360 mX9_rings rfl (xMs_0 hm) rfl (Nat.le_of_ble_eq_true rfl) (Nat.le_of_ble_eq_true rfl) rfl ?_
    have hri := hm_getD_mem (show i < p.length by omega)
    have hcw := hcan _ hri
    have hni : (p.getD i 0) ∉ hmLine (hmCm H (p.take i)) := by
      have z1 : hmBit (hmSet H) (p.getD i 0) = false ∧ (p.getD i 0) ∉ hmLine H := by simpa [hmCanRing] using hcw.2
      have z2 : (p.getD i 0) ∉ p.take i := hm_notin_take hnd (by omega)
      rw [k4]
      exact fun q => (List.mem_append.mp q).elim z1.2 z2
    refine mc_rings hm hS (by omega) (hmOk_room k1 ho hcw.1 hni) (fun r' hr' => ?_)
    simp only [Option.toList, List.nil_append, List.cons_append]
    refine Ex_iinc 37 (v := (nI (i + 1))) (ls' := [some (.ref m), some (.int (nI p.length)), some (.int x2), some (.int (nI (i + 1)))]) dX9_orders_34 rfl (xinc _) (Nat.le_of_ble_eq_true rfl) rfl rfl rfl ?_
    refine Ex_goto 19 dX9_orders_37 (by decide) ?_
    exact ih (i + 1) _ (by omega) (gJ.up (Or.inl ⟨by omega, by omega⟩)) (by rw [hmCm_s H p (by omega), va_up_self]; exact hr') (by rw [va_up_ne _ _ (by omega)]; exact hA) (fun j hj => by rw [va_up_ne _ _ (by omega)]; exact hR j hj) (hB.kept (by rw [va_up_ne _ _ (by omega)]) (va_up_ne _ _ (by omega)))
set_option maxHeartbeats 4000000 in
theorem mc_orders_leaf {d : Nat} {sh : xSh} {R : xR} {L : xL} {I : xI} {Q : xQ} {m : Nat} {O : hmO} {H : hmH} (hm : xModel sh R m) (hO : hmMo I m O) (ho : hmOok O) (hok : hmOk O H) (h46 : I m 46 = nI (hmTk O)) (hmn : hmMin H < 800000) {z : Nat} (hz : z ≤ 6) {p : List Nat} (hpl : p.length = z) (hnd : p.Nodup) (hcan : ∀ x, x ∈ p → x < hmN O ∧ hmCanRing H x = true) {b : Int32 × List Nat} {x2 : Int32} {J : xI} (hJ : hmIv m H I (hmBe m 54 z b) J) (hR : hmRo m p J) (hQ : ∀ I', hmIv m H I (hmBe m 54 z (hmWg (hmFo O H) b p)) I' → hmRo m p I' → Q none 0 sh R L I') : Ex (d + 8) 0 0 MX9_orders 0 sh R L J 4 [some (.ref m), some (.int (nI p.length)), some (.int x2), none] [] Q := by
  refine Ex_aload_n 5 (i := 0) dX9_orders_4 rfl rfl rfl ?_
  refine Ex_getR 8 dX9_orders_5 fX9_93 (xMs_0 hm) rfl (xMr_39 hm) rfl ?_
  refine Ex_iconst 9 (v := 0) dX9_orders_8 (by decide) rfl ?_
  refine Ex_aload_n 10 (i := 0) dX9_orders_9 rfl rfl rfl ?_
  refine Ex_getR 13 dX9_orders_10 fX9_96 (xMs_0 hm) rfl (xMr_40 hm) rfl ?_
  refine Ex_iconst 14 (v := 0) dX9_orders_13 (by decide) rfl ?_
  refine Ex_callS (M' := MX9_copies) 17 [.ref (m + 28), .int 0, .ref (m + 29), .int 0] (rest := []) dX9_orders_14 lX9_350 mX9_copies rfl rfl (Nat.le_of_ble_eq_true rfl) (Nat.le_of_ble_eq_true rfl) rfl ?_
  refine mc_cp (np := 58) (nq := 58) (a := 0) (b := 0) (J := (va_up J (m + 29) (va_cpy (J (m + 28)) (J (m + 29)) 0 0 58))) (xMs_28 hm) (xMs_29 hm) (by omega) (by omega) (by omega) (by omega) (by omega) rfl rfl rfl ?_
  simp only [Option.toList, List.nil_append, List.cons_append]
  refine Ex_iconst 18 (v := 0) dX9_orders_17 (by decide) rfl ?_
  refine Ex_istore_n 19 (i := 3) (ls' := [some (.ref m), some (.int (nI p.length)), some (.int x2), some (.int 0)]) dX9_orders_18 rfl (Nat.le_of_ble_eq_true rfl) rfl rfl rfl ?_
  exact mc_orders_rings (I := I) hm hO ho hok h46 hmn hz hpl hnd hcan hQ p.length 0 _ (by omega) (hJ.1.up (Or.inl ⟨by omega, by omega⟩)) (by rw [va_up_ne _ _ (by omega)]; exact hJ.2.1) (by rw [va_up_self]; exact hJ.2.1.cp1 _) (fun j hj => by rw [va_up_ne _ _ (by omega)]; exact hR j hj) (hJ.2.2.kept (by rw [va_up_ne _ _ (by omega)]) (va_up_ne _ _ (by omega)))
theorem hmMr.stand {r r' : Nat → Int32} {H : hmH} {p : List Nat} (h : hmMr r H) (hl : p.length = (hmLine H).length) (h1 : ∀ i, i < p.length → r' (4 + i) = nI (p.getD i 0)) (h2 : ∀ k, ¬ (4 ≤ k ∧ k < 10) → r' k = r k) : hmMr r' (hmStand H p) := by
  obtain ⟨s6, smin, slen, sset, stak, sline, sheld, shas, stalk⟩ := h
  refine ⟨by show p.length ≤ 6; omega, by rw [h2 0 (by omega)]; exact smin, ?_, by rw [h2 2 (by omega)]; exact sset, by rw [h2 3 (by omega)]; exact stak, h1, fun w hw => by rw [h2 _ (by omega)]; exact sheld w hw, fun w hw => by rw [h2 _ (by omega)]; exact shas w hw, fun x hx y hy => by rw [h2 _ (by omega)]; exact stalk x hx y hy⟩
  rw [h2 1 (by omega), slen, ← hl]
  rfl
set_option maxHeartbeats 4000000 in
theorem mc_deals_stand {d : Nat} {sh : xSh} {R : xR} {L : xL} {I : xI} {Q : xQ} {m : Nat} {O : hmO} {H : hmH} (hm : xModel sh R m) (hO : hmMo I m O) (ho : hmOok O) (hok : hmOk O H) (h46 : I m 46 = nI (hmTk O)) (hmn : hmMin H < 800000) {z : Nat} (hz : z ≤ 6) {p : List Nat} (hpl : p.length = z) (hll : p.length = (hmLine H).length) (hpk : hmOk O (hmStand H p)) {b : Int32 × List Nat} {x2 : Int32} {J : xI} (gJ : hmSg m I J) (hS : hmMr (J (m + 28)) H) (hA : hmMr (J (m + 30)) H) (hR : hmRo m p J) (hB : hmBe m 58 z b J) (hQ : ∀ I', hmIv m H I (hmBe m 58 z (hmWg (hmFe2 O H) b p)) I' → hmRo m p I' → Q none 0 sh R L I') : ∀ n i r3, n + i = p.length → (∀ j, j < i → r3 (4 + j) = nI (p.getD j 0)) → (∀ k, ¬ (4 ≤ k ∧ k < 10) → r3 k = J (m + 28) k) → Ex (d + 7) 0 0 MX9_deals 0 sh R L (va_up J (m + 28) r3) 19 [some (.ref m), some (.int (nI p.length)), some (.int x2), some (.int (nI i)), none] [] Q := by
  intro n
  induction n with
  | zero =>
    intro i r3 hi hr1 hr2
    have hOJ := gJ.mo hO
    have o6 := ho.1
    refine Ex_iload_n 20 (i := 3) dX9_deals_19 rfl rfl rfl ?_
    refine Ex_iload_n 21 (i := 1) dX9_deals_20 rfl rfl rfl ?_
    refine Ex_icmp_ge 24 44 dX9_deals_21 (by decide) rfl (fun c1 => ?_) (fun c1 => absurd c1 (fun q => q (nI_le (by omega) (by omega))))
    refine Ex_aload_n 45 (i := 0) dX9_deals_44 rfl rfl rfl ?_
    refine Ex_callV (M' := MX9_passes) 48 [] (rest := []) dX9_deals_45 lX9_369 mX9_passes rfl (xMs_0 hm) rfl (Nat.le_of_ble_eq_true rfl) (Nat.le_of_ble_eq_true rfl) rfl ?_
    have hSt := hmMr.stand hS hll (fun j hj => hr1 j (by omega)) hr2
    refine mc_passes (tk := hmTk O) (H := hmStand H p) (O := O) hm (by rw [(va_up_self _ _ _)]; exact hSt) (hmSg.mo (hmSg.up (hmSg.rf (I := J)) (Or.inl ⟨by omega, by omega⟩)) hOJ) ho hpk (by rw [va_up_ne _ _ (by omega)]; rw [gJ.2 46 (by omega) (by omega) (by omega) (by omega) (by omega) (by omega)]; exact h46) ho.2.1 ho.2.2.1 (show hmMin H < 1000000 by omega) (fun I1 g hM1 => ?_)
    simp only [Option.toList, List.nil_append, List.cons_append]
    refine Ex_callS (M' := MX9_bits) 51 [.int (hmNx O H p)] (rest := []) dX9_deals_48 lX9_322 mX9_bits rfl rfl (Nat.le_of_ble_eq_true rfl) (Nat.le_of_ble_eq_true rfl) rfl ?_
    refine mc_bits ?_
    simp only [Option.toList, List.cons_append, List.nil_append]
    refine Ex_istore_n 52 (i := 3) (ls' := [some (.ref m), some (.int (nI p.length)), some (.int x2), some (.int (hmFe2 O H p)), none]) dX9_deals_51 rfl (Nat.le_of_ble_eq_true rfl) rfl rfl rfl ?_
    refine Ex_aload_n 53 (i := 0) dX9_deals_52 rfl rfl rfl ?_
    refine Ex_getR 56 dX9_deals_53 fX9_99 (xMs_0 hm) rfl (xMr_41 hm) rfl ?_
    refine Ex_iconst 57 (v := 0) dX9_deals_56 (by decide) rfl ?_
    refine Ex_aload_n 58 (i := 0) dX9_deals_57 rfl rfl rfl ?_
    refine Ex_getR 61 dX9_deals_58 fX9_93 (xMs_0 hm) rfl (xMr_39 hm) rfl ?_
    refine Ex_iconst 62 (v := 0) dX9_deals_61 (by decide) rfl ?_
    refine Ex_callS (M' := MX9_copies) 65 [.ref (m + 30), .int 0, .ref (m + 28), .int 0] (rest := []) dX9_deals_62 lX9_350 mX9_copies rfl rfl (Nat.le_of_ble_eq_true rfl) (Nat.le_of_ble_eq_true rfl) rfl ?_
    refine mc_cp (np := 58) (nq := 58) (a := 0) (b := 0) (J := (va_up I1 (m + 28) (va_cpy (I1 (m + 30)) (I1 (m + 28)) 0 0 58))) (xMs_30 hm) (xMs_28 hm) (by omega) (by omega) (by omega) (by omega) (by omega) rfl rfl rfl ?_
    simp only [Option.toList, List.nil_append, List.cons_append]
    refine Ex_iload_n 66 (i := 3) dX9_deals_65 rfl rfl rfl ?_
    refine Ex_aload_n 67 (i := 0) dX9_deals_66 rfl rfl rfl ?_
    refine Ex_gI 70 (I1 m 58) dX9_deals_67 fX9_437 (xMs_0 hm) rfl (congrFun (va_up_ne _ _ (by omega)) _) rfl ?_
    have kk : ∀ x, x ≠ m + 28 → ¬ (m + 13 ≤ x ∧ x < m + 23) → I1 x = J x := fun x a c => by rw [g x a c, va_up_ne _ _ a]
    have gg : hmSg m I I1 := (gJ.up (r := r3) (Or.inl ⟨by omega, by omega⟩)).tr (hmSg.fm g)
    have e58 : I1 m 58 = b.1 := by rw [kk m (by omega) (by omega)]; exact hB.1
    have hA1 : hmMr (va_cpy (I1 (m + 30)) (I1 (m + 28)) 0 0 58) H := by
      rw [kk (m + 30) (by omega) (by omega)]
      exact hA.cp1 _
    rw [e58]
    refine Ex_icmp_gt 73 74 dX9_deals_70 (by decide) rfl (fun c2 => ?_) (fun c2 => ?_)
    · refine Ex_aload_n 75 (i := 0) dX9_deals_74 rfl rfl rfl ?_
      refine Ex_iload_n 76 (i := 3) dX9_deals_75 rfl rfl rfl ?_
      refine Ex_pI 79 (I1 m) (va_up (va_up I1 (m + 28) (va_cpy (I1 (m + 30)) (I1 (m + 28)) 0 0 58)) m (va_up (I1 m) 58 (hmFe2 O H p))) dX9_deals_76 fX9_437 rfl (xMs_0 hm) rfl (fun _ => rfl) (va_up_ne _ _ (by omega)) rfl rfl rfl ?_
      refine Ex_iconst 80 (v := 0) dX9_deals_79 (by decide) rfl ?_
      refine Ex_istore 82 (ls' := [some (.ref m), some (.int (nI p.length)), some (.int x2), some (.int (hmFe2 O H p)), some (.int 0)]) dX9_deals_80 (Nat.le_of_ble_eq_true rfl) rfl rfl rfl ?_
      have e : hmWg (hmFe2 O H) b p = (hmFe2 O H p, p) := if_neg (Int32.not_le.mpr c2)
      have e36 : (va_up (va_up I1 (m + 28) (va_cpy (I1 (m + 30)) (I1 (m + 28)) 0 0 58)) m (va_up (I1 m) 58 (hmFe2 O H p))) = va_up (va_up (va_up I1 (m + 28) (va_cpy (I1 (m + 30)) (I1 (m + 28)) 0 0 58)) m (va_up (I1 m) 58 (hmFe2 O H p))) (m + 36) ((va_up (va_up I1 (m + 28) (va_cpy (I1 (m + 30)) (I1 (m + 28)) 0 0 58)) m (va_up (I1 m) 58 (hmFe2 O H p))) (m + 36)) := (va_up_id _ _).symm
      rw [e36]
      refine mc_deals_best hm 6 0 _ rfl (fun j hj => absurd hj (by omega)) (fun r' hr' => ?_)
      have er : ∀ j, j < p.length → r' j = nI (p.getD j 0) := fun j hj => by
        rw [hr' j (by omega), va_up_ne _ _ (by omega), va_up_ne _ _ (by omega), kk (m + 35) (by omega) (by omega)]
        exact hR j hj
      refine hQ _ ⟨hmSg.up ?_ (Or.inr ⟨by omega, by omega⟩), ?_, ?_⟩ (fun j hj => ?_)
      · exact hmSg.um' (gg.up (Or.inl ⟨by omega, by omega⟩)) (va_up_ne _ _ (by omega)) (Or.inr (Or.inr (Or.inr rfl)))
      · rw [va_up_ne _ _ (by omega), va_up_ne _ _ (by omega), va_up_self]
        exact hA1
      · rw [e]
        refine ⟨by rw [va_up_ne _ _ (by omega), va_up_self, va_up_self], Or.inr (fun j hj => ?_)⟩
        rw [va_up_self]
        exact er j (by omega)
      · rw [va_up_ne _ _ (by omega), va_up_ne _ _ (by omega), va_up_ne _ _ (by omega), kk (m + 35) (by omega) (by omega)]
        exact hR j hj
    · refine Ex_ret0 dX9_deals_73 rfl (Or.inl rfl) ?_
      have e : hmWg (hmFe2 O H) b p = b := if_pos (Int32.not_lt.mp c2)
      refine hQ _ ⟨gg.up (Or.inl ⟨by omega, by omega⟩), by rw [va_up_self]; exact hA1, ?_⟩ (fun j hj => by rw [va_up_ne _ _ (by omega), kk (m + 35) (by omega) (by omega)]; exact hR j hj)
      rw [e]
      exact hB.kept (by rw [va_up_ne _ _ (by omega), kk m (by omega) (by omega)]) (by rw [va_up_ne _ _ (by omega), kk (m + 36) (by omega) (by omega)])
  | succ n ih =>
    intro i r3 hi hr1 hr2
    have hOJ := gJ.mo hO
    have o6 := ho.1
    refine Ex_iload_n 20 (i := 3) dX9_deals_19 rfl rfl rfl ?_
    refine Ex_iload_n 21 (i := 1) dX9_deals_20 rfl rfl rfl ?_
    refine Ex_icmp_ge 24 44 dX9_deals_21 (by decide) rfl (fun c1 => absurd c1 (nI_ge (by omega) (by omega))) (fun c1 => ?_)
    refine Ex_aload_n 25 (i := 0) dX9_deals_24 rfl rfl rfl ?_
    refine Ex_getR 28 dX9_deals_25 fX9_93 (xMs_0 hm) rfl (xMr_39 hm) rfl ?_
    refine Ex_iconst 29 (v := 4) dX9_deals_28 (by decide) rfl ?_
    refine Ex_iload_n 30 (i := 3) dX9_deals_29 rfl rfl rfl ?_
    refine Ex_iadd 31 dX9_deals_30 rfl ?_
    refine Ex_aload_n 32 (i := 0) dX9_deals_31 rfl rfl rfl ?_
    refine Ex_getR 35 dX9_deals_32 fX9_114 (xMs_0 hm) rfl (xMr_52 hm) rfl ?_
    refine Ex_iload_n 36 (i := 3) dX9_deals_35 rfl rfl rfl ?_
    refine Ex_aI 37 i (J (m + 35) i) dX9_deals_36 (xMs_35 hm) rfl (by omega) (by decide) (congrFun (va_up_ne _ _ (by omega)) _) rfl ?_
    rw [hR i (by omega)]
    refine Ex_sI 38 (4 + i) r3 (va_up J (m + 28) (va_up r3 (4 + i) (nI (p.getD i 0)))) dX9_deals_37 (xMs_28 hm) (hm_ad rfl rfl) (by omega) (by decide) (va_up_self _ _ _) (va_up_up _ _ _ _) rfl ?_
    refine Ex_iinc 41 (v := (nI (i + 1))) (ls' := [some (.ref m), some (.int (nI p.length)), some (.int x2), some (.int (nI (i + 1))), none]) dX9_deals_38 rfl (xinc _) (Nat.le_of_ble_eq_true rfl) rfl rfl rfl ?_
    refine Ex_goto 19 dX9_deals_41 (by decide) ?_
    refine ih (i + 1) _ (by omega) (fun j hj => ?_) (fun k hk => by rw [va_up_ne _ _ (by omega)]; exact hr2 k hk)
    by_cases h : j = i
    · rw [h, va_up_self]
    · rw [va_up_ne _ _ (by omega)]
      exact hr1 j (by omega)
set_option maxHeartbeats 4000000 in
theorem mc_deals_leaf {d : Nat} {sh : xSh} {R : xR} {L : xL} {I : xI} {Q : xQ} {m : Nat} {O : hmO} {H : hmH} (hm : xModel sh R m) (hO : hmMo I m O) (ho : hmOok O) (hok : hmOk O H) (h46 : I m 46 = nI (hmTk O)) (hmn : hmMin H < 800000) {z : Nat} (hz : z ≤ 6) {p : List Nat} (hpl : p.length = z) (hll : p.length = (hmLine H).length) (hpk : hmOk O (hmStand H p)) {b : Int32 × List Nat} {x2 : Int32} {J : xI} (hJ : hmIv m H I (hmBe m 58 z b) J) (hR : hmRo m p J) (hQ : ∀ I', hmIv m H I (hmBe m 58 z (hmWg (hmFe2 O H) b p)) I' → hmRo m p I' → Q none 0 sh R L I') : Ex (d + 7) 0 0 MX9_deals 0 sh R L J 4 [some (.ref m), some (.int (nI p.length)), some (.int x2), none, none] [] Q := by
  refine Ex_aload_n 5 (i := 0) dX9_deals_4 rfl rfl rfl ?_
  refine Ex_getR 8 dX9_deals_5 fX9_93 (xMs_0 hm) rfl (xMr_39 hm) rfl ?_
  refine Ex_iconst 9 (v := 0) dX9_deals_8 (by decide) rfl ?_
  refine Ex_aload_n 10 (i := 0) dX9_deals_9 rfl rfl rfl ?_
  refine Ex_getR 13 dX9_deals_10 fX9_99 (xMs_0 hm) rfl (xMr_41 hm) rfl ?_
  refine Ex_iconst 14 (v := 0) dX9_deals_13 (by decide) rfl ?_
  refine Ex_callS (M' := MX9_copies) 17 [.ref (m + 28), .int 0, .ref (m + 30), .int 0] (rest := []) dX9_deals_14 lX9_350 mX9_copies rfl rfl (Nat.le_of_ble_eq_true rfl) (Nat.le_of_ble_eq_true rfl) rfl ?_
  refine mc_cp (np := 58) (nq := 58) (a := 0) (b := 0) (J := (va_up J (m + 30) (va_cpy (J (m + 28)) (J (m + 30)) 0 0 58))) (xMs_28 hm) (xMs_30 hm) (by omega) (by omega) (by omega) (by omega) (by omega) rfl rfl rfl ?_
  simp only [Option.toList, List.nil_append, List.cons_append]
  refine Ex_iconst 18 (v := 0) dX9_deals_17 (by decide) rfl ?_
  refine Ex_istore_n 19 (i := 3) (ls' := [some (.ref m), some (.int (nI p.length)), some (.int x2), some (.int 0), none]) dX9_deals_18 rfl (Nat.le_of_ble_eq_true rfl) rfl rfl rfl ?_
  have e28 : (va_up J (m + 30) (va_cpy (J (m + 28)) (J (m + 30)) 0 0 58)) = va_up (va_up J (m + 30) (va_cpy (J (m + 28)) (J (m + 30)) 0 0 58)) (m + 28) ((va_up J (m + 30) (va_cpy (J (m + 28)) (J (m + 30)) 0 0 58)) (m + 28)) := (va_up_id _ _).symm
  rw [e28]
  exact mc_deals_stand (I := I) hm hO ho hok h46 hmn hz hpl hll hpk (hJ.1.up (Or.inl ⟨by omega, by omega⟩)) (by rw [va_up_ne _ _ (by omega)]; exact hJ.2.1) (by rw [va_up_self]; exact hJ.2.1.cp1 _) (fun j hj => by rw [va_up_ne _ _ (by omega)]; exact hR j hj) (hJ.2.2.kept (by rw [va_up_ne _ _ (by omega)]) (va_up_ne _ _ (by omega))) hQ p.length 0 _ (by omega) (fun j hj => absurd hj (by omega)) (fun k _ => rfl)
def hmMh (m : Nat) (b : Nat × Nat) (J : xI) : Prop := J m 56 = nI b.1 ∧ J m 57 = nI b.2
def hmHs (O : hmO) (H : hmH) (w : Nat) (b : Nat × Nat) (r : List Nat) : Nat × Nat := (b.1 + 1, if hmBit (hmNx O H r) w = true then b.2 + 1 else b.2)
set_option maxHeartbeats 4000000 in
theorem mc_shuffles_stand {d : Nat} {sh : xSh} {R : xR} {L : xL} {I : xI} {Q : xQ} {m : Nat} {O : hmO} {H : hmH} (hm : xModel sh R m) (hO : hmMo I m O) (ho : hmOok O) (hok : hmOk O H) (h46 : I m 46 = nI (hmTk O)) (hmn : hmMin H < 800000) {z : Nat} (hz : z ≤ 6) {p : List Nat} (hpl : p.length = z) (hll : p.length = (hmLine H).length) (hpk : hmOk O (hmStand H p)) {w : Nat} {b : Nat × Nat} {x2 : Int32} {J : xI} (gJ : hmSg m I J) (hS : hmMr (J (m + 28)) H) (hA : hmMr (J (m + 30)) H) (hR : hmRo m p J) (hB : hmMh m b J) (hQ : ∀ I', hmIv m H I (hmMh m (hmHs O H w b p)) I' → hmRo m p I' → Q none 0 sh R L I') : ∀ n i r3, n + i = p.length → (∀ j, j < i → r3 (4 + j) = nI (p.getD j 0)) → (∀ k, ¬ (4 ≤ k ∧ k < 10) → r3 k = J (m + 28) k) → Ex (d + 7) 0 0 MX9_shuffles 0 sh R L (va_up J (m + 28) r3) 20 [some (.ref m), some (.int (nI p.length)), some (.int x2), some (.int (nI w)), some (.int (nI i))] [] Q := by
  intro n
  induction n with
  | zero =>
    intro i r3 hi hr1 hr2
    have hOJ := gJ.mo hO
    have o6 := ho.1
    refine Ex_iload 22 dX9_shuffles_20 rfl rfl ?_
    refine Ex_iload_n 23 (i := 1) dX9_shuffles_22 rfl rfl rfl ?_
    refine Ex_icmp_ge 26 48 dX9_shuffles_23 (by decide) rfl (fun c1 => ?_) (fun c1 => absurd c1 (fun q => q (nI_le (by omega) (by omega))))
    refine Ex_aload_n 49 (i := 0) dX9_shuffles_48 rfl rfl rfl ?_
    refine Ex_dup 50 dX9_shuffles_49 rfl rfl ?_
    refine Ex_gI 53 (J m 56) dX9_shuffles_50 fX9_426 (xMs_0 hm) rfl (congrFun (va_up_ne _ _ (by omega)) _) rfl ?_
    rw [hB.1]
    refine Ex_iconst 54 (v := 1) dX9_shuffles_53 (by decide) rfl ?_
    refine Ex_iadd 55 dX9_shuffles_54 rfl ?_
    rw [nI_1]
    refine Ex_pI 58 (J m) (va_up (va_up J (m + 28) r3) m (va_up (J m) 56 (nI (b.1 + 1)))) dX9_shuffles_55 fX9_426 rfl (xMs_0 hm) rfl (fun _ => rfl) (va_up_ne _ _ (by omega)) rfl rfl rfl ?_
    refine Ex_aload_n 59 (i := 0) dX9_shuffles_58 rfl rfl rfl ?_
    refine Ex_dup 60 dX9_shuffles_59 rfl rfl ?_
    refine Ex_gI 63 (J m 57) dX9_shuffles_60 fX9_429 (xMs_0 hm) rfl (congrFun (va_up_self _ _ _) _) rfl ?_
    rw [hB.2]
    refine Ex_aload_n 64 (i := 0) dX9_shuffles_63 rfl rfl rfl ?_
    refine Ex_callV (M' := MX9_passes) 67 [] (rest := [.int (nI b.2), .ref m]) dX9_shuffles_64 lX9_369 mX9_passes rfl (xMs_0 hm) rfl (Nat.le_of_ble_eq_true rfl) (Nat.le_of_ble_eq_true rfl) rfl ?_
    have hSt := hmMr.stand hS hll (fun j hj => hr1 j (by omega)) hr2
    refine mc_passes (tk := hmTk O) (H := hmStand H p) (O := O) hm (by rw [va_up_ne _ _ (show m + 28 ≠ m by omega), va_up_self]; exact hSt) (hmSg.mo (hmSg.um' (hmSg.up (hmSg.rf (I := J)) (Or.inl ⟨by omega, by omega⟩)) (va_up_ne _ _ (by omega)) (Or.inr (Or.inl rfl))) hOJ) ho hpk (by rw [va_up_self, va_up_ne _ _ (by omega)]; rw [gJ.2 46 (by omega) (by omega) (by omega) (by omega) (by omega) (by omega)]; exact h46) ho.2.1 ho.2.2.1 (show hmMin H < 1000000 by omega) (fun I1 g hM1 => ?_)
    simp only [Option.toList, List.nil_append, List.cons_append]
    refine Ex_iload_n 68 (i := 3) dX9_shuffles_67 rfl rfl rfl ?_
    refine Ex_ishr 69 dX9_shuffles_68 rfl ?_
    refine Ex_iconst 70 (v := 1) dX9_shuffles_69 (by decide) rfl ?_
    refine Ex_iand 71 dX9_shuffles_70 rfl ?_
    refine Ex_iadd 72 dX9_shuffles_71 rfl ?_
    rw [hm_goodI]
    refine Ex_pI 75 (I1 m) (va_up I1 m (va_up (I1 m) 57 (nI (if hmBit (hmNx O H p) w = true then b.2 + 1 else b.2)))) dX9_shuffles_72 fX9_429 rfl (xMs_0 hm) rfl (fun _ => rfl) rfl rfl rfl rfl ?_
    refine Ex_aload_n 76 (i := 0) dX9_shuffles_75 rfl rfl rfl ?_
    refine Ex_getR 79 dX9_shuffles_76 fX9_99 (xMs_0 hm) rfl (xMr_41 hm) rfl ?_
    refine Ex_iconst 80 (v := 0) dX9_shuffles_79 (by decide) rfl ?_
    refine Ex_aload_n 81 (i := 0) dX9_shuffles_80 rfl rfl rfl ?_
    refine Ex_getR 84 dX9_shuffles_81 fX9_93 (xMs_0 hm) rfl (xMr_39 hm) rfl ?_
    refine Ex_iconst 85 (v := 0) dX9_shuffles_84 (by decide) rfl ?_
    refine Ex_callS (M' := MX9_copies) 88 [.ref (m + 30), .int 0, .ref (m + 28), .int 0] (rest := []) dX9_shuffles_85 lX9_350 mX9_copies rfl rfl (Nat.le_of_ble_eq_true rfl) (Nat.le_of_ble_eq_true rfl) rfl ?_
    refine mc_cp (np := 58) (nq := 58) (a := 0) (b := 0) (J := (va_up (va_up I1 m (va_up (I1 m) 57 (nI (if hmBit (hmNx O H p) w = true then b.2 + 1 else b.2)))) (m + 28) (va_cpy (I1 (m + 30)) (I1 (m + 28)) 0 0 58))) (xMs_30 hm) (xMs_28 hm) (by omega) (by omega) (by omega) (by omega) (by omega) (va_up_ne _ _ (by omega)) (va_up_ne _ _ (by omega)) rfl ?_
    simp only [Option.toList, List.nil_append, List.cons_append]
    refine Ex_ret0 dX9_shuffles_88 rfl (Or.inl rfl) ?_
    have kk : ∀ x, x ≠ m → x ≠ m + 28 → ¬ (m + 13 ≤ x ∧ x < m + 23) → I1 x = J x := fun x a a2 c => by rw [g x a2 c, va_up_ne _ _ a, va_up_ne _ _ a2]
    have gm : I1 m = va_up (J m) 56 (nI (b.1 + 1)) := by rw [g m (by omega) (by omega), va_up_self]
    have gg : hmSg m I I1 := (hmSg.um' (gJ.up (r := r3) (Or.inl ⟨by omega, by omega⟩)) (va_up_ne _ _ (by omega)) (Or.inr (Or.inl rfl))).tr (hmSg.fm g)
    refine hQ _ ⟨hmSg.up (hmSg.um gg (Or.inr (Or.inr (Or.inl rfl)))) (Or.inl ⟨by omega, by omega⟩), ?_, ?_, ?_⟩ (fun j hj => ?_)
    · rw [va_up_self, kk (m + 30) (by omega) (by omega) (by omega)]
      exact hA.cp1 _
    · rw [va_up_ne _ _ (by omega), va_up_self, va_up_ne _ _ (by omega), gm, va_up_self]
      rfl
    · rw [va_up_ne _ _ (by omega), va_up_self, va_up_self]
      rfl
    · rw [va_up_ne _ _ (by omega), va_up_ne _ _ (by omega), kk (m + 35) (by omega) (by omega) (by omega)]
      exact hR j hj
  | succ n ih =>
    intro i r3 hi hr1 hr2
    have hOJ := gJ.mo hO
    have o6 := ho.1
    refine Ex_iload 22 dX9_shuffles_20 rfl rfl ?_
    refine Ex_iload_n 23 (i := 1) dX9_shuffles_22 rfl rfl rfl ?_
    refine Ex_icmp_ge 26 48 dX9_shuffles_23 (by decide) rfl (fun c1 => absurd c1 (nI_ge (by omega) (by omega))) (fun c1 => ?_)
    refine Ex_aload_n 27 (i := 0) dX9_shuffles_26 rfl rfl rfl ?_
    refine Ex_getR 30 dX9_shuffles_27 fX9_93 (xMs_0 hm) rfl (xMr_39 hm) rfl ?_
    refine Ex_iconst 31 (v := 4) dX9_shuffles_30 (by decide) rfl ?_
    refine Ex_iload 33 dX9_shuffles_31 rfl rfl ?_
    refine Ex_iadd 34 dX9_shuffles_33 rfl ?_
    refine Ex_aload_n 35 (i := 0) dX9_shuffles_34 rfl rfl rfl ?_
    refine Ex_getR 38 dX9_shuffles_35 fX9_114 (xMs_0 hm) rfl (xMr_52 hm) rfl ?_
    refine Ex_iload 40 dX9_shuffles_38 rfl rfl ?_
    refine Ex_aI 41 i (J (m + 35) i) dX9_shuffles_40 (xMs_35 hm) rfl (by omega) (by decide) (congrFun (va_up_ne _ _ (by omega)) _) rfl ?_
    rw [hR i (by omega)]
    refine Ex_sI 42 (4 + i) r3 (va_up J (m + 28) (va_up r3 (4 + i) (nI (p.getD i 0)))) dX9_shuffles_41 (xMs_28 hm) (hm_ad rfl rfl) (by omega) (by decide) (va_up_self _ _ _) (va_up_up _ _ _ _) rfl ?_
    refine Ex_iinc 45 (v := (nI (i + 1))) (ls' := [some (.ref m), some (.int (nI p.length)), some (.int x2), some (.int (nI w)), some (.int (nI (i + 1)))]) dX9_shuffles_42 rfl (xinc _) (Nat.le_of_ble_eq_true rfl) rfl rfl rfl ?_
    refine Ex_goto 20 dX9_shuffles_45 (by decide) ?_
    refine ih (i + 1) _ (by omega) (fun j hj => ?_) (fun k hk => by rw [va_up_ne _ _ (by omega)]; exact hr2 k hk)
    by_cases h : j = i
    · rw [h, va_up_self]
    · rw [va_up_ne _ _ (by omega)]
      exact hr1 j (by omega)
set_option maxHeartbeats 4000000 in
theorem mc_shuffles_leaf {d : Nat} {sh : xSh} {R : xR} {L : xL} {I : xI} {Q : xQ} {m : Nat} {O : hmO} {H : hmH} (hm : xModel sh R m) (hO : hmMo I m O) (ho : hmOok O) (hok : hmOk O H) (h46 : I m 46 = nI (hmTk O)) (hmn : hmMin H < 800000) {z : Nat} (hz : z ≤ 6) {p : List Nat} (hpl : p.length = z) (hll : p.length = (hmLine H).length) (hpk : hmOk O (hmStand H p)) {w : Nat} {b : Nat × Nat} {x2 : Int32} {J : xI} (hJ : hmIv m H I (hmMh m b) J) (hR : hmRo m p J) (hQ : ∀ I', hmIv m H I (hmMh m (hmHs O H w b p)) I' → hmRo m p I' → Q none 0 sh R L I') : Ex (d + 7) 0 0 MX9_shuffles 0 sh R L J 4 [some (.ref m), some (.int (nI p.length)), some (.int x2), some (.int (nI w)), none] [] Q := by
  refine Ex_aload_n 5 (i := 0) dX9_shuffles_4 rfl rfl rfl ?_
  refine Ex_getR 8 dX9_shuffles_5 fX9_93 (xMs_0 hm) rfl (xMr_39 hm) rfl ?_
  refine Ex_iconst 9 (v := 0) dX9_shuffles_8 (by decide) rfl ?_
  refine Ex_aload_n 10 (i := 0) dX9_shuffles_9 rfl rfl rfl ?_
  refine Ex_getR 13 dX9_shuffles_10 fX9_99 (xMs_0 hm) rfl (xMr_41 hm) rfl ?_
  refine Ex_iconst 14 (v := 0) dX9_shuffles_13 (by decide) rfl ?_
  refine Ex_callS (M' := MX9_copies) 17 [.ref (m + 28), .int 0, .ref (m + 30), .int 0] (rest := []) dX9_shuffles_14 lX9_350 mX9_copies rfl rfl (Nat.le_of_ble_eq_true rfl) (Nat.le_of_ble_eq_true rfl) rfl ?_
  refine mc_cp (np := 58) (nq := 58) (a := 0) (b := 0) (J := (va_up J (m + 30) (va_cpy (J (m + 28)) (J (m + 30)) 0 0 58))) (xMs_28 hm) (xMs_30 hm) (by omega) (by omega) (by omega) (by omega) (by omega) rfl rfl rfl ?_
  simp only [Option.toList, List.nil_append, List.cons_append]
  refine Ex_iconst 18 (v := 0) dX9_shuffles_17 (by decide) rfl ?_
  refine Ex_istore 20 (ls' := [some (.ref m), some (.int (nI p.length)), some (.int x2), some (.int (nI w)), some (.int 0)]) dX9_shuffles_18 (Nat.le_of_ble_eq_true rfl) rfl rfl rfl ?_
  have e28 : (va_up J (m + 30) (va_cpy (J (m + 28)) (J (m + 30)) 0 0 58)) = va_up (va_up J (m + 30) (va_cpy (J (m + 28)) (J (m + 30)) 0 0 58)) (m + 28) ((va_up J (m + 30) (va_cpy (J (m + 28)) (J (m + 30)) 0 0 58)) (m + 28)) := (va_up_id _ _).symm
  rw [e28]
  exact mc_shuffles_stand (I := I) hm hO ho hok h46 hmn hz hpl hll hpk (hJ.1.up (Or.inl ⟨by omega, by omega⟩)) (by rw [va_up_ne _ _ (by omega)]; exact hJ.2.1) (by rw [va_up_self]; exact hJ.2.1.cp1 _) (fun j hj => by rw [va_up_ne _ _ (by omega)]; exact hR j hj) ⟨by rw [va_up_ne _ _ (by omega)]; exact hJ.2.2.1, by rw [va_up_ne _ _ (by omega)]; exact hJ.2.2.2⟩ hQ p.length 0 _ (by omega) (fun j hj => absurd hj (by omega)) (fun k _ => rfl)
