theorem hm_mem_line {O : hmO} {H : hmH} (hok : hmOk O H) (ho : hmOok O) : (hmMem (hmBits (hmLine H)) 6).length = (hmLine H).length := by
  have o6 := ho.1
  have hl6 : ∀ u, u ∈ hmLine H → u < 6 := fun u hu => by have := hok.2.1 u hu; omega
  refine (List.Perm.length_eq ((List.perm_ext_iff_of_nodup (List.Sublist.nodup List.filter_sublist List.nodup_range) hok.1).mpr (fun x => ?_)))
  show x ∈ hmMem (hmBits (hmLine H)) 6 ↔ _
  rw [hmMem_mem]
  constructor
  · intro h
    rw [hm_bits_mem hl6 h.1] at h
    exact of_decide_eq_true h.2
  · intro h
    exact ⟨hl6 x h, by rw [hm_bits_mem hl6 (hl6 x h)]; exact decide_eq_true h⟩
theorem hmRo.pre {m i : Nat} {p : List Nat} {J : xI} (h : hmRo m (p ++ [i]) J) : hmRo m p J := fun j hj => by
  have h1 := h j (by rw [List.length_append]; omega)
  rw [h1]
  simp [List.getElem?_append_left hj]
theorem hmRo.snoc {m i : Nat} {p : List Nat} {J : xI} (h : hmRo m p J) : hmRo m (p ++ [i]) (va_up J (m + 35) (va_up (J (m + 35)) p.length (nI i))) := fun j hj => by
  rw [List.length_append, List.length_singleton] at hj
  rw [va_up_self]
  by_cases e : j = p.length
  · rw [e, va_up_self]
    simp
  · rw [va_up_ne _ _ e, h j (by omega)]
    simp [List.getElem?_append_left (show j < p.length by omega)]
set_option maxHeartbeats 4000000 in
theorem mc_orders {d : Nat} {sh : xSh} {R : xR} {L : xL} {I : xI} {m : Nat} {O : hmO} {H : hmH} (hm : xModel sh R m) (hO : hmMo I m O) (ho : hmOok O) (hok : hmOk O H) (h46 : I m 46 = nI (hmTk O)) (hmn : hmMin H < 800000) {z : Nat} (hz : z ≤ 6) {G : List Nat → Prop} (hG : ∀ r, G r → r.length = z ∧ r.Nodup ∧ ∀ x, x ∈ r → x < hmN O ∧ hmCanRing H x = true) : ∀ (n : Nat) (p : List Nat) (s : Int32) (b : Int32 × List Nat) (J : xI) (Q : xQ), n + p.length = z → hmS6 s → (hmMem s 6).length = n → (∀ w, w < 6 → hmBit s w = true → w < hmN O) → (∀ q, q ∈ hmPm n s → G (p ++ q)) → hmIv m H I (hmBe m 54 z b) J → hmRo m p J → (∀ I', hmIv m H I (hmBe m 54 z (hmVis (hmWg (hmFo O H)) n p s b)) I' → hmRo m p I' → Q none 0 sh R L I') → Ex (d + n + 8) 0 0 MX9_orders 0 sh R L J 0 [some (.ref m), some (.int (nI p.length)), some (.int s), none] [] Q := by
  have o6 := ho.1
  intro n
  induction n with
  | zero =>
    intro p s b J Q hn hs hsn hsN hGp hJ hR hQ
    have s0 : s = 0 := (hm_mem_z hs).mpr hsn
    subst s0
    have hG0 := hG (p ++ []) (hGp [] (List.mem_singleton.mpr rfl))
    rw [List.append_nil] at hG0
    refine Ex_iload_n 1 (i := 2) dX9_orders_0 rfl rfl rfl ?_
    refine Ex_if_ne 4 110 dX9_orders_1 (by decide) rfl (fun c1 => absurd c1 (fun q => q (by decide))) (fun c1 => ?_)
    exact mc_orders_leaf (I := I) hm hO ho hok h46 hmn hz hG0.1 hG0.2.1 hG0.2.2 hJ hR hQ
  | succ n ih =>
    intro p s b J Q hn hs hsn hsN hGp hJ hR hQ
    have sne : ¬ s = 0 := fun q => absurd ((hm_mem_z hs).mp q) (by omega)
    have loop : ∀ j i J, j + i = hmN O → hmIv m H I (hmBe m 54 z ((hmMem s i).foldl (fun b c => hmVis (hmWg (hmFo O H)) n (p ++ [c]) (hmWo s c) b) b)) J → hmRo m p J → Ex (d + (n + 1) + 8) 0 0 MX9_orders 0 sh R L J 112 [some (.ref m), some (.int (nI p.length)), some (.int s), some (.int (nI i))] [] Q := by
      intro j
      induction j with
      | zero =>
        intro i J hi hJ hR
        have on := (hJ.1.mo hO).1
        refine Ex_iload_n 113 (i := 3) dX9_orders_112 rfl rfl rfl ?_
        refine Ex_aload_n 114 (i := 0) dX9_orders_113 rfl rfl rfl ?_
        refine Ex_getR 117 dX9_orders_114 fX9_13 (xMs_0 hm) rfl (xMr_10 hm) rfl ?_
        refine Ex_iconst 118 (v := 0) dX9_orders_117 (by decide) rfl ?_
        refine Ex_aI 119 0 (J (m + 2) 0) dX9_orders_118 (xMs_2 hm) rfl (by decide) (by decide) rfl rfl ?_
        rw [on]
        refine Ex_icmp_ge 122 160 dX9_orders_119 (by decide) rfl (fun c1 => ?_) (fun c1 => absurd c1 (fun q => q (nI_le (by omega) (by omega))))
        refine Ex_ret0 dX9_orders_160 rfl (Or.inl rfl) ?_
        have hi2 : i = hmN O := by omega
        rw [hi2, ← hmMem_n6 o6 hsN] at hJ
        exact hQ J hJ hR
      | succ j ihj =>
        intro i J hi hJ hR
        have on := (hJ.1.mo hO).1
        have hms := hmMem_s s i
        refine Ex_iload_n 113 (i := 3) dX9_orders_112 rfl rfl rfl ?_
        refine Ex_aload_n 114 (i := 0) dX9_orders_113 rfl rfl rfl ?_
        refine Ex_getR 117 dX9_orders_114 fX9_13 (xMs_0 hm) rfl (xMr_10 hm) rfl ?_
        refine Ex_iconst 118 (v := 0) dX9_orders_117 (by decide) rfl ?_
        refine Ex_aI 119 0 (J (m + 2) 0) dX9_orders_118 (xMs_2 hm) rfl (by decide) (by decide) rfl rfl ?_
        rw [on]
        refine Ex_icmp_ge 122 160 dX9_orders_119 (by decide) rfl (fun c1 => absurd c1 (nI_ge (by omega) (by omega))) (fun c1 => ?_)
        refine Ex_iload_n 123 (i := 2) dX9_orders_122 rfl rfl rfl ?_
        refine Ex_iload_n 124 (i := 3) dX9_orders_123 rfl rfl rfl ?_
        refine Ex_ishr 125 dX9_orders_124 rfl ?_
        refine Ex_iconst 126 (v := 1) dX9_orders_125 (by decide) rfl ?_
        refine Ex_iand 127 dX9_orders_126 rfl ?_
        refine Ex_if_ne 130 133 dX9_orders_127 (by decide) rfl (fun c2 => ?_) (fun c2 => ?_)
        · refine Ex_aload_n 134 (i := 0) dX9_orders_133 rfl rfl rfl ?_
          refine Ex_getR 137 dX9_orders_134 fX9_114 (xMs_0 hm) rfl (xMr_52 hm) rfl ?_
          refine Ex_iload_n 138 (i := 1) dX9_orders_137 rfl rfl rfl ?_
          refine Ex_iload_n 139 (i := 3) dX9_orders_138 rfl rfl rfl ?_
          refine Ex_sI 140 p.length (J (m + 35)) (va_up J (m + 35) (va_up (J (m + 35)) p.length (nI i))) dX9_orders_139 (xMs_35 hm) rfl (by omega) (by decide) rfl rfl rfl ?_
          refine Ex_aload_n 141 (i := 0) dX9_orders_140 rfl rfl rfl ?_
          refine Ex_iload_n 142 (i := 1) dX9_orders_141 rfl rfl rfl ?_
          refine Ex_iconst 143 (v := 1) dX9_orders_142 (by decide) rfl ?_
          refine Ex_iadd 144 dX9_orders_143 rfl ?_
          rw [nI_1]
          refine Ex_iload_n 145 (i := 2) dX9_orders_144 rfl rfl rfl ?_
          refine Ex_iconst 146 (v := 1) dX9_orders_145 (by decide) rfl ?_
          refine Ex_iload_n 147 (i := 3) dX9_orders_146 rfl rfl rfl ?_
          refine Ex_ishl 148 dX9_orders_147 rfl ?_
          refine Ex_iconst 149 (v := (-1)) dX9_orders_148 (by decide) rfl ?_
          refine Ex_ixor 150 dX9_orders_149 rfl ?_
          refine Ex_iand 151 dX9_orders_150 rfl ?_
          refine Ex_callV (M' := MX9_orders) 154 [.int (nI (p.length + 1)), .int (s &&& ((1 <<< ((nI i) &&& 31)) ^^^ (-1)))] (rest := []) dX9_orders_151 lX9_399 mX9_orders rfl (xMs_0 hm) rfl (Nat.le_of_ble_eq_true rfl) (Nat.le_of_ble_eq_true rfl) rfl ?_
          have hb : hmBit s i = true := hmBit_1.mpr ((hm_and1 _).resolve_left c2)
          have i6 : i < 6 := by omega
          have wl := hm_wo_len hs i6 hb
          refine Ex_l (ls' := [some (.ref m), some (.int (nI (p ++ [i]).length)), some (.int (hmWo s i)), none]) (by rw [List.length_append]; rfl) ?_
          refine Ex_d (d' := d + n + 8) (by omega) (ih (p ++ [i]) (hmWo s i) ((hmMem s i).foldl (fun b c => hmVis (hmWg (hmFo O H)) n (p ++ [c]) (hmWo s c) b) b) _ _ (by rw [List.length_append, List.length_singleton]; omega) (hm_wo_s6 hs) (by omega) (fun w hw hbw => hsN w hw (hm_wo_bit hs i6 hw hbw)) (fun q hq => ?_) ⟨hJ.1.up (Or.inr ⟨by omega, by omega⟩), by rw [va_up_ne _ _ (by omega)]; exact hJ.2.1, hJ.2.2.kept (by rw [va_up_ne _ _ (by omega)]) (va_up_ne _ _ (by omega))⟩ hR.snoc (fun I2 hJ2 hR2 => ?_))
          · rw [List.append_assoc]
            refine hGp _ ?_
            show i :: q ∈ hmPm (n + 1) s
            exact List.mem_flatMap.mpr ⟨i, hmMem_mem.mpr ⟨i6, hb⟩, List.mem_map.mpr ⟨q, hq, rfl⟩⟩
          simp only [Option.toList, List.nil_append, List.cons_append]
          refine Ex_iinc 157 (v := (nI (i + 1))) (ls' := [some (.ref m), some (.int (nI p.length)), some (.int s), some (.int (nI (i + 1)))]) dX9_orders_154 rfl (xinc _) (Nat.le_of_ble_eq_true rfl) rfl rfl rfl ?_
          refine Ex_goto 112 dX9_orders_157 (by decide) ?_
          rw [if_pos hb] at hms
          refine ihj (i + 1) I2 (by omega) ?_ hR2.pre
          rw [hms, List.foldl_append]
          exact hJ2
        · refine Ex_goto 154 dX9_orders_130 (by decide) ?_
          refine Ex_iinc 157 (v := (nI (i + 1))) (ls' := [some (.ref m), some (.int (nI p.length)), some (.int s), some (.int (nI (i + 1)))]) dX9_orders_154 rfl (xinc _) (Nat.le_of_ble_eq_true rfl) rfl rfl rfl ?_
          refine Ex_goto 112 dX9_orders_157 (by decide) ?_
          have hb : ¬ hmBit s i = true := fun q => absurd (hmBit_1.mp q) (by rw [c2]; decide)
          rw [if_neg hb] at hms
          refine ihj (i + 1) J (by omega) ?_ hR
          rw [hms]
          exact hJ
    refine Ex_iload_n 1 (i := 2) dX9_orders_0 rfl rfl rfl ?_
    refine Ex_if_ne 4 110 dX9_orders_1 (by decide) rfl (fun c1 => ?_) (fun c1 => absurd c1 sne)
    refine Ex_iconst 111 (v := 0) dX9_orders_110 (by decide) rfl ?_
    refine Ex_istore_n 112 (i := 3) (ls' := [some (.ref m), some (.int (nI p.length)), some (.int s), some (.int 0)]) dX9_orders_111 rfl (Nat.le_of_ble_eq_true rfl) rfl rfl rfl ?_
    exact loop (hmN O) 0 J (by omega) hJ hR
set_option maxHeartbeats 4000000 in
theorem mc_deals {d : Nat} {sh : xSh} {R : xR} {L : xL} {I : xI} {m : Nat} {O : hmO} {H : hmH} (hm : xModel sh R m) (hO : hmMo I m O) (ho : hmOok O) (hok : hmOk O H) (h46 : I m 46 = nI (hmTk O)) (hmn : hmMin H < 800000) {z : Nat} (hz : z ≤ 6) {G : List Nat → Prop} (hG : ∀ r, G r → r.length = z ∧ r.length = (hmLine H).length ∧ hmOk O (hmStand H r)) : ∀ (n : Nat) (p : List Nat) (s : Int32) (b : Int32 × List Nat) (J : xI) (Q : xQ), n + p.length = z → hmS6 s → (hmMem s 6).length = n → (∀ w, w < 6 → hmBit s w = true → w < hmN O) → (∀ q, q ∈ hmPm n s → G (p ++ q)) → hmIv m H I (hmBe m 58 z b) J → hmRo m p J → (∀ I', hmIv m H I (hmBe m 58 z (hmVis (hmWg (hmFe2 O H)) n p s b)) I' → hmRo m p I' → Q none 0 sh R L I') → Ex (d + n + 8) 0 0 MX9_deals 0 sh R L J 0 [some (.ref m), some (.int (nI p.length)), some (.int s), none, none] [] Q := by
  have o6 := ho.1
  intro n
  induction n with
  | zero =>
    intro p s b J Q hn hs hsn hsN hGp hJ hR hQ
    have s0 : s = 0 := (hm_mem_z hs).mpr hsn
    subst s0
    have hG0 := hG (p ++ []) (hGp [] (List.mem_singleton.mpr rfl))
    rw [List.append_nil] at hG0
    refine Ex_iload_n 1 (i := 2) dX9_deals_0 rfl rfl rfl ?_
    refine Ex_if_ne 4 110 dX9_deals_1 (by decide) rfl (fun c1 => absurd c1 (fun q => q (by decide))) (fun c1 => ?_)
    exact mc_deals_leaf (I := I) hm hO ho hok h46 hmn hz hG0.1 hG0.2.1 hG0.2.2 hJ hR hQ
  | succ n ih =>
    intro p s b J Q hn hs hsn hsN hGp hJ hR hQ
    have sne : ¬ s = 0 := fun q => absurd ((hm_mem_z hs).mp q) (by omega)
    have loop : ∀ j i J, j + i = hmN O → hmIv m H I (hmBe m 58 z ((hmMem s i).foldl (fun b c => hmVis (hmWg (hmFe2 O H)) n (p ++ [c]) (hmWo s c) b) b)) J → hmRo m p J → Ex (d + (n + 1) + 8) 0 0 MX9_deals 0 sh R L J 112 [some (.ref m), some (.int (nI p.length)), some (.int s), some (.int (nI i)), none] [] Q := by
      intro j
      induction j with
      | zero =>
        intro i J hi hJ hR
        have on := (hJ.1.mo hO).1
        refine Ex_iload_n 113 (i := 3) dX9_deals_112 rfl rfl rfl ?_
        refine Ex_aload_n 114 (i := 0) dX9_deals_113 rfl rfl rfl ?_
        refine Ex_getR 117 dX9_deals_114 fX9_13 (xMs_0 hm) rfl (xMr_10 hm) rfl ?_
        refine Ex_iconst 118 (v := 0) dX9_deals_117 (by decide) rfl ?_
        refine Ex_aI 119 0 (J (m + 2) 0) dX9_deals_118 (xMs_2 hm) rfl (by decide) (by decide) rfl rfl ?_
        rw [on]
        refine Ex_icmp_ge 122 160 dX9_deals_119 (by decide) rfl (fun c1 => ?_) (fun c1 => absurd c1 (fun q => q (nI_le (by omega) (by omega))))
        refine Ex_ret0 dX9_deals_160 rfl (Or.inl rfl) ?_
        have hi2 : i = hmN O := by omega
        rw [hi2, ← hmMem_n6 o6 hsN] at hJ
        exact hQ J hJ hR
      | succ j ihj =>
        intro i J hi hJ hR
        have on := (hJ.1.mo hO).1
        have hms := hmMem_s s i
        refine Ex_iload_n 113 (i := 3) dX9_deals_112 rfl rfl rfl ?_
        refine Ex_aload_n 114 (i := 0) dX9_deals_113 rfl rfl rfl ?_
        refine Ex_getR 117 dX9_deals_114 fX9_13 (xMs_0 hm) rfl (xMr_10 hm) rfl ?_
        refine Ex_iconst 118 (v := 0) dX9_deals_117 (by decide) rfl ?_
        refine Ex_aI 119 0 (J (m + 2) 0) dX9_deals_118 (xMs_2 hm) rfl (by decide) (by decide) rfl rfl ?_
        rw [on]
        refine Ex_icmp_ge 122 160 dX9_deals_119 (by decide) rfl (fun c1 => absurd c1 (nI_ge (by omega) (by omega))) (fun c1 => ?_)
        refine Ex_iload_n 123 (i := 2) dX9_deals_122 rfl rfl rfl ?_
        refine Ex_iload_n 124 (i := 3) dX9_deals_123 rfl rfl rfl ?_
        refine Ex_ishr 125 dX9_deals_124 rfl ?_
        refine Ex_iconst 126 (v := 1) dX9_deals_125 (by decide) rfl ?_
        refine Ex_iand 127 dX9_deals_126 rfl ?_
        refine Ex_if_ne 130 133 dX9_deals_127 (by decide) rfl (fun c2 => ?_) (fun c2 => ?_)
        · refine Ex_aload_n 134 (i := 0) dX9_deals_133 rfl rfl rfl ?_
          refine Ex_getR 137 dX9_deals_134 fX9_114 (xMs_0 hm) rfl (xMr_52 hm) rfl ?_
          refine Ex_iload_n 138 (i := 1) dX9_deals_137 rfl rfl rfl ?_
          refine Ex_iload_n 139 (i := 3) dX9_deals_138 rfl rfl rfl ?_
          refine Ex_sI 140 p.length (J (m + 35)) (va_up J (m + 35) (va_up (J (m + 35)) p.length (nI i))) dX9_deals_139 (xMs_35 hm) rfl (by omega) (by decide) rfl rfl rfl ?_
          refine Ex_aload_n 141 (i := 0) dX9_deals_140 rfl rfl rfl ?_
          refine Ex_iload_n 142 (i := 1) dX9_deals_141 rfl rfl rfl ?_
          refine Ex_iconst 143 (v := 1) dX9_deals_142 (by decide) rfl ?_
          refine Ex_iadd 144 dX9_deals_143 rfl ?_
          rw [nI_1]
          refine Ex_iload_n 145 (i := 2) dX9_deals_144 rfl rfl rfl ?_
          refine Ex_iconst 146 (v := 1) dX9_deals_145 (by decide) rfl ?_
          refine Ex_iload_n 147 (i := 3) dX9_deals_146 rfl rfl rfl ?_
          refine Ex_ishl 148 dX9_deals_147 rfl ?_
          refine Ex_iconst 149 (v := (-1)) dX9_deals_148 (by decide) rfl ?_
          refine Ex_ixor 150 dX9_deals_149 rfl ?_
          refine Ex_iand 151 dX9_deals_150 rfl ?_
          refine Ex_callV (M' := MX9_deals) 154 [.int (nI (p.length + 1)), .int (s &&& ((1 <<< ((nI i) &&& 31)) ^^^ (-1)))] (rest := []) dX9_deals_151 lX9_440 mX9_deals rfl (xMs_0 hm) rfl (Nat.le_of_ble_eq_true rfl) (Nat.le_of_ble_eq_true rfl) rfl ?_
          have hb : hmBit s i = true := hmBit_1.mpr ((hm_and1 _).resolve_left c2)
          have i6 : i < 6 := by omega
          have wl := hm_wo_len hs i6 hb
          refine Ex_l (ls' := [some (.ref m), some (.int (nI (p ++ [i]).length)), some (.int (hmWo s i)), none, none]) (by rw [List.length_append]; rfl) ?_
          refine Ex_d (d' := d + n + 8) (by omega) (ih (p ++ [i]) (hmWo s i) ((hmMem s i).foldl (fun b c => hmVis (hmWg (hmFe2 O H)) n (p ++ [c]) (hmWo s c) b) b) _ _ (by rw [List.length_append, List.length_singleton]; omega) (hm_wo_s6 hs) (by omega) (fun w hw hbw => hsN w hw (hm_wo_bit hs i6 hw hbw)) (fun q hq => ?_) ⟨hJ.1.up (Or.inr ⟨by omega, by omega⟩), by rw [va_up_ne _ _ (by omega)]; exact hJ.2.1, hJ.2.2.kept (by rw [va_up_ne _ _ (by omega)]) (va_up_ne _ _ (by omega))⟩ hR.snoc (fun I2 hJ2 hR2 => ?_))
          · rw [List.append_assoc]
            refine hGp _ ?_
            show i :: q ∈ hmPm (n + 1) s
            exact List.mem_flatMap.mpr ⟨i, hmMem_mem.mpr ⟨i6, hb⟩, List.mem_map.mpr ⟨q, hq, rfl⟩⟩
          simp only [Option.toList, List.nil_append, List.cons_append]
          refine Ex_iinc 157 (v := (nI (i + 1))) (ls' := [some (.ref m), some (.int (nI p.length)), some (.int s), some (.int (nI (i + 1))), none]) dX9_deals_154 rfl (xinc _) (Nat.le_of_ble_eq_true rfl) rfl rfl rfl ?_
          refine Ex_goto 112 dX9_deals_157 (by decide) ?_
          rw [if_pos hb] at hms
          refine ihj (i + 1) I2 (by omega) ?_ hR2.pre
          rw [hms, List.foldl_append]
          exact hJ2
        · refine Ex_goto 154 dX9_deals_130 (by decide) ?_
          refine Ex_iinc 157 (v := (nI (i + 1))) (ls' := [some (.ref m), some (.int (nI p.length)), some (.int s), some (.int (nI (i + 1))), none]) dX9_deals_154 rfl (xinc _) (Nat.le_of_ble_eq_true rfl) rfl rfl rfl ?_
          refine Ex_goto 112 dX9_deals_157 (by decide) ?_
          have hb : ¬ hmBit s i = true := fun q => absurd (hmBit_1.mp q) (by rw [c2]; decide)
          rw [if_neg hb] at hms
          refine ihj (i + 1) J (by omega) ?_ hR
          rw [hms]
          exact hJ
    refine Ex_iload_n 1 (i := 2) dX9_deals_0 rfl rfl rfl ?_
    refine Ex_if_ne 4 110 dX9_deals_1 (by decide) rfl (fun c1 => ?_) (fun c1 => absurd c1 sne)
    refine Ex_iconst 111 (v := 0) dX9_deals_110 (by decide) rfl ?_
    refine Ex_istore_n 112 (i := 3) (ls' := [some (.ref m), some (.int (nI p.length)), some (.int s), some (.int 0), none]) dX9_deals_111 rfl (Nat.le_of_ble_eq_true rfl) rfl rfl rfl ?_
    exact loop (hmN O) 0 J (by omega) hJ hR
set_option maxHeartbeats 4000000 in
theorem mc_shuffles {d : Nat} {sh : xSh} {R : xR} {L : xL} {I : xI} {m : Nat} {O : hmO} {H : hmH} (hm : xModel sh R m) (hO : hmMo I m O) (ho : hmOok O) (hok : hmOk O H) (h46 : I m 46 = nI (hmTk O)) (hmn : hmMin H < 800000) {z : Nat} (hz : z ≤ 6) {G : List Nat → Prop} {w : Nat} (hG : ∀ r, G r → r.length = z ∧ r.length = (hmLine H).length ∧ hmOk O (hmStand H r)) : ∀ (n : Nat) (p : List Nat) (s : Int32) (b : Nat × Nat) (J : xI) (Q : xQ), n + p.length = z → hmS6 s → (hmMem s 6).length = n → (∀ w, w < 6 → hmBit s w = true → w < hmN O) → (∀ q, q ∈ hmPm n s → G (p ++ q)) → hmIv m H I (hmMh m b) J → hmRo m p J → (∀ I', hmIv m H I (hmMh m (hmVis (hmHs O H w) n p s b)) I' → hmRo m p I' → Q none 0 sh R L I') → Ex (d + n + 8) 0 0 MX9_shuffles 0 sh R L J 0 [some (.ref m), some (.int (nI p.length)), some (.int s), some (.int (nI w)), none] [] Q := by
  have o6 := ho.1
  intro n
  induction n with
  | zero =>
    intro p s b J Q hn hs hsn hsN hGp hJ hR hQ
    have s0 : s = 0 := (hm_mem_z hs).mpr hsn
    subst s0
    have hG0 := hG (p ++ []) (hGp [] (List.mem_singleton.mpr rfl))
    rw [List.append_nil] at hG0
    refine Ex_iload_n 1 (i := 2) dX9_shuffles_0 rfl rfl rfl ?_
    refine Ex_if_ne 4 89 dX9_shuffles_1 (by decide) rfl (fun c1 => absurd c1 (fun q => q (by decide))) (fun c1 => ?_)
    exact mc_shuffles_leaf (I := I) hm hO ho hok h46 hmn hz hG0.1 hG0.2.1 hG0.2.2 hJ hR hQ
  | succ n ih =>
    intro p s b J Q hn hs hsn hsN hGp hJ hR hQ
    have sne : ¬ s = 0 := fun q => absurd ((hm_mem_z hs).mp q) (by omega)
    have loop : ∀ j i J, j + i = hmN O → hmIv m H I (hmMh m ((hmMem s i).foldl (fun b c => hmVis (hmHs O H w) n (p ++ [c]) (hmWo s c) b) b)) J → hmRo m p J → Ex (d + (n + 1) + 8) 0 0 MX9_shuffles 0 sh R L J 92 [some (.ref m), some (.int (nI p.length)), some (.int s), some (.int (nI w)), some (.int (nI i))] [] Q := by
      intro j
      induction j with
      | zero =>
        intro i J hi hJ hR
        have on := (hJ.1.mo hO).1
        refine Ex_iload 94 dX9_shuffles_92 rfl rfl ?_
        refine Ex_aload_n 95 (i := 0) dX9_shuffles_94 rfl rfl rfl ?_
        refine Ex_getR 98 dX9_shuffles_95 fX9_13 (xMs_0 hm) rfl (xMr_10 hm) rfl ?_
        refine Ex_iconst 99 (v := 0) dX9_shuffles_98 (by decide) rfl ?_
        refine Ex_aI 100 0 (J (m + 2) 0) dX9_shuffles_99 (xMs_2 hm) rfl (by decide) (by decide) rfl rfl ?_
        rw [on]
        refine Ex_icmp_ge 103 145 dX9_shuffles_100 (by decide) rfl (fun c1 => ?_) (fun c1 => absurd c1 (fun q => q (nI_le (by omega) (by omega))))
        refine Ex_ret0 dX9_shuffles_145 rfl (Or.inl rfl) ?_
        have hi2 : i = hmN O := by omega
        rw [hi2, ← hmMem_n6 o6 hsN] at hJ
        exact hQ J hJ hR
      | succ j ihj =>
        intro i J hi hJ hR
        have on := (hJ.1.mo hO).1
        have hms := hmMem_s s i
        refine Ex_iload 94 dX9_shuffles_92 rfl rfl ?_
        refine Ex_aload_n 95 (i := 0) dX9_shuffles_94 rfl rfl rfl ?_
        refine Ex_getR 98 dX9_shuffles_95 fX9_13 (xMs_0 hm) rfl (xMr_10 hm) rfl ?_
        refine Ex_iconst 99 (v := 0) dX9_shuffles_98 (by decide) rfl ?_
        refine Ex_aI 100 0 (J (m + 2) 0) dX9_shuffles_99 (xMs_2 hm) rfl (by decide) (by decide) rfl rfl ?_
        rw [on]
        refine Ex_icmp_ge 103 145 dX9_shuffles_100 (by decide) rfl (fun c1 => absurd c1 (nI_ge (by omega) (by omega))) (fun c1 => ?_)
        refine Ex_iload_n 104 (i := 2) dX9_shuffles_103 rfl rfl rfl ?_
        refine Ex_iload 106 dX9_shuffles_104 rfl rfl ?_
        refine Ex_ishr 107 dX9_shuffles_106 rfl ?_
        refine Ex_iconst 108 (v := 1) dX9_shuffles_107 (by decide) rfl ?_
        refine Ex_iand 109 dX9_shuffles_108 rfl ?_
        refine Ex_if_ne 112 115 dX9_shuffles_109 (by decide) rfl (fun c2 => ?_) (fun c2 => ?_)
        · refine Ex_aload_n 116 (i := 0) dX9_shuffles_115 rfl rfl rfl ?_
          refine Ex_getR 119 dX9_shuffles_116 fX9_114 (xMs_0 hm) rfl (xMr_52 hm) rfl ?_
          refine Ex_iload_n 120 (i := 1) dX9_shuffles_119 rfl rfl rfl ?_
          refine Ex_iload 122 dX9_shuffles_120 rfl rfl ?_
          refine Ex_sI 123 p.length (J (m + 35)) (va_up J (m + 35) (va_up (J (m + 35)) p.length (nI i))) dX9_shuffles_122 (xMs_35 hm) rfl (by omega) (by decide) rfl rfl rfl ?_
          refine Ex_aload_n 124 (i := 0) dX9_shuffles_123 rfl rfl rfl ?_
          refine Ex_iload_n 125 (i := 1) dX9_shuffles_124 rfl rfl rfl ?_
          refine Ex_iconst 126 (v := 1) dX9_shuffles_125 (by decide) rfl ?_
          refine Ex_iadd 127 dX9_shuffles_126 rfl ?_
          rw [nI_1]
          refine Ex_iload_n 128 (i := 2) dX9_shuffles_127 rfl rfl rfl ?_
          refine Ex_iconst 129 (v := 1) dX9_shuffles_128 (by decide) rfl ?_
          refine Ex_iload 131 dX9_shuffles_129 rfl rfl ?_
          refine Ex_ishl 132 dX9_shuffles_131 rfl ?_
          refine Ex_iconst 133 (v := (-1)) dX9_shuffles_132 (by decide) rfl ?_
          refine Ex_ixor 134 dX9_shuffles_133 rfl ?_
          refine Ex_iand 135 dX9_shuffles_134 rfl ?_
          refine Ex_iload_n 136 (i := 3) dX9_shuffles_135 rfl rfl rfl ?_
          refine Ex_callV (M' := MX9_shuffles) 139 [.int (nI (p.length + 1)), .int (s &&& ((1 <<< ((nI i) &&& 31)) ^^^ (-1))), .int (nI w)] (rest := []) dX9_shuffles_136 lX9_432 mX9_shuffles rfl (xMs_0 hm) rfl (Nat.le_of_ble_eq_true rfl) (Nat.le_of_ble_eq_true rfl) rfl ?_
          have hb : hmBit s i = true := hmBit_1.mpr ((hm_and1 _).resolve_left c2)
          have i6 : i < 6 := by omega
          have wl := hm_wo_len hs i6 hb
          refine Ex_l (ls' := [some (.ref m), some (.int (nI (p ++ [i]).length)), some (.int (hmWo s i)), some (.int (nI w)), none]) (by rw [List.length_append]; rfl) ?_
          refine Ex_d (d' := d + n + 8) (by omega) (ih (p ++ [i]) (hmWo s i) ((hmMem s i).foldl (fun b c => hmVis (hmHs O H w) n (p ++ [c]) (hmWo s c) b) b) _ _ (by rw [List.length_append, List.length_singleton]; omega) (hm_wo_s6 hs) (by omega) (fun w hw hbw => hsN w hw (hm_wo_bit hs i6 hw hbw)) (fun q hq => ?_) ⟨hJ.1.up (Or.inr ⟨by omega, by omega⟩), by rw [va_up_ne _ _ (by omega)]; exact hJ.2.1, ⟨by rw [va_up_ne _ _ (by omega)]; exact hJ.2.2.1, by rw [va_up_ne _ _ (by omega)]; exact hJ.2.2.2⟩⟩ hR.snoc (fun I2 hJ2 hR2 => ?_))
          · rw [List.append_assoc]
            refine hGp _ ?_
            show i :: q ∈ hmPm (n + 1) s
            exact List.mem_flatMap.mpr ⟨i, hmMem_mem.mpr ⟨i6, hb⟩, List.mem_map.mpr ⟨q, hq, rfl⟩⟩
          simp only [Option.toList, List.nil_append, List.cons_append]
          refine Ex_iinc 142 (v := (nI (i + 1))) (ls' := [some (.ref m), some (.int (nI p.length)), some (.int s), some (.int (nI w)), some (.int (nI (i + 1)))]) dX9_shuffles_139 rfl (xinc _) (Nat.le_of_ble_eq_true rfl) rfl rfl rfl ?_
          refine Ex_goto 92 dX9_shuffles_142 (by decide) ?_
          rw [if_pos hb] at hms
          refine ihj (i + 1) I2 (by omega) ?_ hR2.pre
          rw [hms, List.foldl_append]
          exact hJ2
        · refine Ex_goto 139 dX9_shuffles_112 (by decide) ?_
          refine Ex_iinc 142 (v := (nI (i + 1))) (ls' := [some (.ref m), some (.int (nI p.length)), some (.int s), some (.int (nI w)), some (.int (nI (i + 1)))]) dX9_shuffles_139 rfl (xinc _) (Nat.le_of_ble_eq_true rfl) rfl rfl rfl ?_
          refine Ex_goto 92 dX9_shuffles_142 (by decide) ?_
          have hb : ¬ hmBit s i = true := fun q => absurd (hmBit_1.mp q) (by rw [c2]; decide)
          rw [if_neg hb] at hms
          refine ihj (i + 1) J (by omega) ?_ hR
          rw [hms]
          exact hJ
    refine Ex_iload_n 1 (i := 2) dX9_shuffles_0 rfl rfl rfl ?_
    refine Ex_if_ne 4 89 dX9_shuffles_1 (by decide) rfl (fun c1 => ?_) (fun c1 => absurd c1 sne)
    refine Ex_iconst 90 (v := 0) dX9_shuffles_89 (by decide) rfl ?_
    refine Ex_istore 92 (ls' := [some (.ref m), some (.int (nI p.length)), some (.int s), some (.int (nI w)), some (.int 0)]) dX9_shuffles_90 (Nat.le_of_ble_eq_true rfl) rfl rfl rfl ?_
    exact loop (hmN O) 0 J (by omega) hJ hR
theorem hmWith_m1 {v : Int32} {k : Nat} (hk : k < 1000) : hmWith v (-1) (nI k - 1) = true ↔ (v = -1 ∨ hmCal k v = true) := by
  have e1 : (-1 : Int32).toInt = -1 := by decide
  have e2 : (nI k - 1).toInt = (k : Int) - 1 := pk_sub_toInt (b := 1) (by omega) (by omega)
  unfold hmWith hmCal
  rw [decide_eq_true_eq, decide_eq_true_eq, Int32.not_lt, Int32.not_lt, Int32.le_iff_toInt_le, Int32.le_iff_toInt_le, ← Int32.toInt_inj, e1, e2]
  omega
theorem hm_vis_nil {B : Type} (f : B → List Nat → B) (n : Nat) (s : Int32) (b : B) : hmVis f n [] s b = (hmPm n s).foldl f b := by
  rw [hmVis_eq]
  simp
theorem hm_hs_fold (O : hmO) (H : hmH) (w : Nat) : ∀ (l : List (List Nat)) (b : Nat × Nat), l.foldl (hmHs O H w) b = (b.1 + l.length, hmGd O H w b.2 l) := by
  intro l
  induction l with
  | nil => intro b; rfl
  | cons r l ih =>
    intro b
    rw [List.foldl_cons, ih, List.length_cons]
    show (b.1 + 1 + l.length, _) = _
    rw [show b.1 + 1 + l.length = b.1 + (l.length + 1) by omega]
    rfl
theorem hm_fold_ge {f : List Nat → Int32} {l : List (List Nat)} (h : ∀ r, r ∈ l → 0 ≤ f r) (hl : l ≠ []) : ¬ (l.foldl (hmWg f) (-1, [])).1 = -1 := fun q => absurd (hmWg_ge l (-1, []) h (Or.inl hl)) (by rw [q]; decide)
theorem hm_cnt_ge {s : Int32} (hs : hmS6 s) : 0 ≤ hmCnt s := by
  rw [hm_cnt_mem hs]
  have := hmMem_le s 6
  exact hm_nI0 (by omega)
theorem hm_pm_ne {s : Int32} (hs : hmS6 s) : hmPm (hmMem s 6).length s ≠ [] := by
  rw [hm_pm_it hs]
  exact hmIt_ne _ _
theorem hmFind_gd {f : List Nat → Int32} {s : Int32} (hs : hmS6 s) (h : ∀ r, r ∈ hmPm (hmMem s 6).length s → 0 ≤ f r) : ¬ (hmFind f s).2.1 = -1 := hm_fold_ge h (hm_pm_ne hs)
theorem hmRows_7200 : ∀ k, k < 64 → (hmPm (hmMem (nI k) 6).length (nI k)).length ≤ 720 := by decide +kernel
theorem hmRows_720 {O : hmO} {H : hmH} (hok : hmOk O H) (ho : hmOok O) : 1 ≤ (hmRows H).length ∧ (hmRows H).length ≤ 720 := by
  have hs := hm_line_s6 hok ho
  have h1 : hmRows H ≠ [] := hm_pm_ne hs
  refine ⟨List.length_pos_iff.mpr h1, ?_⟩
  obtain ⟨k, hk, e⟩ := hs
  unfold hmRows
  rw [e]
  exact hmRows_7200 k hk
set_option maxHeartbeats 4000000 in
theorem mb_order {d : Nat} {sh : xSh} {R : xR} {L : xL} {I : xI} {Q : xQ} {m : Nat} {O : hmO} {H : hmH} (hm : xModel sh R m) (hS : hmMr (I (m + 28)) H) (hO : hmMo I m O) (ho : hmOok O) (hok : hmOk O H) (h46 : I m 46 = nI (hmTk O)) (hmn : hmMin H < 800000) {qv : Int32} (hQ : ∀ I', hmMg m I I' → hmMr (I' (m + 28)) H → Q (some (.int (spOrder O H qv))) 0 sh R L I') : Ex (d + 15) 0 0 MX9_order 0 sh R L I 5 [some (.ref m), some (.int qv), none] [] Q := by
  obtain ⟨s6, smin, slen, sset, stak, sline, sheld, shas, stalk⟩ := id hS
  obtain ⟨o6, ot1, ot2, oo, oll, owf⟩ := id ho
  obtain ⟨on, otk, ow, cd, cfrom, cto, clen, ccd, csem⟩ := id hO
  have hlN := hok.2.1
  have hs6 := hmFree_s6 o6 H
  have hnn : ∀ q, q ∈ hmPm (hmMem (hmFree (hmN O) H) 6).length (hmFree (hmN O) H) → 0 ≤ hmFo O H q := fun q hq => by
    obtain ⟨q1, q2, q3⟩ := hmFree_ok hok ho hq
    obtain ⟨e1, e2, e3, e4⟩ := hmCm_can ho q H hok q2 q3
    exact hm_cnt_ge (hmOut_ok ho 30 _ e1).1.2.2.2.1
  have z6 := hmMem_le (hmFree (hmN O) H) 6
  have hw1 := hmWith_m1 (v := qv) (k := (hmMem (hmFree (hmN O) H) 6).length) (by omega)
  refine Ex_aload_n 6 (i := 0) dX9_order_5 rfl rfl rfl ?_
  refine Ex_callV (M' := MX9_mayRing) 9 [] (rest := []) dX9_order_6 lX9_402 mX9_mayRing rfl (xMs_0 hm) rfl (Nat.le_of_ble_eq_true rfl) (Nat.le_of_ble_eq_true rfl) rfl ?_
  refine mc_mayRing hm hS hO ho hok ?_
  simp only [Option.toList, List.cons_append, List.nil_append]
  refine Ex_istore_n 10 (i := 2) (ls' := [some (.ref m), some (.int qv), some (.int (hmFree (hmN O) H))]) dX9_order_9 rfl (Nat.le_of_ble_eq_true rfl) rfl rfl rfl ?_
  refine Ex_iload_n 11 (i := 1) dX9_order_10 rfl rfl rfl ?_
  refine Ex_iconst 12 (v := (-1)) dX9_order_11 (by decide) rfl ?_
  refine Ex_iload_n 13 (i := 2) dX9_order_12 rfl rfl rfl ?_
  refine Ex_callS (M' := MX9_bits) 16 [.int (hmFree (hmN O) H)] (rest := [.int (-1), .int qv]) dX9_order_13 lX9_322 mX9_bits rfl rfl (Nat.le_of_ble_eq_true rfl) (Nat.le_of_ble_eq_true rfl) rfl ?_
  refine mc_bits ?_
  simp only [Option.toList, List.cons_append, List.nil_append]
  rw [hm_cnt_mem hs6]
  refine Ex_iconst 17 (v := 1) dX9_order_16 (by decide) rfl ?_
  refine Ex_isub 18 dX9_order_17 rfl ?_
  refine Ex_callS (M' := MX9_within) 21 [.int qv, .int (-1), .int ((nI (hmMem (hmFree (hmN O) H) 6).length) - 1)] (rest := []) dX9_order_18 lX9_244 mX9_within rfl rfl (Nat.le_of_ble_eq_true rfl) (Nat.le_of_ble_eq_true rfl) rfl ?_
  refine mc_within ?_
  simp only [Option.toList, List.cons_append, List.nil_append]
  refine Ex_if_ne 24 27 dX9_order_21 (by decide) rfl (fun c1 => ?_) (fun c1 => ?_)
  · refine Ex_aload_n 28 (i := 0) dX9_order_27 rfl rfl rfl ?_
    refine Ex_iconst 29 (v := (-1)) dX9_order_28 (by decide) rfl ?_
    refine Ex_pI 32 (I m) (va_up I m (va_up (I m) 54 (-1))) dX9_order_29 fX9_396 rfl (xMs_0 hm) rfl (fun _ => rfl) rfl rfl rfl rfl ?_
    refine Ex_aload_n 33 (i := 0) dX9_order_32 rfl rfl rfl ?_
    refine Ex_iconst 34 (v := 0) dX9_order_33 (by decide) rfl ?_
    refine Ex_iload_n 35 (i := 2) dX9_order_34 rfl rfl rfl ?_
    refine Ex_callV (M' := MX9_orders) 38 [.int 0, .int (hmFree (hmN O) H)] (rest := []) dX9_order_35 lX9_399 mX9_orders rfl (xMs_0 hm) rfl (Nat.le_of_ble_eq_true rfl) (Nat.le_of_ble_eq_true rfl) rfl ?_
    refine Ex_d (d' := d + (6 - (hmMem (hmFree (hmN O) H) 6).length) + (hmMem (hmFree (hmN O) H) 6).length + 8) (by omega) (mc_orders (I := I) hm hO ho hok h46 hmn (z := (hmMem (hmFree (hmN O) H) 6).length) (by omega) (G := fun r => r ∈ hmPm (hmMem (hmFree (hmN O) H) 6).length (hmFree (hmN O) H)) (fun r hr => hmFree_ok hok ho hr) (hmMem (hmFree (hmN O) H) 6).length [] (hmFree (hmN O) H) (-1, []) _ _ (by rw [List.length_nil]; omega) hs6 rfl (fun w hw hb => (hmSub_free o6 hs6 (H := H) (hmSub_same hs6) w hw hb).1) (fun q hq => by rw [List.nil_append]; exact hq) ⟨hmSg.um hmSg.rf (Or.inl rfl), by rw [va_up_ne _ _ (by omega)]; exact hS, by rw [va_up_self, va_up_self], Or.inl rfl⟩ (fun j hj => absurd hj (by rw [List.length_nil]; omega)) (fun I1 hJ1 hR1 => ?_))
    rw [hm_vis_nil] at hJ1
    obtain ⟨f1, f2, f3, f4⟩ := hJ1
    have f5 : ∀ i, i < (hmFind (hmFo O H) (hmFree (hmN O) H)).1 → I1 (m + 36) i = nI ((hmFind (hmFo O H) (hmFree (hmN O) H)).2.2.getD i 0) := f4.resolve_left (hmFind_gd (f := hmFo O H) hs6 hnn)
    have f6 : I1 m 54 = (hmFind (hmFo O H) (hmFree (hmN O) H)).2.1 := f3
    simp only [Option.toList, List.nil_append, List.cons_append]
    refine Ex_iload_n 39 (i := 1) dX9_order_38 rfl rfl rfl ?_
    refine Ex_iconst 40 (v := (-1)) dX9_order_39 (by decide) rfl ?_
    refine Ex_icmp_ne 43 50 dX9_order_40 (by decide) rfl (fun c2 => ?_) (fun c2 => ?_)
    · have hw2 := hw1.mp (hmB_ne c1)
      have hct := hw2.resolve_left c2
      obtain ⟨w, hw, rfl⟩ := hmCal_of hct
      have hix : hmIx (nI w) = w := hmIx_nI (by omega)
      refine Ex_aload_n 51 (i := 0) dX9_order_50 rfl rfl rfl ?_
      refine Ex_getR 54 dX9_order_51 fX9_117 (xMs_0 hm) rfl (xMr_53 hm) rfl ?_
      refine Ex_iload_n 55 (i := 1) dX9_order_54 rfl rfl rfl ?_
      refine Ex_aI 56 w (I1 (m + 36) w) dX9_order_55 (xMs_36 hm) rfl (by omega) (by decide) rfl rfl ?_
      rw [f5 w hw]
      refine Ex_iret dX9_order_56 rfl rfl (Or.inl rfl) ?_
      have e : spOrder O H (nI w) = nI ((hmFind (hmFo O H) (hmFree (hmN O) H)).2.2.getD w 0) := by
        show spBest _ (nI w) = _
        rw [spBest, if_neg c2, if_pos (show hmCal (hmFind (hmFo O H) (hmFree (hmN O) H)).1 (nI w) = true from hct), hix]
      rw [← e]
      exact hQ I1 f1.mg f2
    · refine Ex_aload_n 44 (i := 0) dX9_order_43 rfl rfl rfl ?_
      refine Ex_gI 47 (I1 m 54) dX9_order_44 fX9_396 (xMs_0 hm) rfl rfl rfl ?_
      rw [f6]
      refine Ex_goto 56 dX9_order_47 (by decide) ?_
      refine Ex_iret dX9_order_56 rfl rfl (Or.inl rfl) ?_
      have e : spOrder O H qv = (hmFind (hmFo O H) (hmFree (hmN O) H)).2.1 := by
        show spBest _ qv = _
        rw [spBest, if_pos c2]
      rw [← e]
      exact hQ I1 f1.mg f2
  · refine Ex_bipush 26 (v := (-2)) dX9_order_24 (by decide) rfl ?_
    refine Ex_iret dX9_order_26 rfl rfl (Or.inl rfl) ?_
    have e : spOrder O H qv = -2 := by
      have hn : ¬ hmWith qv (-1) (nI (hmFind (hmFo O H) (hmFree (hmN O) H)).1 - 1) = true := by rw [show hmWith qv (-1) (nI (hmFind (hmFo O H) (hmFree (hmN O) H)).1 - 1) = false from hmB_eq c1]; decide
      have n1 : ¬ qv = -1 := fun q => hn (hw1.mpr (Or.inl q))
      have n2 : ¬ hmCal (hmFind (hmFo O H) (hmFree (hmN O) H)).1 qv = true := fun q => hn (hw1.mpr (Or.inr q))
      show spBest _ qv = -2
      rw [spBest, if_neg n1, if_neg n2]
    rw [← e]
    exact hQ _ hmMg.rf hS
set_option maxHeartbeats 4000000 in
theorem mq_order {d : Nat} {sh : xSh} {R : xR} {L : xL} {I : xI} {Q : xQ} {m : Nat} {O : hmO} {H : hmH} (hm : xModel sh R m) (hS : hmMr (I (m + 28)) H) (hO : hmMo I m O) (ho : hmOok O) (hok : hmOk O H) (h46 : I m 46 = nI (hmTk O)) (hmn : hmMin H < 800000) {qv : Int32} (hQ : ∀ I', hmMg m (hmTh I m) I' → hmMr (I' (m + 28)) H → Q (some (.int (spOrder O H qv))) 0 sh R L I') : Ex (d + 15) 0 0 MX9_order 0 sh R L I 0 [some (.ref m), some (.int qv), none] [] Q := by
  refine Ex_aload_n 1 (i := 0) dX9_order_0 rfl rfl rfl ?_
  refine Ex_iconst 2 (v := 0) dX9_order_1 (by decide) rfl ?_
  refine Ex_pI 5 (I m) (va_up I m (va_up (I m) 0 0)) dX9_order_2 fX9_130 rfl (xMs_0 hm) rfl (fun _ => rfl) rfl rfl rfl rfl ?_
  exact mb_order hm (hmTh_mr hS) (hmTh_mo hO) ho hok ((hmTh_f (by omega)).trans h46) hmn hQ
set_option maxHeartbeats 4000000 in
theorem mb_deal {d : Nat} {sh : xSh} {R : xR} {L : xL} {I : xI} {Q : xQ} {m : Nat} {O : hmO} {H : hmH} (hm : xModel sh R m) (hS : hmMr (I (m + 28)) H) (hO : hmMo I m O) (ho : hmOok O) (hok : hmOk O H) (h46 : I m 46 = nI (hmTk O)) (hmn : hmMin H < 800000) {qv : Int32} (hQ : ∀ I', hmMg m I I' → hmMr (I' (m + 28)) H → Q (some (.int (spDeal O H qv))) 0 sh R L I') : Ex (d + 15) 0 0 MX9_deal 0 sh R L I 5 [some (.ref m), some (.int qv)] [] Q := by
  obtain ⟨s6, smin, slen, sset, stak, sline, sheld, shas, stalk⟩ := id hS
  obtain ⟨o6, ot1, ot2, oo, oll, owf⟩ := id ho
  obtain ⟨on, otk, ow, cd, cfrom, cto, clen, ccd, csem⟩ := id hO
  have hlN := hok.2.1
  have hs6 := hm_line_s6 hok ho
  have hnn : ∀ q, q ∈ hmPm (hmMem (hmBits (hmLine H)) 6).length (hmBits (hmLine H)) → 0 ≤ hmFe2 O H q := fun q hq => hm_cnt_ge (hmNx_s6 hok ho hq)
  have hl6 : ∀ u, u ∈ hmLine H → u < 6 := fun u hu => by have := hlN u hu; omega
  have z6 := hmMem_le (hmBits (hmLine H)) 6
  have zl := hm_mem_line hok ho
  have hw1 := hmWith_m1 (v := qv) (k := (hmMem (hmBits (hmLine H)) 6).length) (by omega)
  refine Ex_iload_n 6 (i := 1) dX9_deal_5 rfl rfl rfl ?_
  refine Ex_iconst 7 (v := (-1)) dX9_deal_6 (by decide) rfl ?_
  refine Ex_aload_n 8 (i := 0) dX9_deal_7 rfl rfl rfl ?_
  refine Ex_getR 11 dX9_deal_8 fX9_93 (xMs_0 hm) rfl (xMr_39 hm) rfl ?_
  refine Ex_iconst 12 (v := 1) dX9_deal_11 (by decide) rfl ?_
  refine Ex_aI 13 1 (I (m + 28) 1) dX9_deal_12 (xMs_28 hm) rfl (by decide) (by decide) rfl rfl ?_
  rw [slen, ← zl]
  refine Ex_iconst 14 (v := 1) dX9_deal_13 (by decide) rfl ?_
  refine Ex_isub 15 dX9_deal_14 rfl ?_
  refine Ex_callS (M' := MX9_within) 18 [.int qv, .int (-1), .int ((nI (hmMem (hmBits (hmLine H)) 6).length) - 1)] (rest := []) dX9_deal_15 lX9_244 mX9_within rfl rfl (Nat.le_of_ble_eq_true rfl) (Nat.le_of_ble_eq_true rfl) rfl ?_
  refine mc_within ?_
  simp only [Option.toList, List.cons_append, List.nil_append]
  refine Ex_if_ne 21 24 dX9_deal_18 (by decide) rfl (fun c1 => ?_) (fun c1 => ?_)
  · refine Ex_aload_n 25 (i := 0) dX9_deal_24 rfl rfl rfl ?_
    refine Ex_iconst 26 (v := (-1)) dX9_deal_25 (by decide) rfl ?_
    refine Ex_pI 29 (I m) (va_up I m (va_up (I m) 58 (-1))) dX9_deal_26 fX9_437 rfl (xMs_0 hm) rfl (fun _ => rfl) rfl rfl rfl rfl ?_
    refine Ex_aload_n 30 (i := 0) dX9_deal_29 rfl rfl rfl ?_
    refine Ex_iconst 31 (v := 0) dX9_deal_30 (by decide) rfl ?_
    refine Ex_aload_n 32 (i := 0) dX9_deal_31 rfl rfl rfl ?_
    refine Ex_callV (M' := MX9_onLine) 35 [] (rest := [.int 0, .ref m]) dX9_deal_32 lX9_408 mX9_onLine rfl (xMs_0 hm) rfl (Nat.le_of_ble_eq_true rfl) (Nat.le_of_ble_eq_true rfl) rfl ?_
    refine mc_onLine hm (by rw [(va_up_ne _ _ (by omega))]; exact hS) ?_
    simp only [Option.toList, List.cons_append, List.nil_append]
    refine Ex_callV (M' := MX9_deals) 38 [.int 0, .int (hmBits (hmLine H))] (rest := []) dX9_deal_35 lX9_440 mX9_deals rfl (xMs_0 hm) rfl (Nat.le_of_ble_eq_true rfl) (Nat.le_of_ble_eq_true rfl) rfl ?_
    refine Ex_d (d' := d + (6 - (hmMem (hmBits (hmLine H)) 6).length) + (hmMem (hmBits (hmLine H)) 6).length + 8) (by omega) (mc_deals (I := I) hm hO ho hok h46 hmn (z := (hmMem (hmBits (hmLine H)) 6).length) (by omega) (G := fun r => r ∈ hmPm (hmMem (hmBits (hmLine H)) 6).length (hmBits (hmLine H))) (fun r hr => ⟨(hm_row_line hok ho hr).1.trans zl.symm, (hm_row_line hok ho hr).1, (hm_row_line hok ho hr).2.1⟩) (hmMem (hmBits (hmLine H)) 6).length [] (hmBits (hmLine H)) (-1, []) _ _ (by rw [List.length_nil]; omega) hs6 rfl (fun w hw hb => hlN w (of_decide_eq_true (by rw [← hm_bits_mem hl6 hw]; exact hb))) (fun q hq => by rw [List.nil_append]; exact hq) ⟨hmSg.um hmSg.rf (Or.inr (Or.inr (Or.inr rfl))), by rw [va_up_ne _ _ (by omega)]; exact hS, by rw [va_up_self, va_up_self], Or.inl rfl⟩ (fun j hj => absurd hj (by rw [List.length_nil]; omega)) (fun I1 hJ1 hR1 => ?_))
    rw [hm_vis_nil] at hJ1
    obtain ⟨f1, f2, f3, f4⟩ := hJ1
    have f5 : ∀ i, i < (hmFind (hmFe2 O H) (hmBits (hmLine H))).1 → I1 (m + 36) i = nI ((hmFind (hmFe2 O H) (hmBits (hmLine H))).2.2.getD i 0) := f4.resolve_left (hmFind_gd (f := hmFe2 O H) hs6 hnn)
    have f6 : I1 m 58 = (hmFind (hmFe2 O H) (hmBits (hmLine H))).2.1 := f3
    simp only [Option.toList, List.nil_append, List.cons_append]
    refine Ex_iload_n 39 (i := 1) dX9_deal_38 rfl rfl rfl ?_
    refine Ex_iconst 40 (v := (-1)) dX9_deal_39 (by decide) rfl ?_
    refine Ex_icmp_ne 43 50 dX9_deal_40 (by decide) rfl (fun c2 => ?_) (fun c2 => ?_)
    · have hw2 := hw1.mp (hmB_ne c1)
      have hct := hw2.resolve_left c2
      obtain ⟨w, hw, rfl⟩ := hmCal_of hct
      have hix : hmIx (nI w) = w := hmIx_nI (by omega)
      refine Ex_aload_n 51 (i := 0) dX9_deal_50 rfl rfl rfl ?_
      refine Ex_getR 54 dX9_deal_51 fX9_117 (xMs_0 hm) rfl (xMr_53 hm) rfl ?_
      refine Ex_iload_n 55 (i := 1) dX9_deal_54 rfl rfl rfl ?_
      refine Ex_aI 56 w (I1 (m + 36) w) dX9_deal_55 (xMs_36 hm) rfl (by omega) (by decide) rfl rfl ?_
      rw [f5 w hw]
      refine Ex_iret dX9_deal_56 rfl rfl (Or.inl rfl) ?_
      have e : spDeal O H (nI w) = nI ((hmFind (hmFe2 O H) (hmBits (hmLine H))).2.2.getD w 0) := by
        show spBest _ (nI w) = _
        rw [spBest, if_neg c2, if_pos (show hmCal (hmFind (hmFe2 O H) (hmBits (hmLine H))).1 (nI w) = true from hct), hix]
      rw [← e]
      exact hQ I1 f1.mg f2
    · refine Ex_aload_n 44 (i := 0) dX9_deal_43 rfl rfl rfl ?_
      refine Ex_gI 47 (I1 m 58) dX9_deal_44 fX9_437 (xMs_0 hm) rfl rfl rfl ?_
      rw [f6]
      refine Ex_goto 56 dX9_deal_47 (by decide) ?_
      refine Ex_iret dX9_deal_56 rfl rfl (Or.inl rfl) ?_
      have e : spDeal O H qv = (hmFind (hmFe2 O H) (hmBits (hmLine H))).2.1 := by
        show spBest _ qv = _
        rw [spBest, if_pos c2]
      rw [← e]
      exact hQ I1 f1.mg f2
  · refine Ex_bipush 23 (v := (-2)) dX9_deal_21 (by decide) rfl ?_
    refine Ex_iret dX9_deal_23 rfl rfl (Or.inl rfl) ?_
    have e : spDeal O H qv = -2 := by
      have hn : ¬ hmWith qv (-1) (nI (hmFind (hmFe2 O H) (hmBits (hmLine H))).1 - 1) = true := by rw [show hmWith qv (-1) (nI (hmFind (hmFe2 O H) (hmBits (hmLine H))).1 - 1) = false from hmB_eq c1]; decide
      have n1 : ¬ qv = -1 := fun q => hn (hw1.mpr (Or.inl q))
      have n2 : ¬ hmCal (hmFind (hmFe2 O H) (hmBits (hmLine H))).1 qv = true := fun q => hn (hw1.mpr (Or.inr q))
      show spBest _ qv = -2
      rw [spBest, if_neg n1, if_neg n2]
    rw [← e]
    exact hQ _ hmMg.rf hS
set_option maxHeartbeats 4000000 in
theorem mq_deal {d : Nat} {sh : xSh} {R : xR} {L : xL} {I : xI} {Q : xQ} {m : Nat} {O : hmO} {H : hmH} (hm : xModel sh R m) (hS : hmMr (I (m + 28)) H) (hO : hmMo I m O) (ho : hmOok O) (hok : hmOk O H) (h46 : I m 46 = nI (hmTk O)) (hmn : hmMin H < 800000) {qv : Int32} (hQ : ∀ I', hmMg m (hmTh I m) I' → hmMr (I' (m + 28)) H → Q (some (.int (spDeal O H qv))) 0 sh R L I') : Ex (d + 15) 0 0 MX9_deal 0 sh R L I 0 [some (.ref m), some (.int qv)] [] Q := by
  refine Ex_aload_n 1 (i := 0) dX9_deal_0 rfl rfl rfl ?_
  refine Ex_iconst 2 (v := 0) dX9_deal_1 (by decide) rfl ?_
  refine Ex_pI 5 (I m) (va_up I m (va_up (I m) 0 0)) dX9_deal_2 fX9_130 rfl (xMs_0 hm) rfl (fun _ => rfl) rfl rfl rfl rfl ?_
  exact mb_deal hm (hmTh_mr hS) (hmTh_mo hO) ho hok ((hmTh_f (by omega)).trans h46) hmn hQ
set_option maxHeartbeats 4000000 in
theorem mb_chance {d : Nat} {sh : xSh} {R : xR} {L : xL} {I : xI} {Q : xQ} {m : Nat} {O : hmO} {H : hmH} (hm : xModel sh R m) (hS : hmMr (I (m + 28)) H) (hO : hmMo I m O) (ho : hmOok O) (hok : hmOk O H) (h46 : I m 46 = nI (hmTk O)) (hmn : hmMin H < 800000) {qv : Int32} (hQ : ∀ I', hmMg m I I' → hmMr (I' (m + 28)) H → Q (some (.int (spChance O H qv))) 0 sh R L I') : Ex (d + 15) 0 0 MX9_chance 0 sh R L I 5 [some (.ref m), some (.int qv)] [] Q := by
  obtain ⟨s6, smin, slen, sset, stak, sline, sheld, shas, stalk⟩ := id hS
  obtain ⟨o6, ot1, ot2, oo, oll, owf⟩ := id ho
  obtain ⟨on, otk, ow, cd, cfrom, cto, clen, ccd, csem⟩ := id hO
  have hlN := hok.2.1
  have hs6 := hm_line_s6 hok ho
  have hnn : ∀ q, q ∈ hmPm (hmMem (hmBits (hmLine H)) 6).length (hmBits (hmLine H)) → 0 ≤ hmFe2 O H q := fun q hq => hm_cnt_ge (hmNx_s6 hok ho hq)
  have hl6 : ∀ u, u ∈ hmLine H → u < 6 := fun u hu => by have := hlN u hu; omega
  have z6 := hmMem_le (hmBits (hmLine H)) 6
  have zl := hm_mem_line hok ho
  have r720 := hmRows_720 hok ho
  refine Ex_aload_n 6 (i := 0) dX9_chance_5 rfl rfl rfl ?_
  refine Ex_iload_n 7 (i := 1) dX9_chance_6 rfl rfl rfl ?_
  refine Ex_callV (M' := MX9_isCaller) 10 [.int qv] (rest := []) dX9_chance_7 lX9_347 mX9_isCaller rfl (xMs_0 hm) rfl (Nat.le_of_ble_eq_true rfl) (Nat.le_of_ble_eq_true rfl) rfl ?_
  refine mc_isCaller hm on o6 ?_
  simp only [Option.toList, List.cons_append, List.nil_append]
  refine Ex_if_eq 13 21 dX9_chance_10 (by decide) rfl (fun c1 => ?_) (fun c1 => ?_)
  · refine Ex_iconst 22 (v := (-1)) dX9_chance_21 (by decide) rfl ?_
    refine Ex_iret dX9_chance_22 rfl rfl (Or.inl rfl) ?_
    have e : spChance O H qv = -1 := by
      simp [spChance, hmOn_no (hmB_eq c1)]
    rw [← e]
    exact hQ _ hmMg.rf hS
  · have hct := hmB_ne c1
    obtain ⟨w, hw, rfl⟩ := hmCal_of hct
    have hix : hmIx (nI w) = w := hmIx_nI (by omega)
    refine Ex_aload_n 14 (i := 0) dX9_chance_13 rfl rfl rfl ?_
    refine Ex_iload_n 15 (i := 1) dX9_chance_14 rfl rfl rfl ?_
    refine Ex_callV (M' := MX9_placeOf) 18 [.int (nI w)] (rest := []) dX9_chance_15 lX9_319 mX9_placeOf rfl (xMs_0 hm) rfl (Nat.le_of_ble_eq_true rfl) (Nat.le_of_ble_eq_true rfl) rfl ?_
    refine mc_placeOf hm hS (by omega) (fun x hx => by have := hlN x hx; omega) ?_
    simp only [Option.toList, List.cons_append, List.nil_append]
    refine Ex_if_ge 21 23 dX9_chance_18 (by decide) rfl (fun c2 => ?_) (fun c2 => ?_)
    · have hwm : w ∈ hmLine H := by
        by_cases z : w ∈ hmLine H
        · exact z
        · exact absurd ((hmPlc_lt (by omega)).mpr z) (Int32.not_lt.mpr c2)
      have hon := hmOn_yes hw (by omega) hwm
      refine Ex_aload_n 24 (i := 0) dX9_chance_23 rfl rfl rfl ?_
      refine Ex_iconst 25 (v := 0) dX9_chance_24 (by decide) rfl ?_
      refine Ex_pI 28 (I m) (va_up I m (va_up (I m) 56 0)) dX9_chance_25 fX9_426 rfl (xMs_0 hm) rfl (fun _ => rfl) rfl rfl rfl rfl ?_
      refine Ex_aload_n 29 (i := 0) dX9_chance_28 rfl rfl rfl ?_
      refine Ex_iconst 30 (v := 0) dX9_chance_29 (by decide) rfl ?_
      refine Ex_pI 33 (va_up (I m) 56 0) (va_up I m (va_up (va_up (I m) 56 0) 57 0)) dX9_chance_30 fX9_429 rfl (xMs_0 hm) rfl (fun _ => rfl) (va_up_self _ _ _) rfl (va_up_up _ _ _ _) rfl ?_
      refine Ex_aload_n 34 (i := 0) dX9_chance_33 rfl rfl rfl ?_
      refine Ex_iconst 35 (v := 0) dX9_chance_34 (by decide) rfl ?_
      refine Ex_aload_n 36 (i := 0) dX9_chance_35 rfl rfl rfl ?_
      refine Ex_callV (M' := MX9_onLine) 39 [] (rest := [.int 0, .ref m]) dX9_chance_36 lX9_408 mX9_onLine rfl (xMs_0 hm) rfl (Nat.le_of_ble_eq_true rfl) (Nat.le_of_ble_eq_true rfl) rfl ?_
      refine mc_onLine hm (by rw [va_up_ne _ _ (by omega)]; exact hS) ?_
      simp only [Option.toList, List.cons_append, List.nil_append]
      refine Ex_iload_n 40 (i := 1) dX9_chance_39 rfl rfl rfl ?_
      refine Ex_callV (M' := MX9_shuffles) 43 [.int 0, .int (hmBits (hmLine H)), .int (nI w)] (rest := []) dX9_chance_40 lX9_432 mX9_shuffles rfl (xMs_0 hm) rfl (Nat.le_of_ble_eq_true rfl) (Nat.le_of_ble_eq_true rfl) rfl ?_
      refine Ex_d (d' := d + (6 - (hmMem (hmBits (hmLine H)) 6).length) + (hmMem (hmBits (hmLine H)) 6).length + 8) (by omega) (mc_shuffles (I := I) hm hO ho hok h46 hmn (z := (hmMem (hmBits (hmLine H)) 6).length) (by omega) (w := w) (G := fun r => r ∈ hmPm (hmMem (hmBits (hmLine H)) 6).length (hmBits (hmLine H))) (fun r hr => ⟨(hm_row_line hok ho hr).1.trans zl.symm, (hm_row_line hok ho hr).1, (hm_row_line hok ho hr).2.1⟩) (hmMem (hmBits (hmLine H)) 6).length [] (hmBits (hmLine H)) (0, 0) _ _ (by rw [List.length_nil]; omega) hs6 rfl (fun w hw hb => hlN w (of_decide_eq_true (by rw [← hm_bits_mem hl6 hw]; exact hb))) (fun q hq => by rw [List.nil_append]; exact hq) ⟨by rw [← va_up_up I m (va_up (I m) 56 0)]; exact hmSg.um' (r := (va_up (I m) 56 0)) (hmSg.um hmSg.rf (Or.inr (Or.inl rfl))) (va_up_self _ _ _) (Or.inr (Or.inr (Or.inl rfl))), by rw [va_up_ne _ _ (by omega)]; exact hS, by rw [va_up_self, va_up_ne _ _ (by omega), va_up_self]; rfl, by rw [va_up_self, va_up_self]; rfl⟩ (fun j hj => absurd hj (by rw [List.length_nil]; omega)) (fun I1 hJ1 hR1 => ?_))
      rw [hm_vis_nil, hm_hs_fold] at hJ1
      obtain ⟨f1, f2, f3, f4⟩ := hJ1
      have f5 : I1 m 56 = nI (0 + (hmRows H).length) := f3
      have f6 : I1 m 57 = nI (hmGd O H w 0 (hmRows H)) := f4
      rw [Nat.zero_add] at f5
      simp only [Option.toList, List.nil_append, List.cons_append]
      refine Ex_aload_n 44 (i := 0) dX9_chance_43 rfl rfl rfl ?_
      refine Ex_gI 47 (I1 m 57) dX9_chance_44 fX9_429 (xMs_0 hm) rfl rfl rfl ?_
      have gl := hmGd_le O H w (hmRows H) 0
      rw [f6]
      refine Ex_i2l 48 dX9_chance_47 rfl ?_
      rw [hm_i2l (by omega)]
      refine Ex_ldc2 51 (v := 1000000) dX9_chance_48 kX9_435 rfl ?_
      refine Ex_lmul 52 dX9_chance_51 rfl ?_
      rw [show (1000000 : Int64) = nL 1000000 from rfl, hm_lmul (by omega) (by omega) (by omega)]
      refine Ex_aload_n 53 (i := 0) dX9_chance_52 rfl rfl rfl ?_
      refine Ex_gI 56 (I1 m 56) dX9_chance_53 fX9_426 (xMs_0 hm) rfl rfl rfl ?_
      rw [f5]
      refine Ex_i2l 57 dX9_chance_56 rfl ?_
      rw [hm_i2l (by omega)]
      refine Ex_ldiv 58 dX9_chance_57 (fun q => absurd (congrArg Int64.toInt q) (by rw [nL_toInt (n := (hmRows H).length) (by omega), show (0 : Int64).toInt = 0 by decide]; omega)) rfl ?_
      rw [hm_ldiv (by omega) (by omega)]
      refine Ex_l2i 59 dX9_chance_58 rfl ?_
      have hdl := Nat.div_le_self (hmGd O H w 0 (hmRows H) * 1000000) (hmRows H).length
      rw [hm_l2i (by omega)]
      refine Ex_iret dX9_chance_59 rfl rfl (Or.inl rfl) ?_
      have e : spChance O H (nI w) = nI (hmGd O H w 0 (hmRows H) * 1000000 / (hmRows H).length) := by simp only [spChance, hon, hix, if_true]
      rw [← e]
      exact hQ I1 f1.mg f2
    · refine Ex_iconst 22 (v := (-1)) dX9_chance_21 (by decide) rfl ?_
      refine Ex_iret dX9_chance_22 rfl rfl (Or.inl rfl) ?_
      have e : spChance O H (nI w) = -1 := by
        have hz : w ∉ hmLine H := (hmPlc_lt (by omega)).mp (Int32.not_le.mp c2)
        simp [spChance, hmOn_no2 (by omega) hz]
      rw [← e]
      exact hQ _ hmMg.rf hS
set_option maxHeartbeats 4000000 in
theorem mq_chance {d : Nat} {sh : xSh} {R : xR} {L : xL} {I : xI} {Q : xQ} {m : Nat} {O : hmO} {H : hmH} (hm : xModel sh R m) (hS : hmMr (I (m + 28)) H) (hO : hmMo I m O) (ho : hmOok O) (hok : hmOk O H) (h46 : I m 46 = nI (hmTk O)) (hmn : hmMin H < 800000) {qv : Int32} (hQ : ∀ I', hmMg m (hmTh I m) I' → hmMr (I' (m + 28)) H → Q (some (.int (spChance O H qv))) 0 sh R L I') : Ex (d + 15) 0 0 MX9_chance 0 sh R L I 0 [some (.ref m), some (.int qv)] [] Q := by
  refine Ex_aload_n 1 (i := 0) dX9_chance_0 rfl rfl rfl ?_
  refine Ex_iconst 2 (v := 0) dX9_chance_1 (by decide) rfl ?_
  refine Ex_pI 5 (I m) (va_up I m (va_up (I m) 0 0)) dX9_chance_2 fX9_130 rfl (xMs_0 hm) rfl (fun _ => rfl) rfl rfl rfl rfl ?_
  exact mb_chance hm (hmTh_mr hS) (hmTh_mo hO) ho hok ((hmTh_f (by omega)).trans h46) hmn hQ
