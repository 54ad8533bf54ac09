/-- an office of nobody -/
def hmO0 : hmO := (0, fun _ => 0, fun _ => 0, fun _ => 0, fun _ => 0, 5, [])
theorem hmOok_0 : hmOok hmO0 := ⟨by decide, by decide, by decide, fun w hw => absurd hw (Nat.not_lt_zero w), by decide, Or.inl rfl⟩
theorem hmMr_0 {r : Nat → Int32} (hr : r = fun _ => 0) : hmMr r (hmBegin hmO0) := by
  subst hr
  exact ⟨by decide, rfl, rfl, rfl, rfl, fun i hi => absurd hi (Nat.not_lt_zero i), fun _ _ => rfl, fun _ _ => rfl, fun _ _ _ _ => rfl⟩
theorem hmR_0 {I : xI} {a : Nat} (h : ∀ x, a ≤ x → x < a + 5 → I x = fun _ => 0) : hmR I a (hmBegin hmO0) := by
  unfold hmR
  rw [h a (by omega) (by omega), h (a + 1) (by omega) (by omega), h (a + 2) (by omega) (by omega), h (a + 3) (by omega) (by omega), h (a + 4) (by omega) (by omega)]
  exact ⟨by decide, rfl, rfl, rfl, rfl, fun i hi => absurd hi (Nat.not_lt_zero i), fun _ _ => rfl, fun _ _ => rfl, fun _ _ _ _ => rfl⟩
theorem xHM.kept' {sh sh' : xSh} {R R' : xR} {a : Nat} (h : xHM sh R a (a + 4) (a + 13) (a + 22) (a + 26)) (hs : ∀ x, x < a + 169 → sh' x = sh x) (hR : ∀ x, x < a + 169 → R' x = R x) : xHM sh' R' a (a + 4) (a + 13) (a + 22) (a + 26) := by
  obtain ⟨b0, b1, b2, b3, b4, b5, b6, b7, b8, b9, b10, b11, b12, b13, b14, b15, b16, b17, b18, b19, b20, b21, b22, b23, b24, hp, hk, -, -⟩ := h
  have hB : k8B sh R a := ⟨b0, b1, b2, b3, b4, b5, b6, b7, b8, b9, b10, b11, b12, b13, b14, b15, b16, b17, b18, b19, b20, b21, b22, b23, b24⟩
  obtain ⟨b0, b1, b2, b3, b4, b5, b6, b7, b8, b9, b10, b11, b12, b13, b14, b15, b16, b17, b18, b19, b20, b21, b22, b23, b24⟩ := hB.kept (fun x h1 h2 => hs x (by omega)) (fun x h1 h2 _ _ => hR x (by omega))
  refine ⟨b0, b1, b2, b3, b4, b5, b6, b7, b8, b9, b10, b11, b12, b13, b14, b15, b16, b17, b18, b19, b20, b21, b22, b23, b24, fun i hi => ?_, fun i hi => ?_, Or.inl ⟨rfl, rfl⟩, Or.inl ⟨rfl, rfl⟩⟩
  · obtain ⟨g1, g2⟩ := hp i hi
    exact ⟨by rw [hR (a + 40) (by omega)]; exact g1, g2.kept' (fun x e1 e2 => hs x (by omega)) (hR _ (by omega))⟩
  · obtain ⟨g1, g2⟩ := hk i hi
    exact ⟨by rw [hR (a + 41) (by omega)]; exact g1, g2.kept' (fun x e1 e2 => hs x (by omega)) (fun x e1 e2 => hR x (by omega))⟩
set_option maxHeartbeats 4000000 in
theorem xModel.kept' {sh sh' : xSh} {R R' : xR} {a : Nat} (h : xModel sh R a) (hs : ∀ x, a ≤ x → x < a + 38 → sh' x = sh x) (hR : R' a = R a) : xModel sh' R' a := by
  simp only [xModel] at h ⊢
  simp only [hs a (by omega) (by omega), hs (a + 1) (by omega) (by omega), hs (a + 2) (by omega) (by omega), hs (a + 3) (by omega) (by omega), hs (a + 4) (by omega) (by omega), hs (a + 5) (by omega) (by omega), hs (a + 6) (by omega) (by omega), hs (a + 7) (by omega) (by omega), hs (a + 8) (by omega) (by omega), hs (a + 9) (by omega) (by omega), hs (a + 10) (by omega) (by omega), hs (a + 11) (by omega) (by omega), hs (a + 12) (by omega) (by omega), hs (a + 13) (by omega) (by omega), hs (a + 14) (by omega) (by omega), hs (a + 15) (by omega) (by omega), hs (a + 16) (by omega) (by omega), hs (a + 17) (by omega) (by omega), hs (a + 18) (by omega) (by omega), hs (a + 19) (by omega) (by omega), hs (a + 20) (by omega) (by omega), hs (a + 21) (by omega) (by omega), hs (a + 22) (by omega) (by omega), hs (a + 23) (by omega) (by omega), hs (a + 24) (by omega) (by omega), hs (a + 25) (by omega) (by omega), hs (a + 26) (by omega) (by omega), hs (a + 27) (by omega) (by omega), hs (a + 28) (by omega) (by omega), hs (a + 29) (by omega) (by omega), hs (a + 30) (by omega) (by omega), hs (a + 31) (by omega) (by omega), hs (a + 32) (by omega) (by omega), hs (a + 33) (by omega) (by omega), hs (a + 34) (by omega) (by omega), hs (a + 35) (by omega) (by omega), hs (a + 36) (by omega) (by omega), hs (a + 37) (by omega) (by omega), hR]
  exact h
set_option maxRecDepth 100000 in
set_option maxHeartbeats 4000000 in
theorem law_start {d s Ln n : Nat} {nm : String} {xs : Nat → Int32} {Q : xQ} (hn : n ≠ 0) (hLn : Ln ≤ 3584) (hQ1 : ∀ sh R L I, Q (some (.int 1)) 0 sh R L I) (hQ0 : ∀ r n sh R L I, Q r n sh R L I → n = 0) :
    Ey (xLX s Ln xs) (d + 60) (1 + (168 + (1 + (37 + (1 + 512))))) (16 + (5345 + (60 + (5341 + (1 + 6 * 512))))) (Mlaw nm) n (fun _ => none) (fun _ _ => none) (fun _ _ => 0) (fun _ _ => 0) 0 [some (.ref s), none, none, none, none, none, none] [] Q := by
  refine Ey_new (ci := 8) 3 hn dL_law_0 (by decide) xu_8 qL_8 xn_8 xi_RX8 (by decide) rfl ?_
  rw [kW_one, kW_one, kW_one, kW_one]
  refine Ey_dup 4 dL_law_3 rfl rfl ?_
  refine Ey_callI (M' := MX8_init) 7 [] (rest := [.ref n]) (by omega) dL_law_4 lL_15 mX8_init rfl rfl (Nat.le_of_ble_eq_true rfl) (Nat.le_of_ble_eq_true rfl) rfl ?_
  refine k8_init (fun sh1 R1 L1 I1 hx1 hI1 => ⟨fun x hx => ?_, ?_⟩)
  · by_cases hxn : x = n
    · subst hxn
      rw [xH_0 hx1]
      simp
    · rw [kW_out (by simp only [List.length_singleton]; omega)] at hx
      exact absurd rfl hx
  simp only [Option.toList, List.nil_append]
  refine Ey_astore_n 8 (i := 1) (ls' := [some (.ref s), some (.ref n), none, none, none, none, none]) dL_law_7 rfl (Nat.le_of_ble_eq_true rfl) rfl rfl rfl ?_
  refine Ey_new (ci := 9) 11 (by omega) dL_law_8 (by decide) xu_9 qL_16 xn_9 xi_RX9 (by decide) rfl ?_
  rw [kW_one, kW_one, kW_one, kW_one]
  refine Ey_dup 12 dL_law_11 rfl rfl ?_
  refine Ey_callI (M' := MX9_init) 15 [] (rest := [.ref (n + 169)]) (by omega) dL_law_12 lL_18 mX9_init rfl rfl (Nat.le_of_ble_eq_true rfl) (Nat.le_of_ble_eq_true rfl) rfl ?_
  refine k9_init (fun sh2 R2 L2 I2 hx2 hm2 hf2 hI2 => ⟨hm2, ?_⟩)
  simp only [Option.toList, List.nil_append]
  refine Ey_astore_n 16 (i := 2) (ls' := [some (.ref s), some (.ref n), some (.ref (n + 169)), none, none, none, none]) dL_law_15 rfl (Nat.le_of_ble_eq_true rfl) rfl rfl rfl ?_
  refine Ey_iconst 17 (v := 1) dL_law_16 (by decide) rfl ?_
  refine Ey_newa (t0 := 1) (N' := 1) 19 (by omega) dL_law_17 rfl xa_long (fun _ => rfl) kn_l (kz_l 1) rfl (by decide) (by decide) rfl ?_
  refine Ey_astore_n 20 (i := 3) (ls' := [some (.ref s), some (.ref n), some (.ref (n + 169)), some (.ref (n + 207)), none, none, none]) dL_law_19 rfl (Nat.le_of_ble_eq_true rfl) rfl rfl rfl ?_
  refine Ey_iconst 21 (v := 0) dL_law_20 (by decide) rfl ?_
  refine Ey_istore 23 (ls' := [some (.ref s), some (.ref n), some (.ref (n + 169)), some (.ref (n + 207)), some (.int (nI 0)), none, none]) dL_law_21 (Nat.le_of_ble_eq_true rfl) rfl rfl rfl ?_
  refine Ey_n0 ?_
  have fS : ∀ x, x < n + 169 → va_up sh2 (n + 207) (some (.inr (.long, 1))) x = sh1 x := fun x hx => (va_up_ne _ _ (by omega)).trans (hf2 x (Or.inl hx)).1
  have fR : ∀ x, x < n + 169 → va_up R2 (n + 207) (fun _ => none) x = R1 x := fun x hx => (va_up_ne _ _ (by omega)).trans (hf2 x (Or.inl hx)).2.1
  have fI : ∀ x, x < n + 169 → va_up I2 (n + 207) (fun _ => 0) x = I1 x := fun x hx => (va_up_ne _ _ (by omega)).trans (hf2 x (Or.inl hx)).2.2.2
  have fI0 : ∀ x, n ≤ x → x < n + 169 → x ≠ n + 4 → x ≠ n + 13 → va_up I2 (n + 207) (fun _ => 0) x = fun _ => 0 := fun x h1 h2 h3 h4 => (fI x h2).trans (hI1.1 x h1 h2 h3 h4)
  have gI : ∀ x, x < n + 207 → va_up I2 (n + 207) (fun _ => 0) x = I2 x := fun x hx => va_up_ne _ _ (by omega)
  have gI0 : ∀ x, n + 169 < x → x < n + 169 + 38 → x ≠ n + 169 + 2 → x ≠ n + 169 + 27 → va_up I2 (n + 207) (fun _ => 0) x = fun _ => 0 := fun x h1 h2 h3 h4 => (gI x (by omega)).trans (hI2.1 x h1 h2 h3 h4)
  have hc : zC (va_up sh2 (n + 207) (some (.inr (.long, 1)))) (va_up R2 (n + 207) (fun _ => none)) (va_up L2 (n + 207) (fun _ => 0)) (va_up I2 (n + 207) (fun _ => 0)) n (n + 4) (n + 13) (n + 22) (n + 26) 0 (zNw hmO0 (fun _ => [])) := by
    refine zC_nw (hx1.kept' fS fR) (by decide) ⟨?_, ?_, fun w hw => absurd hw (Nat.not_lt_zero w), ?_, fun i hi => absurd hi (Nat.not_lt_zero i)⟩ (hmR_0 (fun x h1 h2 => fI0 x (by omega) (by omega) (by omega) (by omega))) ?_ ?_ ?_ (fun i hi => ?_) ?_ ?_ ?_ ?_ (fun w hw => absurd hw (Nat.not_lt_zero w))
    · rw [fI (n + 4) (by omega), hI1.2.1]
      rfl
    · rw [fI (n + 4) (by omega), hI1.2.1]
      rfl
    · rw [fI0 (n + 4 + 6) (by omega) (by omega) (by omega) (by omega)]
      rfl
    · rw [fI0 (n + 22) (by omega) (by omega) (by omega) (by omega)]
    · rw [fI0 n (by omega) (by omega) (by omega) (by omega)]
    · rw [fI0 n (by omega) (by omega) (by omega) (by omega)]
      rfl
    · rw [fI0 (n + 129 + 10 * i) (by omega) (by omega) (by omega) (by omega)]
    · rw [fI0 n (by omega) (by omega) (by omega) (by omega)]
    · rw [fI0 n (by omega) (by omega) (by omega) (by omega)]
    · rw [fI0 (n + 2) (by omega) (by omega) (by omega) (by omega)]
    · rw [fI0 (n + 42) (by omega) (by omega) (by omega) (by omega)]
  have hr : zR (va_up sh2 (n + 207) (some (.inr (.long, 1)))) (va_up R2 (n + 207) (fun _ => none)) (va_up L2 (n + 207) (fun _ => 0)) (va_up I2 (n + 207) (fun _ => 0)) (n + 169) (zNw hmO0 (fun _ => [])) := by
    refine zR_nw (hx2.kept' (fun x h1 h2 => va_up_ne _ _ (by omega)) (va_up_ne _ _ (by omega))) ⟨?_, ?_, fun w hw => absurd hw (Nat.not_lt_zero w), [], ?_, ?_, by decide, fun i hi => absurd hi (Nat.not_lt_zero i), Or.inl ⟨rfl, rfl⟩⟩ (hmMr_0 (gI0 _ (by omega) (by omega) (by omega) (by omega))) ?_ ?_ (fun i hi => ?_) (fun j hj => ?_) ?_ ?_ (fun w hw => absurd hw (Nat.not_lt_zero w))
    · rw [gI (n + 169 + 2) (by omega), hI2.2.2.1]
      rfl
    · rw [gI (n + 169 + 2) (by omega), hI2.2.2.1]
      rfl
    · rw [gI0 (n + 169 + 8) (by omega) (by omega) (by omega) (by omega)]
    · rw [gI0 (n + 169 + 9) (by omega) (by omega) (by omega) (by omega)]
      rfl
    · rw [gI0 (n + 169 + 23) (by omega) (by omega) (by omega) (by omega)]
    · rw [gI (n + 169) (by omega), hI2.2.1]
      rfl
    · rw [gI0 (n + 169 + 33) (by omega) (by omega) (by omega) (by omega)]
    · rw [gI (n + 169 + 27) (by omega)]
      exact hI2.2.2.2.1 j hj
    · rw [gI (n + 169) (by omega), hI2.2.1]
      rfl
    · rw [gI (n + 169) (by omega), hI2.2.1]
      rfl
  exact law_loop hLn (va_up_self _ _ _) hQ1 hQ0 512 0 0 (by omega) (by omega) (by omega) _ _ _ _ _ _ _ _ _ hc hr (zOk_nw hmOok_0 (fun w hw => absurd hw (Nat.not_lt_zero w)) (by omega))
