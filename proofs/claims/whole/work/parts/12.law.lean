theorem hm_sub1 {n : Nat} (h : 1 ≤ n) : nI n - 1 = nI (n - 1) := pk_sub (b := 1) h
theorem hm_sub2 {n : Nat} (h : 2 ≤ n) : nI n - 2 = nI (n - 2) := pk_sub (b := 2) h
theorem hm_le0 {n : Nat} (hn : n < 2 ^ 31) (h : nI n ≤ 0) : n = 0 := by
  by_cases h0 : n = 0
  · exact h0
  · exact absurd h (nI_nle (by omega) hn)
theorem hm_nle0 {n : Nat} (h : ¬ nI n ≤ 0) : 1 ≤ n := by
  by_cases h0 : n = 0
  · subst h0; exact absurd (by decide) h
  · omega
theorem hm_nle1 {n : Nat} (h : ¬ nI n ≤ 1) : 2 ≤ n := by
  by_cases h0 : 2 ≤ n
  · exact h0
  · rcases (by omega : n = 0 ∨ n = 1) with rfl | rfl
    · exact absurd (by decide) h
    · exact absurd (by decide) h
theorem hm_le1 {n : Nat} (hn : n < 2 ^ 31) (h : nI n ≤ 1) : n ≤ 1 := by
  have h2 : nI n ≤ nI 1 := h
  rw [nI_leI hn (by decide)] at h2
  exact h2
theorem hm_toInt {x : Int32} {k : Int} (h : x.toInt = k) : x = Int32.ofInt k := by
  rw [← h, Int32.ofInt_toInt]
theorem hm_lt5 {s : Int32} (h1 : s < -4) (h2 : ¬ s = -5) : s < -5 := by
  rw [Int32.lt_iff_toInt_lt] at h1 ⊢
  have h3 : ¬ s.toInt = (-5 : Int32).toInt := fun q => h2 (Int32.toInt_inj.mp q)
  have e1 : (-4 : Int32).toInt = -4 := by decide
  have e2 : (-5 : Int32).toInt = -5 := by decide
  omega
theorem hm_dec {n : Nat} (h : 1 ≤ n) : nI n + Int32.ofInt (-1) = nI (n - 1) := by
  obtain ⟨k, rfl⟩ : ∃ k, n = k + 1 := ⟨n - 1, by omega⟩
  exact pk_m1 k
theorem hm_pred1 (n : Nat) : nI (n + 1) - 1 = nI n := nI_pred n
set_option maxHeartbeats 4000000 in
theorem c_vo_join {d : Nat} {sh : xSh} {R : xR} {L : xL} {I : xI} {Q : xQ} {q : Nat} {h m o t : Int32} {stk k2 : List Int32} {row : Nat → Int32} {s v8 v9 x : Int32} {i : Nat} (hq : xLaw sh R q) (h32 : stk.length ≤ 32) (hrow : ∀ j, j < stk.length → row (stk.length - 1 - j) = stk.getD j 0) (hs12 : ¬ s < -12) (hsA : ¬ s < -4 → stk.length + 1 ≤ 32) (hsB : s = -5 → 1 ≤ stk.length) (hsC : s < -5 → 2 ≤ stk.length) (ih : ∀ (stk' : List Int32) (row' : Nat → Int32), stk' = hmStep h m o t stk s → stk'.length ≤ 32 → (∀ j, j < stk'.length → row' (stk'.length - 1 - j) = stk'.getD j 0) → Ex d 0 0 MX2_valueOf 0 sh R L (va_up I (q + 2) row') 6 [some (.ref q), some (.int h), some (.int m), some (.int o), some (.int t), some (.int (nI stk'.length)), some (.int (nI (i + 1))), none, none, none, none] [] Q) (hx : x :: k2 = hmStep h m o t stk s) (hk2A : ¬ s < -4 → k2 = stk) (hk2B : s = -5 → k2.length + 1 = stk.length) (hk2C : s < -5 → k2.length + 2 = stk.length) (hkB : s = -5 → ∀ j, j < k2.length → stk.getD (j + 1) 0 = (x :: k2).getD (j + 1) 0) (hkC : s < -5 → ∀ j, j < k2.length → stk.getD (j + 2) 0 = (x :: k2).getD (j + 1) 0) : Ex d 0 0 MX2_valueOf 0 sh R L (va_up I (q + 2) row) 276 [some (.ref q), some (.int h), some (.int m), some (.int o), some (.int t), some (.int (nI stk.length)), some (.int (nI i)), some (.int s), some (.int v8), some (.int v9), some (.int x)] [] Q := by
  by_cases cA : s < -4
  · by_cases cB : s = -5
    · have hk := hsB cB
      have hk2 : k2.length + 1 = stk.length := hk2B cB
      have hA : ¬ s < -5 := by rw [cB]; decide
      refine Ex_iload 278 dX2_valueOf_276 rfl rfl ?_
      refine Ex_bipush 280 (v := (-4)) dX2_valueOf_278 (by decide) rfl ?_
      refine Ex_icmp_lt 283 299 dX2_valueOf_280 (by decide) rfl (fun c1 => ?_) (fun c1 => absurd c1 (fun z => z cA))
      refine Ex_iload 301 dX2_valueOf_299 rfl rfl ?_
      refine Ex_bipush 303 (v := (-5)) dX2_valueOf_301 (by decide) rfl ?_
      refine Ex_icmp_ge 306 315 dX2_valueOf_303 (by decide) rfl (fun c2 => ?_) (fun c2 => absurd c2 (fun z => z (Int32.not_lt.mp hA)))
      refine Ex_iload 317 dX2_valueOf_315 rfl rfl ?_
      refine Ex_if_le 320 331 dX2_valueOf_317 (by decide) rfl (fun c3 => absurd c3 (nI_nle (by omega) (by omega))) (fun c3 => ?_)
      refine Ex_aload_n 321 (i := 0) dX2_valueOf_320 rfl rfl rfl ?_
      refine Ex_getR 324 dX2_valueOf_321 fX2_15 hq.1 rfl hq.2.2.2.2 rfl ?_
      refine Ex_iload 326 dX2_valueOf_324 rfl rfl ?_
      refine Ex_iconst 327 (v := 1) dX2_valueOf_326 (by decide) rfl ?_
      refine Ex_isub 328 dX2_valueOf_327 rfl ?_
      refine Ex_iload 330 dX2_valueOf_328 rfl rfl ?_
      refine Ex_sI 331 (stk.length - 1) row (va_up I (q + 2) (va_up row (stk.length - 1) x)) dX2_valueOf_330 hq.2.2.1 (hm_sub1 hk) (by omega) (by decide) (va_up_self _ _ _) (va_up_up _ _ _ _) rfl ?_
      refine Ex_iinc 334 (v := (nI (i + 1))) (ls' := [some (.ref q), some (.int h), some (.int m), some (.int o), some (.int t), some (.int (nI stk.length)), some (.int (nI (i + 1))), some (.int s), some (.int v8), some (.int v9), some (.int x)]) dX2_valueOf_331 rfl (xinc _) (Nat.le_of_ble_eq_true rfl) rfl rfl rfl ?_
      refine Ex_goto 6 dX2_valueOf_334 (by decide) ?_
      refine Ex_fgt (ls' := [some (.ref q), some (.int h), some (.int m), some (.int o), some (.int t), some (.int (nI stk.length)), some (.int (nI (i + 1))), none, none, none, none]) (by simp [xsub]) ?_
      rw [show stk.length = (x :: k2).length by simp; omega]
      refine ih (x :: k2) _ hx (by simp; omega) (fun j hj => ?_)
      cases j with
      | zero => simp [va_up, ← hk2]
      | succ j =>
        have hj2 : j < k2.length := by simpa using hj
        have e1 : stk.length - 1 - (j + 1) = (k2.length - 1 - j) := by omega
        have e2 : (x :: k2).length - 1 - (j + 1) = k2.length - 1 - j := by simp; omega
        rw [e2, va_up_ne _ _ (by omega), ← e1, hrow (j + 1) (by omega)]
        exact hkB cB j hj2
    · have hC : s < -5 := hm_lt5 cA cB
      have hk := hsC hC
      have hk2 : k2.length + 2 = stk.length := hk2C hC
      refine Ex_iload 278 dX2_valueOf_276 rfl rfl ?_
      refine Ex_bipush 280 (v := (-4)) dX2_valueOf_278 (by decide) rfl ?_
      refine Ex_icmp_lt 283 299 dX2_valueOf_280 (by decide) rfl (fun c1 => ?_) (fun c1 => absurd c1 (fun z => z cA))
      refine Ex_iload 301 dX2_valueOf_299 rfl rfl ?_
      refine Ex_bipush 303 (v := (-5)) dX2_valueOf_301 (by decide) rfl ?_
      refine Ex_icmp_ge 306 315 dX2_valueOf_303 (by decide) rfl (fun c2 => absurd c2 (Int32.not_le.mpr hC)) (fun c2 => ?_)
      refine Ex_iload 308 dX2_valueOf_306 rfl rfl ?_
      refine Ex_iconst 309 (v := 1) dX2_valueOf_308 (by decide) rfl ?_
      refine Ex_icmp_le 312 315 dX2_valueOf_309 (by decide) rfl (fun c3 => absurd c3 (fun z => absurd (hm_le1 (by omega) z) (by omega))) (fun c3 => ?_)
      refine Ex_iinc 315 (v := (nI (stk.length - 1))) (ls' := [some (.ref q), some (.int h), some (.int m), some (.int o), some (.int t), some (.int (nI (stk.length - 1))), some (.int (nI i)), some (.int s), some (.int v8), some (.int v9), some (.int x)]) dX2_valueOf_312 rfl (hm_dec (by omega)) (Nat.le_of_ble_eq_true rfl) rfl rfl rfl ?_
      refine Ex_iload 317 dX2_valueOf_315 rfl rfl ?_
      refine Ex_if_le 320 331 dX2_valueOf_317 (by decide) rfl (fun c4 => absurd c4 (nI_nle (by omega) (by omega))) (fun c4 => ?_)
      refine Ex_aload_n 321 (i := 0) dX2_valueOf_320 rfl rfl rfl ?_
      refine Ex_getR 324 dX2_valueOf_321 fX2_15 hq.1 rfl hq.2.2.2.2 rfl ?_
      refine Ex_iload 326 dX2_valueOf_324 rfl rfl ?_
      refine Ex_iconst 327 (v := 1) dX2_valueOf_326 (by decide) rfl ?_
      refine Ex_isub 328 dX2_valueOf_327 rfl ?_
      refine Ex_iload 330 dX2_valueOf_328 rfl rfl ?_
      refine Ex_sI 331 (stk.length - 1 - 1) row (va_up I (q + 2) (va_up row (stk.length - 1 - 1) x)) dX2_valueOf_330 hq.2.2.1 (hm_sub1 (by omega)) (by omega) (by decide) (va_up_self _ _ _) (va_up_up _ _ _ _) rfl ?_
      refine Ex_iinc 334 (v := (nI (i + 1))) (ls' := [some (.ref q), some (.int h), some (.int m), some (.int o), some (.int t), some (.int (nI (stk.length - 1))), some (.int (nI (i + 1))), some (.int s), some (.int v8), some (.int v9), some (.int x)]) dX2_valueOf_331 rfl (xinc _) (Nat.le_of_ble_eq_true rfl) rfl rfl rfl ?_
      refine Ex_goto 6 dX2_valueOf_334 (by decide) ?_
      refine Ex_fgt (ls' := [some (.ref q), some (.int h), some (.int m), some (.int o), some (.int t), some (.int (nI (stk.length - 1))), some (.int (nI (i + 1))), none, none, none, none]) (by simp [xsub]) ?_
      rw [show stk.length - 1 = (x :: k2).length by simp; omega]
      refine ih (x :: k2) _ hx (by simp; omega) (fun j hj => ?_)
      cases j with
      | zero => simp [va_up, ← hk2]
      | succ j =>
        have hj2 : j < k2.length := by simpa using hj
        have e1 : stk.length - 1 - (j + 2) = (k2.length - 1 - j) := by omega
        have e2 : (x :: k2).length - 1 - (j + 1) = k2.length - 1 - j := by simp; omega
        rw [e2, va_up_ne _ _ (by omega), ← e1, hrow (j + 2) (by omega)]
        exact hkC hC j hj2
  · have hk := hsA cA
    have hk2 : k2 = stk := hk2A cA
    subst hk2
    refine Ex_iload 278 dX2_valueOf_276 rfl rfl ?_
    refine Ex_bipush 280 (v := (-4)) dX2_valueOf_278 (by decide) rfl ?_
    refine Ex_icmp_lt 283 299 dX2_valueOf_280 (by decide) rfl (fun c1 => absurd c1 cA) (fun c1 => ?_)
    refine Ex_iload 285 dX2_valueOf_283 rfl rfl ?_
    refine Ex_aload_n 286 (i := 0) dX2_valueOf_285 rfl rfl rfl ?_
    refine Ex_getR 289 dX2_valueOf_286 fX2_15 hq.1 rfl hq.2.2.2.2 rfl ?_
    refine Ex_alen 290 0 dX2_valueOf_289 hq.2.2.1 (fun _ => rfl) rfl ?_
    refine Ex_icmp_ge 293 299 dX2_valueOf_290 (by decide) rfl (fun c2 => absurd c2 (nI_ge (a := k2.length) (b := 32) (by omega) (by decide))) (fun c2 => ?_)
    refine Ex_iinc 296 (v := (nI (k2.length + 1))) (ls' := [some (.ref q), some (.int h), some (.int m), some (.int o), some (.int t), some (.int (nI (k2.length + 1))), some (.int (nI i)), some (.int s), some (.int v8), some (.int v9), some (.int x)]) dX2_valueOf_293 rfl (xinc _) (Nat.le_of_ble_eq_true rfl) rfl rfl rfl ?_
    refine Ex_goto 315 dX2_valueOf_296 (by decide) ?_
    refine Ex_iload 317 dX2_valueOf_315 rfl rfl ?_
    refine Ex_if_le 320 331 dX2_valueOf_317 (by decide) rfl (fun c3 => absurd c3 (nI_nle (by omega) (by omega))) (fun c3 => ?_)
    refine Ex_aload_n 321 (i := 0) dX2_valueOf_320 rfl rfl rfl ?_
    refine Ex_getR 324 dX2_valueOf_321 fX2_15 hq.1 rfl hq.2.2.2.2 rfl ?_
    refine Ex_iload 326 dX2_valueOf_324 rfl rfl ?_
    refine Ex_iconst 327 (v := 1) dX2_valueOf_326 (by decide) rfl ?_
    refine Ex_isub 328 dX2_valueOf_327 rfl ?_
    refine Ex_iload 330 dX2_valueOf_328 rfl rfl ?_
    refine Ex_sI 331 k2.length row (va_up I (q + 2) (va_up row k2.length x)) dX2_valueOf_330 hq.2.2.1 (hm_pred1 _) (by omega) (by decide) (va_up_self _ _ _) (va_up_up _ _ _ _) rfl ?_
    refine Ex_iinc 334 (v := (nI (i + 1))) (ls' := [some (.ref q), some (.int h), some (.int m), some (.int o), some (.int t), some (.int (nI (k2.length + 1))), some (.int (nI (i + 1))), some (.int s), some (.int v8), some (.int v9), some (.int x)]) dX2_valueOf_331 rfl (xinc _) (Nat.le_of_ble_eq_true rfl) rfl rfl rfl ?_
    refine Ex_goto 6 dX2_valueOf_334 (by decide) ?_
    refine Ex_fgt (ls' := [some (.ref q), some (.int h), some (.int m), some (.int o), some (.int t), some (.int (nI (k2.length + 1))), some (.int (nI (i + 1))), none, none, none, none]) (by simp [xsub]) ?_
    refine ih (x :: k2) _ hx (by simp; omega) (fun j hj => ?_)
    cases j with
    | zero => simp [va_up]
    | succ j =>
      have hj2 : j < k2.length := by simpa using hj
      have e2 : (x :: k2).length - 1 - (j + 1) = k2.length - 1 - j := by simp; omega
      rw [e2, va_up_ne _ _ (by omega), hrow j hj2]
      simp
set_option maxHeartbeats 4000000 in
theorem c_vo_65 {d : Nat} {sh : xSh} {R : xR} {L : xL} {I : xI} {Q : xQ} {q : Nat} {h m o t : Int32} {stk : List Int32} {row : Nat → Int32} {s v8 v9 : Int32} {i : Nat} (hq : xLaw sh R q) (h32 : stk.length ≤ 32) (hrow : ∀ j, j < stk.length → row (stk.length - 1 - j) = stk.getD j 0) (hs12 : ¬ s < -12) (hsA : ¬ s < -4 → stk.length + 1 ≤ 32) (hsB : s = -5 → 1 ≤ stk.length) (hsC : s < -5 → 2 ≤ stk.length) (ih : ∀ (stk' : List Int32) (row' : Nat → Int32), stk' = hmStep h m o t stk s → stk'.length ≤ 32 → (∀ j, j < stk'.length → row' (stk'.length - 1 - j) = stk'.getD j 0) → Ex d 0 0 MX2_valueOf 0 sh R L (va_up I (q + 2) row') 6 [some (.ref q), some (.int h), some (.int m), some (.int o), some (.int t), some (.int (nI stk'.length)), some (.int (nI (i + 1))), none, none, none, none] [] Q) (h8 : 1 ≤ stk.length → v8 = stk.getD 0 0) (h9 : 2 ≤ stk.length → v9 = stk.getD 1 0) : Ex d 0 0 MX2_valueOf 0 sh R L (va_up I (q + 2) row) 65 [some (.ref q), some (.int h), some (.int m), some (.int o), some (.int t), some (.int (nI stk.length)), some (.int (nI i)), some (.int s), some (.int v8), some (.int v9), none] [] Q := by
  refine Ex_iload 67 dX2_valueOf_65 rfl rfl ?_
  refine Ex_istore 69 (ls' := [some (.ref q), some (.int h), some (.int m), some (.int o), some (.int t), some (.int (nI stk.length)), some (.int (nI i)), some (.int s), some (.int v8), some (.int v9), some (.int s)]) dX2_valueOf_67 (Nat.le_of_ble_eq_true rfl) rfl rfl rfl ?_
  refine Ex_iload 71 dX2_valueOf_69 rfl rfl ?_
  by_cases c1 : s.toInt < -12 ∨ -1 < s.toInt
  · refine Ex_tableOut 276 dX2_valueOf_71 c1 (by decide) ?_
    rcases c1 with cc | cc
    · exact absurd cc (by have h1 : ¬ s.toInt < (-12 : Int32).toInt := fun z => hs12 (Int32.lt_iff_toInt_lt.mpr z); have e1 : (-12 : Int32).toInt = -12 := by decide
                          omega)
    · have h0 : ∀ z : Int32, z.toInt < 0 → ¬ s = z := fun z hz q => by rw [q] at cc; omega
      have hA : ¬ s < -4 := fun z => by
        rw [Int32.lt_iff_toInt_lt] at z
        have e1 : (-4 : Int32).toInt = -4 := by decide
        omega
      refine c_vo_join hq h32 hrow hs12 hsA hsB hsC ih (x := s) (k2 := stk) ?_ (fun _ => rfl) (fun z => absurd (by rw [z]; decide) hA) (fun z => absurd (Int32.lt_trans z (by decide)) hA) (fun z => absurd (by rw [z]; decide) hA) (fun z => absurd (Int32.lt_trans z (by decide)) hA)
      simp only [hmStep, if_neg hA, if_neg (h0 (-1) (by decide)), if_neg (h0 (-2) (by decide)), if_neg (h0 (-3) (by decide)), if_neg (h0 (-4) (by decide))]
  · have hsw1 : s.toInt = -12 ∨ s.toInt = -11 ∨ s.toInt = -10 ∨ s.toInt = -9 ∨ s.toInt = -8 ∨ s.toInt = -7 ∨ s.toInt = -6 ∨ s.toInt = -5 ∨ s.toInt = -4 ∨ s.toInt = -3 ∨ s.toInt = -2 ∨ s.toInt = -1 := by
      omega
    rcases hsw1 with hsw | hsw | hsw | hsw | hsw | hsw | hsw | hsw | hsw | hsw | hsw | hsw
    · refine Ex_tableIn 266 dX2_valueOf_71 (by rw [hsw]; decide) (by rw [hsw]; decide) (off := 195) (by rw [hsw]; rfl) (by decide) ?_
      refine Ex_iload 268 dX2_valueOf_266 rfl rfl ?_
      refine Ex_iload 270 dX2_valueOf_268 rfl rfl ?_
      refine Ex_imul 271 dX2_valueOf_270 rfl ?_
      refine Ex_istore 273 (ls' := [some (.ref q), some (.int h), some (.int m), some (.int o), some (.int t), some (.int (nI stk.length)), some (.int (nI i)), some (.int s), some (.int v8), some (.int v9), some (.int (v9 * v8))]) dX2_valueOf_271 (Nat.le_of_ble_eq_true rfl) rfl rfl rfl ?_
      refine Ex_goto 276 dX2_valueOf_273 (by decide) ?_
      have e := hm_toInt hsw
      subst e
      obtain ⟨r, l, k2, rfl⟩ : ∃ r l k2, stk = r :: l :: k2 := by
        have := hsC (by decide)
        match stk, this with
        | r :: l :: k2, _ => exact ⟨r, l, k2, rfl⟩
      have e8 : v8 = r := h8 (by simp)
      have e9 : v9 = l := h9 (by simp)
      subst e8
      subst e9
      refine c_vo_join hq h32 hrow hs12 hsA hsB hsC ih (x := (v9 * v8)) (k2 := k2) ?_ (fun z => absurd (by decide) z) (fun z => absurd z (by decide)) (fun _ => by simp) (fun z => absurd z (by decide)) (fun _ j _ => by simp)
      simp only [hmStep]
      rw [if_pos (by decide), if_neg (by decide), if_neg (by decide), if_neg (by decide), if_neg (by decide), if_neg (by decide), if_neg (by decide), if_neg (by decide)]
    · refine Ex_tableIn 256 dX2_valueOf_71 (by rw [hsw]; decide) (by rw [hsw]; decide) (off := 185) (by rw [hsw]; rfl) (by decide) ?_
      refine Ex_iload 258 dX2_valueOf_256 rfl rfl ?_
      refine Ex_iload 260 dX2_valueOf_258 rfl rfl ?_
      refine Ex_isub 261 dX2_valueOf_260 rfl ?_
      refine Ex_istore 263 (ls' := [some (.ref q), some (.int h), some (.int m), some (.int o), some (.int t), some (.int (nI stk.length)), some (.int (nI i)), some (.int s), some (.int v8), some (.int v9), some (.int (v9 - v8))]) dX2_valueOf_261 (Nat.le_of_ble_eq_true rfl) rfl rfl rfl ?_
      refine Ex_goto 276 dX2_valueOf_263 (by decide) ?_
      have e := hm_toInt hsw
      subst e
      obtain ⟨r, l, k2, rfl⟩ : ∃ r l k2, stk = r :: l :: k2 := by
        have := hsC (by decide)
        match stk, this with
        | r :: l :: k2, _ => exact ⟨r, l, k2, rfl⟩
      have e8 : v8 = r := h8 (by simp)
      have e9 : v9 = l := h9 (by simp)
      subst e8
      subst e9
      refine c_vo_join hq h32 hrow hs12 hsA hsB hsC ih (x := (v9 - v8)) (k2 := k2) ?_ (fun z => absurd (by decide) z) (fun z => absurd z (by decide)) (fun _ => by simp) (fun z => absurd z (by decide)) (fun _ j _ => by simp)
      simp only [hmStep]
      rw [if_pos (by decide), if_neg (by decide), if_neg (by decide), if_neg (by decide), if_neg (by decide), if_neg (by decide), if_neg (by decide), if_pos (by decide)]
    · refine Ex_tableIn 246 dX2_valueOf_71 (by rw [hsw]; decide) (by rw [hsw]; decide) (off := 175) (by rw [hsw]; rfl) (by decide) ?_
      refine Ex_iload 248 dX2_valueOf_246 rfl rfl ?_
      refine Ex_iload 250 dX2_valueOf_248 rfl rfl ?_
      refine Ex_iadd 251 dX2_valueOf_250 rfl ?_
      refine Ex_istore 253 (ls' := [some (.ref q), some (.int h), some (.int m), some (.int o), some (.int t), some (.int (nI stk.length)), some (.int (nI i)), some (.int s), some (.int v8), some (.int v9), some (.int (v9 + v8))]) dX2_valueOf_251 (Nat.le_of_ble_eq_true rfl) rfl rfl rfl ?_
      refine Ex_goto 276 dX2_valueOf_253 (by decide) ?_
      have e := hm_toInt hsw
      subst e
      obtain ⟨r, l, k2, rfl⟩ : ∃ r l k2, stk = r :: l :: k2 := by
        have := hsC (by decide)
        match stk, this with
        | r :: l :: k2, _ => exact ⟨r, l, k2, rfl⟩
      have e8 : v8 = r := h8 (by simp)
      have e9 : v9 = l := h9 (by simp)
      subst e8
      subst e9
      refine c_vo_join hq h32 hrow hs12 hsA hsB hsC ih (x := (v9 + v8)) (k2 := k2) ?_ (fun z => absurd (by decide) z) (fun z => absurd z (by decide)) (fun _ => by simp) (fun z => absurd z (by decide)) (fun _ j _ => by simp)
      simp only [hmStep]
      rw [if_pos (by decide), if_neg (by decide), if_neg (by decide), if_neg (by decide), if_neg (by decide), if_neg (by decide), if_pos (by decide)]
    · refine Ex_tableIn 229 dX2_valueOf_71 (by rw [hsw]; decide) (by rw [hsw]; decide) (off := 158) (by rw [hsw]; rfl) (by decide) ?_
      refine Ex_iload 231 dX2_valueOf_229 rfl rfl ?_
      refine Ex_iload 233 dX2_valueOf_231 rfl rfl ?_
      refine Ex_icmp_ne 236 240 dX2_valueOf_233 (by decide) rfl (fun c2 => ?_) (fun c2 => ?_)
      · refine Ex_iconst 241 (v := 0) dX2_valueOf_240 (by decide) rfl ?_
        refine Ex_istore 243 (ls' := [some (.ref q), some (.int h), some (.int m), some (.int o), some (.int t), some (.int (nI stk.length)), some (.int (nI i)), some (.int s), some (.int v8), some (.int v9), some (.int 0)]) dX2_valueOf_241 (Nat.le_of_ble_eq_true rfl) rfl rfl rfl ?_
        refine Ex_goto 276 dX2_valueOf_243 (by decide) ?_
        have e := hm_toInt hsw
        subst e
        obtain ⟨r, l, k2, rfl⟩ : ∃ r l k2, stk = r :: l :: k2 := by
          have := hsC (by decide)
          match stk, this with
          | r :: l :: k2, _ => exact ⟨r, l, k2, rfl⟩
        have e8 : v8 = r := h8 (by simp)
        have e9 : v9 = l := h9 (by simp)
        subst e8
        subst e9
        refine c_vo_join hq h32 hrow hs12 hsA hsB hsC ih (x := 0) (k2 := k2) ?_ (fun z => absurd (by decide) z) (fun z => absurd z (by decide)) (fun _ => by simp) (fun z => absurd z (by decide)) (fun _ j _ => by simp)
        simp only [hmStep]
        rw [if_pos (by decide), if_neg (by decide), if_neg (by decide), if_neg (by decide), if_neg (by decide), if_pos (by decide)]
        rw [if_neg c2]
      · refine Ex_iconst 237 (v := 1) dX2_valueOf_236 (by decide) rfl ?_
        refine Ex_goto 241 dX2_valueOf_237 (by decide) ?_
        refine Ex_istore 243 (ls' := [some (.ref q), some (.int h), some (.int m), some (.int o), some (.int t), some (.int (nI stk.length)), some (.int (nI i)), some (.int s), some (.int v8), some (.int v9), some (.int 1)]) dX2_valueOf_241 (Nat.le_of_ble_eq_true rfl) rfl rfl rfl ?_
        refine Ex_goto 276 dX2_valueOf_243 (by decide) ?_
        have e := hm_toInt hsw
        subst e
        obtain ⟨r, l, k2, rfl⟩ : ∃ r l k2, stk = r :: l :: k2 := by
          have := hsC (by decide)
          match stk, this with
          | r :: l :: k2, _ => exact ⟨r, l, k2, rfl⟩
        have e8 : v8 = r := h8 (by simp)
        have e9 : v9 = l := h9 (by simp)
        subst e8
        subst e9
        refine c_vo_join hq h32 hrow hs12 hsA hsB hsC ih (x := 1) (k2 := k2) ?_ (fun z => absurd (by decide) z) (fun z => absurd z (by decide)) (fun _ => by simp) (fun z => absurd z (by decide)) (fun _ j _ => by simp)
        simp only [hmStep]
        rw [if_pos (by decide), if_neg (by decide), if_neg (by decide), if_neg (by decide), if_neg (by decide), if_pos (by decide)]
        rw [if_pos c2]
    · refine Ex_tableIn 212 dX2_valueOf_71 (by rw [hsw]; decide) (by rw [hsw]; decide) (off := 141) (by rw [hsw]; rfl) (by decide) ?_
      refine Ex_iload 214 dX2_valueOf_212 rfl rfl ?_
      refine Ex_iload 216 dX2_valueOf_214 rfl rfl ?_
      refine Ex_icmp_ge 219 223 dX2_valueOf_216 (by decide) rfl (fun c3 => ?_) (fun c3 => ?_)
      · refine Ex_iconst 224 (v := 0) dX2_valueOf_223 (by decide) rfl ?_
        refine Ex_istore 226 (ls' := [some (.ref q), some (.int h), some (.int m), some (.int o), some (.int t), some (.int (nI stk.length)), some (.int (nI i)), some (.int s), some (.int v8), some (.int v9), some (.int 0)]) dX2_valueOf_224 (Nat.le_of_ble_eq_true rfl) rfl rfl rfl ?_
        refine Ex_goto 276 dX2_valueOf_226 (by decide) ?_
        have e := hm_toInt hsw
        subst e
        obtain ⟨r, l, k2, rfl⟩ : ∃ r l k2, stk = r :: l :: k2 := by
          have := hsC (by decide)
          match stk, this with
          | r :: l :: k2, _ => exact ⟨r, l, k2, rfl⟩
        have e8 : v8 = r := h8 (by simp)
        have e9 : v9 = l := h9 (by simp)
        subst e8
        subst e9
        refine c_vo_join hq h32 hrow hs12 hsA hsB hsC ih (x := 0) (k2 := k2) ?_ (fun z => absurd (by decide) z) (fun z => absurd z (by decide)) (fun _ => by simp) (fun z => absurd z (by decide)) (fun _ j _ => by simp)
        simp only [hmStep]
        rw [if_pos (by decide), if_neg (by decide), if_neg (by decide), if_neg (by decide), if_pos (by decide)]
        rw [if_neg (Int32.not_lt.mpr c3)]
      · refine Ex_iconst 220 (v := 1) dX2_valueOf_219 (by decide) rfl ?_
        refine Ex_goto 224 dX2_valueOf_220 (by decide) ?_
        refine Ex_istore 226 (ls' := [some (.ref q), some (.int h), some (.int m), some (.int o), some (.int t), some (.int (nI stk.length)), some (.int (nI i)), some (.int s), some (.int v8), some (.int v9), some (.int 1)]) dX2_valueOf_224 (Nat.le_of_ble_eq_true rfl) rfl rfl rfl ?_
        refine Ex_goto 276 dX2_valueOf_226 (by decide) ?_
        have e := hm_toInt hsw
        subst e
        obtain ⟨r, l, k2, rfl⟩ : ∃ r l k2, stk = r :: l :: k2 := by
          have := hsC (by decide)
          match stk, this with
          | r :: l :: k2, _ => exact ⟨r, l, k2, rfl⟩
        have e8 : v8 = r := h8 (by simp)
        have e9 : v9 = l := h9 (by simp)
        subst e8
        subst e9
        refine c_vo_join hq h32 hrow hs12 hsA hsB hsC ih (x := 1) (k2 := k2) ?_ (fun z => absurd (by decide) z) (fun z => absurd z (by decide)) (fun _ => by simp) (fun z => absurd z (by decide)) (fun _ j _ => by simp)
        simp only [hmStep]
        rw [if_pos (by decide), if_neg (by decide), if_neg (by decide), if_neg (by decide), if_pos (by decide)]
        rw [if_pos (Int32.not_le.mp c3)]
    · refine Ex_tableIn 192 dX2_valueOf_71 (by rw [hsw]; decide) (by rw [hsw]; decide) (off := 121) (by rw [hsw]; rfl) (by decide) ?_
      refine Ex_iload 194 dX2_valueOf_192 rfl rfl ?_
      refine Ex_if_ne 197 202 dX2_valueOf_194 (by decide) rfl (fun c4 => ?_) (fun c4 => ?_)
      · refine Ex_iconst 203 (v := 1) dX2_valueOf_202 (by decide) rfl ?_
        refine Ex_goto 207 dX2_valueOf_203 (by decide) ?_
        refine Ex_istore 209 (ls' := [some (.ref q), some (.int h), some (.int m), some (.int o), some (.int t), some (.int (nI stk.length)), some (.int (nI i)), some (.int s), some (.int v8), some (.int v9), some (.int 1)]) dX2_valueOf_207 (Nat.le_of_ble_eq_true rfl) rfl rfl rfl ?_
        refine Ex_goto 276 dX2_valueOf_209 (by decide) ?_
        have e := hm_toInt hsw
        subst e
        obtain ⟨r, l, k2, rfl⟩ : ∃ r l k2, stk = r :: l :: k2 := by
          have := hsC (by decide)
          match stk, this with
          | r :: l :: k2, _ => exact ⟨r, l, k2, rfl⟩
        have e8 : v8 = r := h8 (by simp)
        have e9 : v9 = l := h9 (by simp)
        subst e8
        subst e9
        refine c_vo_join hq h32 hrow hs12 hsA hsB hsC ih (x := 1) (k2 := k2) ?_ (fun z => absurd (by decide) z) (fun z => absurd z (by decide)) (fun _ => by simp) (fun z => absurd z (by decide)) (fun _ j _ => by simp)
        simp only [hmStep]
        rw [if_pos (by decide), if_neg (by decide), if_neg (by decide), if_pos (by decide)]
        rw [if_pos (Or.inl c4)]
      · refine Ex_iload 199 dX2_valueOf_197 rfl rfl ?_
        refine Ex_if_eq 202 206 dX2_valueOf_199 (by decide) rfl (fun c5 => ?_) (fun c5 => ?_)
        · refine Ex_iconst 207 (v := 0) dX2_valueOf_206 (by decide) rfl ?_
          refine Ex_istore 209 (ls' := [some (.ref q), some (.int h), some (.int m), some (.int o), some (.int t), some (.int (nI stk.length)), some (.int (nI i)), some (.int s), some (.int v8), some (.int v9), some (.int 0)]) dX2_valueOf_207 (Nat.le_of_ble_eq_true rfl) rfl rfl rfl ?_
          refine Ex_goto 276 dX2_valueOf_209 (by decide) ?_
          have e := hm_toInt hsw
          subst e
          obtain ⟨r, l, k2, rfl⟩ : ∃ r l k2, stk = r :: l :: k2 := by
            have := hsC (by decide)
            match stk, this with
            | r :: l :: k2, _ => exact ⟨r, l, k2, rfl⟩
          have e8 : v8 = r := h8 (by simp)
          have e9 : v9 = l := h9 (by simp)
          subst e8
          subst e9
          refine c_vo_join hq h32 hrow hs12 hsA hsB hsC ih (x := 0) (k2 := k2) ?_ (fun z => absurd (by decide) z) (fun z => absurd z (by decide)) (fun _ => by simp) (fun z => absurd z (by decide)) (fun _ j _ => by simp)
          simp only [hmStep]
          rw [if_pos (by decide), if_neg (by decide), if_neg (by decide), if_pos (by decide)]
          rw [if_neg (fun z => z.elim (fun y => y c4) (fun y => y c5))]
        · refine Ex_iconst 203 (v := 1) dX2_valueOf_202 (by decide) rfl ?_
          refine Ex_goto 207 dX2_valueOf_203 (by decide) ?_
          refine Ex_istore 209 (ls' := [some (.ref q), some (.int h), some (.int m), some (.int o), some (.int t), some (.int (nI stk.length)), some (.int (nI i)), some (.int s), some (.int v8), some (.int v9), some (.int 1)]) dX2_valueOf_207 (Nat.le_of_ble_eq_true rfl) rfl rfl rfl ?_
          refine Ex_goto 276 dX2_valueOf_209 (by decide) ?_
          have e := hm_toInt hsw
          subst e
          obtain ⟨r, l, k2, rfl⟩ : ∃ r l k2, stk = r :: l :: k2 := by
            have := hsC (by decide)
            match stk, this with
            | r :: l :: k2, _ => exact ⟨r, l, k2, rfl⟩
          have e8 : v8 = r := h8 (by simp)
          have e9 : v9 = l := h9 (by simp)
          subst e8
          subst e9
          refine c_vo_join hq h32 hrow hs12 hsA hsB hsC ih (x := 1) (k2 := k2) ?_ (fun z => absurd (by decide) z) (fun z => absurd z (by decide)) (fun _ => by simp) (fun z => absurd z (by decide)) (fun _ j _ => by simp)
          simp only [hmStep]
          rw [if_pos (by decide), if_neg (by decide), if_neg (by decide), if_pos (by decide)]
          rw [if_pos (Or.inr c5)]
    · refine Ex_tableIn 172 dX2_valueOf_71 (by rw [hsw]; decide) (by rw [hsw]; decide) (off := 101) (by rw [hsw]; rfl) (by decide) ?_
      refine Ex_iload 174 dX2_valueOf_172 rfl rfl ?_
      refine Ex_if_eq 177 186 dX2_valueOf_174 (by decide) rfl (fun c6 => ?_) (fun c6 => ?_)
      · refine Ex_iconst 187 (v := 0) dX2_valueOf_186 (by decide) rfl ?_
        refine Ex_istore 189 (ls' := [some (.ref q), some (.int h), some (.int m), some (.int o), some (.int t), some (.int (nI stk.length)), some (.int (nI i)), some (.int s), some (.int v8), some (.int v9), some (.int 0)]) dX2_valueOf_187 (Nat.le_of_ble_eq_true rfl) rfl rfl rfl ?_
        refine Ex_goto 276 dX2_valueOf_189 (by decide) ?_
        have e := hm_toInt hsw
        subst e
        obtain ⟨r, l, k2, rfl⟩ : ∃ r l k2, stk = r :: l :: k2 := by
          have := hsC (by decide)
          match stk, this with
          | r :: l :: k2, _ => exact ⟨r, l, k2, rfl⟩
        have e8 : v8 = r := h8 (by simp)
        have e9 : v9 = l := h9 (by simp)
        subst e8
        subst e9
        refine c_vo_join hq h32 hrow hs12 hsA hsB hsC ih (x := 0) (k2 := k2) ?_ (fun z => absurd (by decide) z) (fun z => absurd z (by decide)) (fun _ => by simp) (fun z => absurd z (by decide)) (fun _ j _ => by simp)
        simp only [hmStep]
        rw [if_pos (by decide), if_neg (by decide), if_pos (by decide)]
        rw [if_neg (fun z => z.1 c6)]
      · refine Ex_iload 179 dX2_valueOf_177 rfl rfl ?_
        refine Ex_if_eq 182 186 dX2_valueOf_179 (by decide) rfl (fun c7 => ?_) (fun c7 => ?_)
        · refine Ex_iconst 187 (v := 0) dX2_valueOf_186 (by decide) rfl ?_
          refine Ex_istore 189 (ls' := [some (.ref q), some (.int h), some (.int m), some (.int o), some (.int t), some (.int (nI stk.length)), some (.int (nI i)), some (.int s), some (.int v8), some (.int v9), some (.int 0)]) dX2_valueOf_187 (Nat.le_of_ble_eq_true rfl) rfl rfl rfl ?_
          refine Ex_goto 276 dX2_valueOf_189 (by decide) ?_
          have e := hm_toInt hsw
          subst e
          obtain ⟨r, l, k2, rfl⟩ : ∃ r l k2, stk = r :: l :: k2 := by
            have := hsC (by decide)
            match stk, this with
            | r :: l :: k2, _ => exact ⟨r, l, k2, rfl⟩
          have e8 : v8 = r := h8 (by simp)
          have e9 : v9 = l := h9 (by simp)
          subst e8
          subst e9
          refine c_vo_join hq h32 hrow hs12 hsA hsB hsC ih (x := 0) (k2 := k2) ?_ (fun z => absurd (by decide) z) (fun z => absurd z (by decide)) (fun _ => by simp) (fun z => absurd z (by decide)) (fun _ j _ => by simp)
          simp only [hmStep]
          rw [if_pos (by decide), if_neg (by decide), if_pos (by decide)]
          rw [if_neg (fun z => z.2 c7)]
        · refine Ex_iconst 183 (v := 1) dX2_valueOf_182 (by decide) rfl ?_
          refine Ex_goto 187 dX2_valueOf_183 (by decide) ?_
          refine Ex_istore 189 (ls' := [some (.ref q), some (.int h), some (.int m), some (.int o), some (.int t), some (.int (nI stk.length)), some (.int (nI i)), some (.int s), some (.int v8), some (.int v9), some (.int 1)]) dX2_valueOf_187 (Nat.le_of_ble_eq_true rfl) rfl rfl rfl ?_
          refine Ex_goto 276 dX2_valueOf_189 (by decide) ?_
          have e := hm_toInt hsw
          subst e
          obtain ⟨r, l, k2, rfl⟩ : ∃ r l k2, stk = r :: l :: k2 := by
            have := hsC (by decide)
            match stk, this with
            | r :: l :: k2, _ => exact ⟨r, l, k2, rfl⟩
          have e8 : v8 = r := h8 (by simp)
          have e9 : v9 = l := h9 (by simp)
          subst e8
          subst e9
          refine c_vo_join hq h32 hrow hs12 hsA hsB hsC ih (x := 1) (k2 := k2) ?_ (fun z => absurd (by decide) z) (fun z => absurd z (by decide)) (fun _ => by simp) (fun z => absurd z (by decide)) (fun _ j _ => by simp)
          simp only [hmStep]
          rw [if_pos (by decide), if_neg (by decide), if_pos (by decide)]
          rw [if_pos ⟨c6, c7⟩]
    · refine Ex_tableIn 157 dX2_valueOf_71 (by rw [hsw]; decide) (by rw [hsw]; decide) (off := 86) (by rw [hsw]; rfl) (by decide) ?_
      refine Ex_iload 159 dX2_valueOf_157 rfl rfl ?_
      refine Ex_if_ne 162 166 dX2_valueOf_159 (by decide) rfl (fun c8 => ?_) (fun c8 => ?_)
      · refine Ex_iconst 167 (v := 0) dX2_valueOf_166 (by decide) rfl ?_
        refine Ex_istore 169 (ls' := [some (.ref q), some (.int h), some (.int m), some (.int o), some (.int t), some (.int (nI stk.length)), some (.int (nI i)), some (.int s), some (.int v8), some (.int v9), some (.int 0)]) dX2_valueOf_167 (Nat.le_of_ble_eq_true rfl) rfl rfl rfl ?_
        refine Ex_goto 276 dX2_valueOf_169 (by decide) ?_
        have e := hm_toInt hsw
        subst e
        obtain ⟨r, k2, rfl⟩ : ∃ r k2, stk = r :: k2 := by
          have := hsB (by decide)
          match stk, this with
          | r :: k2, _ => exact ⟨r, k2, rfl⟩
        have e8 : v8 = r := h8 (by simp)
        subst e8
        refine c_vo_join hq h32 hrow hs12 hsA hsB hsC ih (x := 0) (k2 := k2) ?_ (fun z => absurd (by decide) z) (fun _ => by simp) (fun z => absurd z (by decide)) (fun _ j _ => by simp) (fun z => absurd z (by decide))
        simp only [hmStep]
        rw [if_pos (by decide), if_pos (by decide)]
        rw [if_neg c8]
      · refine Ex_iconst 163 (v := 1) dX2_valueOf_162 (by decide) rfl ?_
        refine Ex_goto 167 dX2_valueOf_163 (by decide) ?_
        refine Ex_istore 169 (ls' := [some (.ref q), some (.int h), some (.int m), some (.int o), some (.int t), some (.int (nI stk.length)), some (.int (nI i)), some (.int s), some (.int v8), some (.int v9), some (.int 1)]) dX2_valueOf_167 (Nat.le_of_ble_eq_true rfl) rfl rfl rfl ?_
        refine Ex_goto 276 dX2_valueOf_169 (by decide) ?_
        have e := hm_toInt hsw
        subst e
        obtain ⟨r, k2, rfl⟩ : ∃ r k2, stk = r :: k2 := by
          have := hsB (by decide)
          match stk, this with
          | r :: k2, _ => exact ⟨r, k2, rfl⟩
        have e8 : v8 = r := h8 (by simp)
        subst e8
        refine c_vo_join hq h32 hrow hs12 hsA hsB hsC ih (x := 1) (k2 := k2) ?_ (fun z => absurd (by decide) z) (fun _ => by simp) (fun z => absurd z (by decide)) (fun _ j _ => by simp) (fun z => absurd z (by decide))
        simp only [hmStep]
        rw [if_pos (by decide), if_pos (by decide)]
        rw [if_pos c8]
    · refine Ex_tableIn 150 dX2_valueOf_71 (by rw [hsw]; decide) (by rw [hsw]; decide) (off := 79) (by rw [hsw]; rfl) (by decide) ?_
      refine Ex_iload 152 dX2_valueOf_150 rfl rfl ?_
      refine Ex_istore 154 (ls' := [some (.ref q), some (.int h), some (.int m), some (.int o), some (.int t), some (.int (nI stk.length)), some (.int (nI i)), some (.int s), some (.int v8), some (.int v9), some (.int t)]) dX2_valueOf_152 (Nat.le_of_ble_eq_true rfl) rfl rfl rfl ?_
      refine Ex_goto 276 dX2_valueOf_154 (by decide) ?_
      have hA : ¬ s < -4 := by rw [hm_toInt hsw]; decide
      refine c_vo_join hq h32 hrow hs12 hsA hsB hsC ih (x := t) (k2 := stk) ?_ (fun _ => rfl) (fun z => absurd (by rw [z]; decide) hA) (fun z => absurd (Int32.lt_trans z (by decide)) hA) (fun z => absurd (by rw [z]; decide) hA) (fun z => absurd (Int32.lt_trans z (by decide)) hA)
      have e := hm_toInt hsw
      subst e
      rfl
    · refine Ex_tableIn 144 dX2_valueOf_71 (by rw [hsw]; decide) (by rw [hsw]; decide) (off := 73) (by rw [hsw]; rfl) (by decide) ?_
      refine Ex_iload_n 145 (i := 3) dX2_valueOf_144 rfl rfl rfl ?_
      refine Ex_istore 147 (ls' := [some (.ref q), some (.int h), some (.int m), some (.int o), some (.int t), some (.int (nI stk.length)), some (.int (nI i)), some (.int s), some (.int v8), some (.int v9), some (.int o)]) dX2_valueOf_145 (Nat.le_of_ble_eq_true rfl) rfl rfl rfl ?_
      refine Ex_goto 276 dX2_valueOf_147 (by decide) ?_
      have hA : ¬ s < -4 := by rw [hm_toInt hsw]; decide
      refine c_vo_join hq h32 hrow hs12 hsA hsB hsC ih (x := o) (k2 := stk) ?_ (fun _ => rfl) (fun z => absurd (by rw [z]; decide) hA) (fun z => absurd (Int32.lt_trans z (by decide)) hA) (fun z => absurd (by rw [z]; decide) hA) (fun z => absurd (Int32.lt_trans z (by decide)) hA)
      have e := hm_toInt hsw
      subst e
      rfl
    · refine Ex_tableIn 138 dX2_valueOf_71 (by rw [hsw]; decide) (by rw [hsw]; decide) (off := 67) (by rw [hsw]; rfl) (by decide) ?_
      refine Ex_iload_n 139 (i := 2) dX2_valueOf_138 rfl rfl rfl ?_
      refine Ex_istore 141 (ls' := [some (.ref q), some (.int h), some (.int m), some (.int o), some (.int t), some (.int (nI stk.length)), some (.int (nI i)), some (.int s), some (.int v8), some (.int v9), some (.int m)]) dX2_valueOf_139 (Nat.le_of_ble_eq_true rfl) rfl rfl rfl ?_
      refine Ex_goto 276 dX2_valueOf_141 (by decide) ?_
      have hA : ¬ s < -4 := by rw [hm_toInt hsw]; decide
      refine c_vo_join hq h32 hrow hs12 hsA hsB hsC ih (x := m) (k2 := stk) ?_ (fun _ => rfl) (fun z => absurd (by rw [z]; decide) hA) (fun z => absurd (Int32.lt_trans z (by decide)) hA) (fun z => absurd (by rw [z]; decide) hA) (fun z => absurd (Int32.lt_trans z (by decide)) hA)
      have e := hm_toInt hsw
      subst e
      rfl
    · refine Ex_tableIn 132 dX2_valueOf_71 (by rw [hsw]; decide) (by rw [hsw]; decide) (off := 61) (by rw [hsw]; rfl) (by decide) ?_
      refine Ex_iload_n 133 (i := 1) dX2_valueOf_132 rfl rfl rfl ?_
      refine Ex_istore 135 (ls' := [some (.ref q), some (.int h), some (.int m), some (.int o), some (.int t), some (.int (nI stk.length)), some (.int (nI i)), some (.int s), some (.int v8), some (.int v9), some (.int h)]) dX2_valueOf_133 (Nat.le_of_ble_eq_true rfl) rfl rfl rfl ?_
      refine Ex_goto 276 dX2_valueOf_135 (by decide) ?_
      have hA : ¬ s < -4 := by rw [hm_toInt hsw]; decide
      refine c_vo_join hq h32 hrow hs12 hsA hsB hsC ih (x := h) (k2 := stk) ?_ (fun _ => rfl) (fun z => absurd (by rw [z]; decide) hA) (fun z => absurd (Int32.lt_trans z (by decide)) hA) (fun z => absurd (by rw [z]; decide) hA) (fun z => absurd (Int32.lt_trans z (by decide)) hA)
      have e := hm_toInt hsw
      subst e
      rfl
set_option maxHeartbeats 4000000 in
theorem c_vo_turn {d : Nat} {sh : xSh} {R : xR} {L : xL} {I : xI} {Q : xQ} {q : Nat} {h m o t : Int32} {stk : List Int32} {row : Nat → Int32} {s : Int32} {i : Nat} (hi : i < 1000) (hstep : I (q + 1) i = s) (hq : xLaw sh R q) (h32 : stk.length ≤ 32) (hrow : ∀ j, j < stk.length → row (stk.length - 1 - j) = stk.getD j 0) (hs12 : ¬ s < -12) (hsA : ¬ s < -4 → stk.length + 1 ≤ 32) (hsB : s = -5 → 1 ≤ stk.length) (hsC : s < -5 → 2 ≤ stk.length) (ih : ∀ (stk' : List Int32) (row' : Nat → Int32), stk' = hmStep h m o t stk s → stk'.length ≤ 32 → (∀ j, j < stk'.length → row' (stk'.length - 1 - j) = stk'.getD j 0) → Ex d 0 0 MX2_valueOf 0 sh R L (va_up I (q + 2) row') 6 [some (.ref q), some (.int h), some (.int m), some (.int o), some (.int t), some (.int (nI stk'.length)), some (.int (nI (i + 1))), none, none, none, none] [] Q) : Ex d 0 0 MX2_valueOf 0 sh R L (va_up I (q + 2) row) 15 [some (.ref q), some (.int h), some (.int m), some (.int o), some (.int t), some (.int (nI stk.length)), some (.int (nI i)), none, none, none, none] [] Q := by
  refine Ex_aload_n 16 (i := 0) dX2_valueOf_15 rfl rfl rfl ?_
  refine Ex_getR 19 dX2_valueOf_16 fX2_9 hq.1 rfl hq.2.2.2.1 rfl ?_
  refine Ex_iload 21 dX2_valueOf_19 rfl rfl ?_
  refine Ex_aI 22 i (I (q + 1) i) dX2_valueOf_21 hq.2.1 rfl (by omega) (by decide) (congrFun (va_up_ne _ _ (by omega)) _) rfl ?_
  rw [hstep]
  refine Ex_istore 24 (ls' := [some (.ref q), some (.int h), some (.int m), some (.int o), some (.int t), some (.int (nI stk.length)), some (.int (nI i)), some (.int s), none, none, none]) dX2_valueOf_22 (Nat.le_of_ble_eq_true rfl) rfl rfl rfl ?_
  refine Ex_iload 26 dX2_valueOf_24 rfl rfl ?_
  refine Ex_if_le 29 41 dX2_valueOf_26 (by decide) rfl (fun c1 => ?_) (fun c1 => ?_)
  · refine Ex_iconst 42 (v := 0) dX2_valueOf_41 (by decide) rfl ?_
    refine Ex_istore 44 (ls' := [some (.ref q), some (.int h), some (.int m), some (.int o), some (.int t), some (.int (nI stk.length)), some (.int (nI i)), some (.int s), some (.int 0), none, none]) dX2_valueOf_42 (Nat.le_of_ble_eq_true rfl) rfl rfl rfl ?_
    refine Ex_iload 46 dX2_valueOf_44 rfl rfl ?_
    refine Ex_iconst 47 (v := 1) dX2_valueOf_46 (by decide) rfl ?_
    refine Ex_icmp_le 50 62 dX2_valueOf_47 (by decide) rfl (fun c2 => ?_) (fun c2 => ?_)
    · refine Ex_iconst 63 (v := 0) dX2_valueOf_62 (by decide) rfl ?_
      refine Ex_istore 65 (ls' := [some (.ref q), some (.int h), some (.int m), some (.int o), some (.int t), some (.int (nI stk.length)), some (.int (nI i)), some (.int s), some (.int 0), some (.int 0), none]) dX2_valueOf_63 (Nat.le_of_ble_eq_true rfl) rfl rfl rfl ?_
      exact c_vo_65 hq h32 hrow hs12 hsA hsB hsC ih (fun z => absurd (hm_le0 (by omega) c1) (by omega)) (fun z => absurd (hm_le1 (by omega) c2) (by omega))
    · have hk2 : 2 ≤ stk.length := hm_nle1 c2
      refine Ex_aload_n 51 (i := 0) dX2_valueOf_50 rfl rfl rfl ?_
      refine Ex_getR 54 dX2_valueOf_51 fX2_15 hq.1 rfl hq.2.2.2.2 rfl ?_
      refine Ex_iload 56 dX2_valueOf_54 rfl rfl ?_
      refine Ex_iconst 57 (v := 2) dX2_valueOf_56 (by decide) rfl ?_
      refine Ex_isub 58 dX2_valueOf_57 rfl ?_
      refine Ex_aI 59 (stk.length - 2) (row (stk.length - 2)) dX2_valueOf_58 hq.2.2.1 (hm_sub2 hk2) (by omega) (by decide) (congrFun (va_up_self _ _ _) _) rfl ?_
      refine Ex_goto 63 dX2_valueOf_59 (by decide) ?_
      refine Ex_istore 65 (ls' := [some (.ref q), some (.int h), some (.int m), some (.int o), some (.int t), some (.int (nI stk.length)), some (.int (nI i)), some (.int s), some (.int 0), some (.int (row (stk.length - 2))), none]) dX2_valueOf_63 (Nat.le_of_ble_eq_true rfl) rfl rfl rfl ?_
      exact c_vo_65 hq h32 hrow hs12 hsA hsB hsC ih (fun z => absurd (hm_le0 (by omega) c1) (by omega)) (fun z => hrow 1 (by omega))
  · have hk1 : 1 ≤ stk.length := hm_nle0 c1
    refine Ex_aload_n 30 (i := 0) dX2_valueOf_29 rfl rfl rfl ?_
    refine Ex_getR 33 dX2_valueOf_30 fX2_15 hq.1 rfl hq.2.2.2.2 rfl ?_
    refine Ex_iload 35 dX2_valueOf_33 rfl rfl ?_
    refine Ex_iconst 36 (v := 1) dX2_valueOf_35 (by decide) rfl ?_
    refine Ex_isub 37 dX2_valueOf_36 rfl ?_
    refine Ex_aI 38 (stk.length - 1) (row (stk.length - 1)) dX2_valueOf_37 hq.2.2.1 (hm_sub1 hk1) (by omega) (by decide) (congrFun (va_up_self _ _ _) _) rfl ?_
    refine Ex_goto 42 dX2_valueOf_38 (by decide) ?_
    refine Ex_istore 44 (ls' := [some (.ref q), some (.int h), some (.int m), some (.int o), some (.int t), some (.int (nI stk.length)), some (.int (nI i)), some (.int s), some (.int (row (stk.length - 1))), none, none]) dX2_valueOf_42 (Nat.le_of_ble_eq_true rfl) rfl rfl rfl ?_
    refine Ex_iload 46 dX2_valueOf_44 rfl rfl ?_
    refine Ex_iconst 47 (v := 1) dX2_valueOf_46 (by decide) rfl ?_
    refine Ex_icmp_le 50 62 dX2_valueOf_47 (by decide) rfl (fun c3 => ?_) (fun c3 => ?_)
    · refine Ex_iconst 63 (v := 0) dX2_valueOf_62 (by decide) rfl ?_
      refine Ex_istore 65 (ls' := [some (.ref q), some (.int h), some (.int m), some (.int o), some (.int t), some (.int (nI stk.length)), some (.int (nI i)), some (.int s), some (.int (row (stk.length - 1))), some (.int 0), none]) dX2_valueOf_63 (Nat.le_of_ble_eq_true rfl) rfl rfl rfl ?_
      exact c_vo_65 hq h32 hrow hs12 hsA hsB hsC ih (fun z => hrow 0 (by omega)) (fun z => absurd (hm_le1 (by omega) c3) (by omega))
    · have hk2 : 2 ≤ stk.length := hm_nle1 c3
      refine Ex_aload_n 51 (i := 0) dX2_valueOf_50 rfl rfl rfl ?_
      refine Ex_getR 54 dX2_valueOf_51 fX2_15 hq.1 rfl hq.2.2.2.2 rfl ?_
      refine Ex_iload 56 dX2_valueOf_54 rfl rfl ?_
      refine Ex_iconst 57 (v := 2) dX2_valueOf_56 (by decide) rfl ?_
      refine Ex_isub 58 dX2_valueOf_57 rfl ?_
      refine Ex_aI 59 (stk.length - 2) (row (stk.length - 2)) dX2_valueOf_58 hq.2.2.1 (hm_sub2 hk2) (by omega) (by decide) (congrFun (va_up_self _ _ _) _) rfl ?_
      refine Ex_goto 63 dX2_valueOf_59 (by decide) ?_
      refine Ex_istore 65 (ls' := [some (.ref q), some (.int h), some (.int m), some (.int o), some (.int t), some (.int (nI stk.length)), some (.int (nI i)), some (.int s), some (.int (row (stk.length - 1))), some (.int (row (stk.length - 2))), none]) dX2_valueOf_63 (Nat.le_of_ble_eq_true rfl) rfl rfl rfl ?_
      exact c_vo_65 hq h32 hrow hs12 hsA hsB hsC ih (fun z => hrow 0 (by omega)) (fun z => hrow 1 (by omega))
theorem hm_stepLen {h m o t s : Int32} {k : List Int32} (h12 : ¬ s < -12) (hA : ¬ s < -4 → k.length + 1 ≤ 32) (hB : s = -5 → 1 ≤ k.length) (hC : s < -5 → 2 ≤ k.length) : (hmStep h m o t k s).length = if s < -5 then k.length - 1 else if s = -5 then k.length else k.length + 1 := by
  unfold hmStep
  by_cases c4 : s < -4
  · rw [if_pos c4]
    by_cases c5 : s = -5
    · have hk := hB c5
      match k, hk with
      | r :: k, _ => simp [c5]
    · have c6 := hm_lt5 c4 c5
      have hk := hC c6
      match k, hk with
      | r :: q :: k, _ => simp [c5, c6]
  · have n5 : ¬ s = -5 := fun z => c4 (by rw [z]; decide)
    have n6 : ¬ s < -5 := fun z => c4 (Int32.lt_trans z (by decide))
    simp [c4, n5, n6]
theorem hm_hi {s : Int32} {r : List Int32} {k e : Nat} (h : hmHi (s :: r) k = some e) : ¬ s < -12 ∧ (¬ s < -4 → k + 1 ≤ 32) ∧ (s = -5 → 1 ≤ k) ∧ (s < -5 → 2 ≤ k) ∧ hmHi r (if s < -5 then k - 1 else if s = -5 then k else k + 1) = some e := by
  unfold hmHi at h
  by_cases c12 : s < -12
  · simp [c12] at h
  · rw [if_neg c12] at h
    by_cases c6 : s < -5
    · rw [if_pos c6] at h
      by_cases ck : 2 ≤ k
      · rw [if_pos ck] at h
        refine ⟨c12, fun z => absurd (Int32.lt_trans c6 (by decide)) z, fun z => absurd c6 (by rw [z]; decide), fun _ => ck, ?_⟩
        rw [if_pos c6]; exact h
      · simp [ck] at h
    · rw [if_neg c6] at h
      by_cases c5 : s = -5
      · rw [if_pos c5] at h
        by_cases ck : 1 ≤ k
        · rw [if_pos ck] at h
          refine ⟨c12, fun z => absurd (by rw [c5]; decide) z, fun _ => ck, fun z => absurd z c6, ?_⟩
          rw [if_neg c6, if_pos c5]; exact h
        · simp [ck] at h
      · rw [if_neg c5] at h
        by_cases ck : k + 1 ≤ 32
        · rw [if_pos ck] at h
          refine ⟨c12, fun _ => ck, fun z => absurd z c5, fun z => absurd z c6, ?_⟩
          rw [if_neg c6, if_neg c5]; exact h
        · simp [ck] at h
set_option maxHeartbeats 4000000 in
theorem c_vo_loop {d : Nat} {sh : xSh} {R : xR} {L : xL} {I : xI} {Q : xQ} {q : Nat} {c : List Int32} {h m o t : Int32} (hq : xLaw sh R q) (hsz : I q 2 = nI c.length) (hc : ∀ i, i < c.length → I (q + 1) i = c.getD i 0) (hlen : c.length ≤ 1000) (hQ : ∀ I', hmFr (fun x => x = q + 2) I I' → Q (some (.int (hmLawV c h m o t))) 0 sh R L I') : ∀ (n i : Nat) (stk : List Int32) (row : Nat → Int32), n + i = c.length → stk.length ≤ 32 → (∀ j, j < stk.length → row (stk.length - 1 - j) = stk.getD j 0) → stk = (c.take i).foldl (hmStep h m o t) [] → (c = [] ∨ hmHi (c.drop i) stk.length = some 1) → Ex d 0 0 MX2_valueOf 0 sh R L (va_up I (q + 2) row) 6 [some (.ref q), some (.int h), some (.int m), some (.int o), some (.int t), some (.int (nI stk.length)), some (.int (nI i)), none, none, none, none] [] Q := by
  intro n
  induction n with
  | zero =>
    intro i stk row hn h32 hrow hstk hhi
    have hi : c.length ≤ i := by omega
    rw [List.drop_of_length_le hi] at hhi
    rw [List.take_of_length_le hi] at hstk
    refine Ex_iload 8 dX2_valueOf_6 rfl rfl ?_
    refine Ex_aload_n 9 (i := 0) dX2_valueOf_8 rfl rfl rfl ?_
    refine Ex_gI 12 (I q 2) dX2_valueOf_9 fX2_18 hq.1 rfl (congrFun (va_up_ne _ _ (by omega)) _) rfl ?_
    rw [hsz]
    refine Ex_icmp_ge 15 337 dX2_valueOf_12 (by decide) rfl (fun c1 => ?_) (fun c1 => absurd c1 (fun z => z (nI_le (by omega) (by omega))))
    refine Ex_iload 339 dX2_valueOf_337 rfl rfl ?_
    refine Ex_if_le 342 351 dX2_valueOf_339 (by decide) rfl (fun c2 => ?_) (fun c2 => ?_)
    · refine Ex_iconst 352 (v := 1) dX2_valueOf_351 (by decide) rfl ?_
      refine Ex_iret dX2_valueOf_352 rfl rfl (Or.inl rfl) ?_
      have hk0 := hm_le0 (by omega) c2
      have e : hmLawV c h m o t = 1 := by
        unfold hmLawV
        rw [← hstk, List.eq_nil_of_length_eq_zero hk0]
      rw [← e]
      exact hQ _ (fun x hx => va_up_ne _ _ hx)
    · refine Ex_aload_n 343 (i := 0) dX2_valueOf_342 rfl rfl rfl ?_
      refine Ex_getR 346 dX2_valueOf_343 fX2_15 hq.1 rfl hq.2.2.2.2 rfl ?_
      refine Ex_iconst 347 (v := 0) dX2_valueOf_346 (by decide) rfl ?_
      refine Ex_aI 348 0 (row 0) dX2_valueOf_347 hq.2.2.1 rfl (by decide) (by decide) (congrFun (va_up_self _ _ _) _) rfl ?_
      refine Ex_goto 352 dX2_valueOf_348 (by decide) ?_
      refine Ex_iret dX2_valueOf_352 rfl rfl (Or.inl rfl) ?_
      have hk0 := hm_nle0 c2
      have hk1 : stk.length = 1 := by
        rcases hhi with hz | hz
        · rw [hz] at hstk
          rw [hstk] at hk0
          simp at hk0
        · simpa [hmHi] using hz
      have e : hmLawV c h m o t = row 0 := by
        have h0 := hrow 0 (by omega)
        rw [hk1] at h0
        rw [h0]
        unfold hmLawV
        rw [← hstk]
        match stk, hk1 with
        | [v], _ => rfl
      rw [← e]
      exact hQ _ (fun x hx => va_up_ne _ _ hx)
  | succ n ihn =>
    intro i stk row hn h32 hrow hstk hhi
    have hi : i < c.length := by omega
    have hd : c.drop i = c.getD i 0 :: c.drop (i + 1) := by
      rw [List.drop_eq_getElem_cons hi]
      simp [hi]
    have hne : c ≠ [] := fun z => by rw [z] at hi; simp at hi
    have hh2 : hmHi (c.getD i 0 :: c.drop (i + 1)) stk.length = some 1 := by
      rcases hhi with hz | hz
      · exact absurd hz hne
      · rw [← hd]; exact hz
    obtain ⟨g1, g2, g3, g4, g5⟩ := hm_hi hh2
    refine Ex_iload 8 dX2_valueOf_6 rfl rfl ?_
    refine Ex_aload_n 9 (i := 0) dX2_valueOf_8 rfl rfl rfl ?_
    refine Ex_gI 12 (I q 2) dX2_valueOf_9 fX2_18 hq.1 rfl (congrFun (va_up_ne _ _ (by omega)) _) rfl ?_
    rw [hsz]
    refine Ex_icmp_ge 15 337 dX2_valueOf_12 (by decide) rfl (fun c1 => absurd c1 (nI_ge (by omega) (by omega))) (fun c1 => ?_)
    refine c_vo_turn (by omega) (hc i hi) hq h32 hrow g1 g2 g3 g4 (fun stk' row' e1 e2 e3 => ?_)
    refine ihn (i + 1) stk' row' (by omega) e2 e3 ?_ (Or.inr ?_)
    · rw [List.take_succ_eq_append_getElem hi, List.foldl_append, ← hstk, e1]
      simp [hi]
    · rw [e1, hm_stepLen g1 g2 g3 g4]
      exact g5
set_option maxHeartbeats 4000000 in
theorem c_valueOf {d : Nat} {sh : xSh} {R : xR} {L : xL} {I : xI} {Q : xQ} {q : Nat} {c : List Int32} {h m o t : Int32} (hq : xLaw sh R q) (hsz : I q 2 = nI c.length) (hc : ∀ i, i < c.length → I (q + 1) i = c.getD i 0) (hlen : c.length ≤ 1000) (hQ : ∀ I', hmFr (fun x => x = q + 2) I I' → Q (some (.int (hmLawV c h m o t))) 0 sh R L I') (hwf : c = [] ∨ hmHi c 0 = some 1) : Ex d 0 0 MX2_valueOf 0 sh R L I 0 [some (.ref q), some (.int h), some (.int m), some (.int o), some (.int t), none, none, none, none, none, none] [] Q := by
  refine Ex_iconst 1 (v := 0) dX2_valueOf_0 (by decide) rfl ?_
  refine Ex_istore 3 (ls' := [some (.ref q), some (.int h), some (.int m), some (.int o), some (.int t), some (.int 0), none, none, none, none, none]) dX2_valueOf_1 (Nat.le_of_ble_eq_true rfl) rfl rfl rfl ?_
  refine Ex_iconst 4 (v := 0) dX2_valueOf_3 (by decide) rfl ?_
  refine Ex_istore 6 (ls' := [some (.ref q), some (.int h), some (.int m), some (.int o), some (.int t), some (.int 0), some (.int 0), none, none, none, none]) dX2_valueOf_4 (Nat.le_of_ble_eq_true rfl) rfl rfl rfl ?_
  refine Ex_I (va_up_id I (q + 2)).symm ?_
  exact c_vo_loop hq hsz hc hlen hQ c.length 0 [] _ (by omega) (by simp) (fun j hj => absurd hj (by simp)) (by simp) (by simpa using hwf)
