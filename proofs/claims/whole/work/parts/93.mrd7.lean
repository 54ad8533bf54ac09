theorem hmDm.kept {I J : xI} {L K : xL} {m : Nat} {D : hmDr} (h : hmDm I L m D) (e1 : ∀ x, m + 2 ≤ x → x < m + 11 → J x = I x) (e2 : J m 19 = I m 19) (e3 : J m 20 = I m 20) (e4 : K (m + 3) = L (m + 3)) : hmDm J K m D := by
  obtain ⟨d1, d2, d3, d4, d5, d6⟩ := h
  refine ⟨by rw [e1 _ (by omega) (by omega)]; exact d1, by rw [e1 _ (by omega) (by omega)]; exact d2, fun w hw => by rw [e4, e1 (m + 4) (by omega) (by omega), e1 (m + 5) (by omega) (by omega), e1 (m + 6) (by omega) (by omega), e1 (m + 7) (by omega) (by omega)]; exact d3 w hw, by rw [e3]; exact d4, by rw [e1 _ (by omega) (by omega)]; exact d5, ?_⟩
  rcases d6 with ⟨a1, a2, a3⟩ | ⟨cd, a1, a2, a3, a4, a5⟩
  · exact Or.inl ⟨a1, by rw [e1 _ (by omega) (by omega)]; exact a2, by rw [e2]; exact a3⟩
  · exact Or.inr ⟨cd, a1, a2, a3, by rw [e1 _ (by omega) (by omega)]; exact a4, a5.kept e2 (e1 _ (by omega) (by omega))⟩
theorem hmXw_len {l : List Nat} {ts r : List hmTok} (h : hmXw l ts = .inr r) : r.length < ts.length := by
  cases ts with
  | nil => exact absurd h (by simp [hmXw])
  | cons t q =>
    unfold hmXw at h
    by_cases c : hmIsW t l = true
    · simp only [if_pos c] at h
      cases h
      simp
    · simp only [if_neg c] at h
      exact absurd h (by simp)
theorem hmXs_len {c : Nat} {ts r : List hmTok} (h : hmXs c ts = .inr r) : r.length < ts.length := by
  cases ts with
  | nil => exact absurd h (by simp [hmXs])
  | cons t q =>
    unfold hmXs at h
    by_cases c1 : hmIsS t c = true
    · simp only [if_pos c1] at h
      cases h
      simp
    · simp only [if_neg c1] at h
      exact absurd h (by simp)
theorem hmXn_len {lo hi : Nat} {ts : List hmTok} {p : Nat × List hmTok} (h : hmXn lo hi ts = .inr p) : p.2.length < ts.length := by
  cases ts with
  | nil => exact absurd h (by simp [hmXn])
  | cons t q =>
    unfold hmXn at h
    by_cases c1 : t.1 = 3
    · simp only [if_pos c1] at h
      by_cases c2 : hmDec t.2.1 < lo ∨ hi < hmDec t.2.1
      · simp only [if_pos c2] at h
        exact absurd h (by simp)
      · simp only [if_neg c2] at h
        cases h
        simp
    · simp only [if_neg c1] at h
      exact absurd h (by simp)
theorem hmAn_len : ∀ (ts : List hmTok) (many : Nat) (kn : Int32) (p : Int32 × List hmTok), hmAn ts many kn = .inr p → p.2.length ≤ ts.length := by
  intro ts
  induction ts with
  | nil =>
    intro many kn p h
    exact absurd h (by simp [hmAn])
  | cons t r ih =>
    intro many kn p h
    rw [hmAn_c] at h
    by_cases c1 : t.1 = 3
    · rw [if_pos c1] at h
      by_cases c2 : 9 < hmDec t.2.1
      · rw [if_pos c2] at h
        exact absurd h (by simp)
      rw [if_neg c2] at h
      by_cases c3 : hmBit kn (hmDec t.2.1) = true
      · rw [if_pos c3] at h
        exact absurd h (by simp)
      rw [if_neg c3] at h
      by_cases c4 : many = 6
      · rw [if_pos c4] at h
        exact absurd h (by simp)
      rw [if_neg c4] at h
      have := ih _ _ p h
      rw [List.length_cons]
      omega
    · rw [if_neg c1] at h
      by_cases c5 : many = 0
      · rw [if_pos c5] at h
        exact absurd h (by simp)
      rw [if_neg c5] at h
      cases h
      exact Nat.le_refl _
theorem hmCL_len {nms : List (List Nat)} {ts : List hmTok} {p : hmCq × List hmTok} (h : hmCL nms ts = .inr p) : p.2.length < ts.length := by
  cases ts with
  | nil => exact absurd h (by simp [hmCL])
  | cons t r =>
    have e : hmCL nms (t :: r) = if hmNm t = true then (if t.2.1 ∈ nms then .inl (hmFl 3 t) else hmC2 t.2.1 r) else .inl (hmFl 1 t) := rfl
    rw [e] at h
    by_cases c1 : hmNm t = true
    · rw [if_pos c1] at h
      by_cases c2 : t.2.1 ∈ nms
      · rw [if_pos c2] at h
        exact absurd h (by simp)
      rw [if_neg c2] at h
      cases r with
      | nil => exact absurd h (by simp [hmC2])
      | cons u q =>
        cases hk : hmKk u with
        | none =>
          rw [hmC2_no hk] at h
          exact absurd h (by simp)
        | some k =>
          rw [hmC2_yes hk] at h
          obtain ⟨r3, h3, h⟩ := hmBd_inr (show hmBd (hmXw wTrouble q) (hmC4 t.2.1 k) = .inr p from h)
          obtain ⟨p4, h4, h⟩ := hmBd_inr (show hmBd (hmXn 0 9 r3) (fun p => hmC5 t.2.1 k p.1 p.2) = .inr p from h)
          obtain ⟨r5, h5, h⟩ := hmBd_inr (show hmBd (hmXw wKnows p4.2) (hmC6 t.2.1 k p4.1) = .inr p from h)
          obtain ⟨p6, h6, h⟩ := hmBd_inr (show hmBd (hmAn r5 0 0) (fun p => hmC7 t.2.1 k p4.1 p.1 p.2) = .inr p from h)
          obtain ⟨r7, h7, h⟩ := hmBd_inr (show hmBd (hmXw wHolds p6.2) (hmC8 t.2.1 k p4.1 p6.1) = .inr p from h)
          obtain ⟨p8, h8, h⟩ := hmBd_inr (show hmBd (hmXn 1 30 r7) (fun q => hmC9 (t.2.1, k, p4.1, p6.1, q.1) q.2) = .inr p from h)
          obtain ⟨r9, h9, h⟩ := hmBd_inr (show hmBd (hmXs 59 p8.2) (fun r => .inr ((t.2.1, k, p4.1, p6.1, p8.1), r)) = .inr p from h)
          cases h
          have a1 := hmXw_len h3
          have a2 := hmXn_len h4
          have a3 := hmXw_len h5
          have a4 := hmAn_len _ _ _ _ h6
          have a5 := hmXw_len h7
          have a6 := hmXn_len h8
          have a7 := hmXs_len h9
          show r9.length < (t :: u :: q).length
          rw [List.length_cons, List.length_cons]
          omega
    · rw [if_neg c1] at h
      exact absurd h (by simp)
theorem hmOL_len {D : hmDr} {ts : List hmTok} {p : hmDr × List hmTok} (h : hmOL D ts = .inr p) : p.2.length < ts.length := by
  cases ts with
  | nil => exact absurd h (by simp [hmOL])
  | cons t r =>
    rw [hmOL_c] at h
    rw [List.length_cons]
    by_cases c1 : hmIsW t wCaller = true
    · rw [if_pos c1] at h
      by_cases c2 : D.1.length = 6
      · rw [if_pos c2] at h
        exact absurd h (by simp)
      rw [if_neg c2] at h
      obtain ⟨q, h1, h⟩ := hmBd_inr h
      have := hmCL_len h1
      cases h
      show q.2.length < r.length + 1
      omega
    rw [if_neg c1] at h
    by_cases c3 : hmIsW t wTakes = true
    · rw [if_pos c3] at h
      by_cases c2 : D.2.1.isSome = true
      · rw [if_pos c2] at h
        exact absurd h (by simp)
      rw [if_neg c2] at h
      obtain ⟨q, h1, h⟩ := hmBd_inr h
      obtain ⟨r2, h2, h⟩ := hmBd_inr (show hmBd (hmXs 59 q.2) (fun r => .inr ((D.1, some q.1, D.2.2), r)) = .inr p from h)
      have := hmXn_len h1
      have := hmXs_len h2
      cases h
      show r2.length < r.length + 1
      omega
    rw [if_neg c3] at h
    by_cases c4 : hmIsW t wBelieves = true
    · rw [if_pos c4] at h
      by_cases c2 : D.2.2.isSome = true
      · rw [if_pos c2] at h
        exact absurd h (by simp)
      rw [if_neg c2] at h
      obtain ⟨q, h1, h⟩ := hmBd_inr h
      have := (hmLm_inr _ _ _ _ q.1 q.2 h1).2.1
      have h0 : (hmLm r true [(0, false)] [] = Sum.inr (q.1, q.2)) := h1
      cases h
      rw [List.length_nil] at this
      show q.2.length < r.length + 1
      omega
    · rw [if_neg c4] at h
      exact absurd h (by simp)
set_option maxHeartbeats 4000000 in
theorem mc_readsAll_loop {d : Nat} {sh : xSh} {R : xR} {L : xL} {I : xI} {Q : xQ} {m : Nat} {T : List Nat} (hm : xModel sh R m) (hc : ∀ x, x ∈ T → x < 127) {ts : List hmTok} (hF : ∀ F I' L', hmRO 1000 hmDr0 ts = .inl F → 1 ≤ F → F < 20000 → hmVf m I I' → hmVl m L L' → I' m 9 = nI F → Q (some (.int 0)) 0 sh R L' I') (hQ : ∀ D I' L', hmRO 1000 hmDr0 ts = .inr D → hmDrOk D → hmVf m I I' → hmVl m L L' → hmDm I' L' m D → Q (some (.int 1)) 0 sh R L' I') : ∀ (k : Nat) (t : hmTok) (r : List hmTok) (D : hmDr) (J : xI) (LL : xL), (t :: r).length ≤ k + 1 → k ≤ 1000 → hmRO 1000 hmDr0 ts = hmRO k D (t :: r) → hmDrOk D → hmVf m I J → hmVl m L LL → hmDm J LL m D → hmAm J LL m T t r → hmTsOk (t :: r) → Ex (d + 4) 0 0 MX9_readsAll 0 sh R LL J 48 [some (.ref m), none] [] Q := by
  intro k
  induction k with
  | zero =>
    intro t r D J LL hlen hk he hDk gJ gL hD hA hto
    obtain ⟨d1, d2, d3, d4, d5, d6⟩ := id hD
    have hk4 := hA.sk.2.2.2
    have s6 := hA.2.2.1
    have hle := hmTcd_le t.1
    have t0 : t.1 = 0 := by
      by_cases q : t.1 = 0
      · exact q
      · obtain ⟨t', r', _, e, _, _⟩ := hmAm_next hA q
        rw [e] at hlen
        simp at hlen
    refine Ex_aload_n 49 (i := 0) dX9_readsAll_48 rfl rfl rfl ?_
    refine Ex_gI 52 (J m 6) dX9_readsAll_49 fX9_154 (xMs_0 hm) rfl rfl rfl ?_
    rw [s6]
    refine Ex_if_eq 55 121 dX9_readsAll_52 (by decide) rfl (fun c1 => ?_) (fun c1 => absurd c1 (fun q => q (by rw [t0]; rfl)))
    refine Ex_iconst 122 (v := 1) dX9_readsAll_121 (by decide) rfl ?_
    refine Ex_iret dX9_readsAll_122 rfl (by decide) (Or.inl rfl) ?_
    exact hQ D J LL he hDk gJ gL hD
  | succ k ih =>
    intro t r D J LL hlen hk he hDk gJ gL hD hA hto
    obtain ⟨d1, d2, d3, d4, d5, d6⟩ := id hD
    have hk4 := hA.sk.2.2.2
    have s6 := hA.2.2.1
    have hle := hmTcd_le t.1
    by_cases t0 : t.1 = 0
    · refine Ex_aload_n 49 (i := 0) dX9_readsAll_48 rfl rfl rfl ?_
      refine Ex_gI 52 (J m 6) dX9_readsAll_49 fX9_154 (xMs_0 hm) rfl rfl rfl ?_
      rw [s6]
      refine Ex_if_eq 55 121 dX9_readsAll_52 (by decide) rfl (fun c1 => ?_) (fun c1 => absurd c1 (fun q => q (by rw [t0]; rfl)))
      refine Ex_iconst 122 (v := 1) dX9_readsAll_121 (by decide) rfl ?_
      refine Ex_iret dX9_readsAll_122 rfl (by decide) (Or.inl rfl) ?_
      exact hQ D J LL (by rw [he, hmRO_c, if_pos t0]) hDk gJ gL hD
    have eR : hmRO 1000 hmDr0 ts = hmBd (hmOL D (t :: r)) (fun p => hmRO k p.1 p.2) := by rw [he, hmRO_c, if_neg t0]
    by_cases h1 : hmIsW t wCaller = true
    · have e0 := trivial
      have ewCaller : hmB (hmIsW t wCaller) = 1 := (hmB_1 _).mpr h1
      refine Ex_aload_n 49 (i := 0) dX9_readsAll_48 rfl rfl rfl ?_
      refine Ex_gI 52 (J m 6) dX9_readsAll_49 fX9_154 (xMs_0 hm) rfl rfl rfl ?_
      rw [s6]
      refine Ex_if_eq 55 121 dX9_readsAll_52 (by decide) rfl (fun c1 => absurd c1 (fun q => absurd ((nI_eq (b := 0) (by omega) (by omega)).mp q) (fun z => t0 ((hmTcd_0 hk4).mp z)))) (fun c1 => ?_)
      refine Ex_aload_n 56 (i := 0) dX9_readsAll_55 rfl rfl rfl ?_
      refine Ex_ldc2 59 (v := 43823259) dX9_readsAll_56 kX9_216 rfl ?_
      refine Ex_callV (M' := MX9_isWord) 62 [.long 43823259] (rest := []) dX9_readsAll_59 lX9_185 mX9_isWord rfl (xMs_0 hm) rfl (Nat.le_of_ble_eq_true rfl) (Nat.le_of_ble_eq_true rfl) rfl ?_
      refine mc_isWord hm hA (l := wCaller) (by decide +kernel) (by unfold hmWd; decide) ?_
      simp only [Option.toList, List.cons_append, List.nil_append]
      rw [ewCaller]
      refine Ex_if_eq 65 72 dX9_readsAll_62 (by decide) rfl (fun c2 => absurd c2 (by decide)) (fun c2 => ?_)
      refine Ex_aload_n 66 (i := 0) dX9_readsAll_65 rfl rfl rfl ?_
      refine Ex_callV (M' := MX9_readsCaller) 69 [] (rest := []) dX9_readsAll_66 lX9_281 mX9_readsCaller rfl (xMs_0 hm) rfl (Nat.le_of_ble_eq_true rfl) (Nat.le_of_ble_eq_true rfl) rfl ?_
      refine mc_readsCaller hm hc (nms := hmNms D) (by rw [hmNms_len]; exact hDk.1) hA t0 (by rw [hmNms_len]; exact d1) (fun i hi => by rw [hmNms_get]; rw [hmNms_len] at hi; exact ⟨(d3 i hi).1, (hDk.2.1 _ (hm_getD_mem2 hi)).1⟩) (fun h6 => ?_) (fun h6 F I1 L1 e f1 f2 g1 l1 k1 => ?_) (fun h6 c t1 r1 I1 L1 e g1 l1 c6 cr hA1 => ?_)
      · simp only [Option.toList, List.nil_append, List.cons_append]
        refine Ex_goto 111 dX9_readsAll_69 (by decide) ?_
        refine Ex_istore_n 112 (i := 1) (ls' := [some (.ref m), some (.int 0)]) dX9_readsAll_111 rfl (Nat.le_of_ble_eq_true rfl) rfl rfl rfl ?_
        refine Ex_iload_n 113 (i := 1) dX9_readsAll_112 rfl rfl rfl ?_
        refine Ex_if_ne 116 118 dX9_readsAll_113 (by decide) rfl (fun c3 => absurd c3 (fun q => q (by decide))) (fun c3 => ?_)
        refine Ex_iconst 117 (v := 0) dX9_readsAll_116 (by decide) rfl ?_
        refine Ex_iret dX9_readsAll_117 rfl (by decide) (Or.inl rfl) ?_
        have hfl := hmFl_lt (k := 5) (t := t) (by omega) (by omega) hA.pl
        exact hF (hmFl 5 t) _ LL (by rw [eR, hmOL_c, if_pos h1, if_pos (by rw [← hmNms_len]; exact h6)]; rfl) hfl.1 hfl.2 (gJ.tr hmVf.fl) gL (by rw [va_up_self, va_up_self])
      · simp only [Option.toList, List.nil_append, List.cons_append]
        refine Ex_goto 111 dX9_readsAll_69 (by decide) ?_
        refine Ex_istore_n 112 (i := 1) (ls' := [some (.ref m), some (.int 0)]) dX9_readsAll_111 rfl (Nat.le_of_ble_eq_true rfl) rfl rfl rfl ?_
        refine Ex_iload_n 113 (i := 1) dX9_readsAll_112 rfl rfl rfl ?_
        refine Ex_if_ne 116 118 dX9_readsAll_113 (by decide) rfl (fun c4 => absurd c4 (fun q => q (by decide))) (fun c4 => ?_)
        refine Ex_iconst 117 (v := 0) dX9_readsAll_116 (by decide) rfl ?_
        refine Ex_iret dX9_readsAll_117 rfl (by decide) (Or.inl rfl) ?_
        have hn6 : ¬ D.1.length = 6 := by rw [← hmNms_len]; exact h6
        exact hF F I1 L1 (by rw [eR, hmOL_c, if_pos h1, if_neg hn6, e]; rfl) f1 f2 (gJ.tr (hmVf.zf g1)) (gL.tr (hmVl.zl l1)) k1
      · simp only [Option.toList, List.nil_append, List.cons_append]
        refine Ex_goto 111 dX9_readsAll_69 (by decide) ?_
        refine Ex_istore_n 112 (i := 1) (ls' := [some (.ref m), some (.int 1)]) dX9_readsAll_111 rfl (Nat.le_of_ble_eq_true rfl) rfl rfl rfl ?_
        refine Ex_iload_n 113 (i := 1) dX9_readsAll_112 rfl rfl rfl ?_
        refine Ex_if_ne 116 118 dX9_readsAll_113 (by decide) rfl (fun c5 => ?_) (fun c5 => absurd c5 (by decide))
        refine Ex_goto 48 dX9_readsAll_118 (by decide) ?_
        refine Ex_fgt (ls' := [some (.ref m), none]) (by simp [xsub]) ?_
        have hn6 : ¬ D.1.length = 6 := by rw [← hmNms_len]; exact h6
        rw [hmNms_len] at c6 cr g1 l1
        have eO : hmOL D (t :: r) = .inr ((D.1 ++ [c], D.2.1, D.2.2), t1 :: r1) := by rw [hmOL_c, if_pos h1, if_neg hn6, e]; rfl
        have hk2 := hmOL_inr eO hto hDk
        have hln : (t1 :: r1).length < (t :: r).length := hmOL_len eO
        refine ih t1 r1 (D.1 ++ [c], D.2.1, D.2.2) I1 L1 (by omega) (by omega) (by rw [eR, eO]; rfl) hk2.1 (gJ.tr (hmVf.zf g1)) (gL.tr (hmVl.zl l1)) ⟨?_, ?_, fun w hw => ?_, ?_, ?_, ?_⟩ hA1 hk2.2
        · rw [c6]
          show _ = nI (D.1 ++ [c]).length
          rw [List.length_append, List.length_singleton]
        · rw [g1.2.2.1 3 (by omega)]
          exact d2
        · have hw2 : w < D.1.length + 1 := by
            have h9 : w < (D.1 ++ [c]).length := hw
            rw [List.length_append, List.length_singleton] at h9
            exact h9
          show L1 (m + 3) (6 + w) = hmE27 ((D.1 ++ [c]).getD w ([], 0, 0, 0, 0)).1 ∧ I1 (m + 4) (6 + w) = nI ((D.1 ++ [c]).getD w ([], 0, 0, 0, 0)).2.1 ∧ I1 (m + 5) (6 + w) = nI ((D.1 ++ [c]).getD w ([], 0, 0, 0, 0)).2.2.1 ∧ I1 (m + 6) (6 + w) = ((D.1 ++ [c]).getD w ([], 0, 0, 0, 0)).2.2.2.1 ∧ I1 (m + 7) (6 + w) = nI ((D.1 ++ [c]).getD w ([], 0, 0, 0, 0)).2.2.2.2
          by_cases e9 : w = D.1.length
          · rw [e9, hm_getD_last]
            exact cr
          · have z := g1.2.2.2 (6 + w) (by omega)
            rw [hm_getD_app (by omega), l1.2.1 (6 + w) (by omega), z.1, z.2.1, z.2.2.1, z.2.2.2]
            exact d3 w (by omega)
        · rw [g1.2.1 20 (by omega) (by omega) (by omega) (by omega) (by omega) (by omega)]
          exact d4
        · rw [g1.1 (m + 8) (by omega) (by omega)]
          exact d5
        · rcases d6 with ⟨a1, a2, a3⟩ | ⟨cd, a1, a2, a3, a4, a5⟩
          · exact Or.inl ⟨a1, by rw [g1.1 (m + 9) (by omega) (by omega)]; exact a2, by rw [g1.2.1 19 (by omega) (by omega) (by omega) (by omega) (by omega) (by omega)]; exact a3⟩
          · exact Or.inr ⟨cd, a1, a2, a3, by rw [g1.1 (m + 9) (by omega) (by omega)]; exact a4, a5.kept (g1.2.1 19 (by omega) (by omega) (by omega) (by omega) (by omega) (by omega)) (g1.1 _ (by omega) (by omega))⟩
    by_cases h2 : hmIsW t wTakes = true
    · have e0 := trivial
      have ewCaller : hmB (hmIsW t wCaller) = 0 := by
        rw [hmB_0]
        cases q : hmIsW t wCaller with
        | false => rfl
        | true => exact absurd q h1
      have ewTakes : hmB (hmIsW t wTakes) = 1 := (hmB_1 _).mpr h2
      refine Ex_aload_n 49 (i := 0) dX9_readsAll_48 rfl rfl rfl ?_
      refine Ex_gI 52 (J m 6) dX9_readsAll_49 fX9_154 (xMs_0 hm) rfl rfl rfl ?_
      rw [s6]
      refine Ex_if_eq 55 121 dX9_readsAll_52 (by decide) rfl (fun c1 => absurd c1 (fun q => absurd ((nI_eq (b := 0) (by omega) (by omega)).mp q) (fun z => t0 ((hmTcd_0 hk4).mp z)))) (fun c1 => ?_)
      refine Ex_aload_n 56 (i := 0) dX9_readsAll_55 rfl rfl rfl ?_
      refine Ex_ldc2 59 (v := 43823259) dX9_readsAll_56 kX9_216 rfl ?_
      refine Ex_callV (M' := MX9_isWord) 62 [.long 43823259] (rest := []) dX9_readsAll_59 lX9_185 mX9_isWord rfl (xMs_0 hm) rfl (Nat.le_of_ble_eq_true rfl) (Nat.le_of_ble_eq_true rfl) rfl ?_
      refine mc_isWord hm hA (l := wCaller) (by decide +kernel) (by unfold hmWd; decide) ?_
      simp only [Option.toList, List.cons_append, List.nil_append]
      rw [ewCaller]
      refine Ex_if_eq 65 72 dX9_readsAll_62 (by decide) rfl (fun c2 => ?_) (fun c2 => absurd c2 (fun q => q (by decide)))
      refine Ex_aload_n 73 (i := 0) dX9_readsAll_72 rfl rfl rfl ?_
      refine Ex_ldc2 76 (v := 10656676) dX9_readsAll_73 kX9_224 rfl ?_
      refine Ex_callV (M' := MX9_isWord) 79 [.long 10656676] (rest := []) dX9_readsAll_76 lX9_185 mX9_isWord rfl (xMs_0 hm) rfl (Nat.le_of_ble_eq_true rfl) (Nat.le_of_ble_eq_true rfl) rfl ?_
      refine mc_isWord hm hA (l := wTakes) (by decide +kernel) (by unfold hmWd; decide) ?_
      simp only [Option.toList, List.cons_append, List.nil_append]
      rw [ewTakes]
      refine Ex_if_eq 82 89 dX9_readsAll_79 (by decide) rfl (fun c3 => absurd c3 (by decide)) (fun c3 => ?_)
      refine Ex_aload_n 83 (i := 0) dX9_readsAll_82 rfl rfl rfl ?_
      refine Ex_callV (M' := MX9_readsTakes) 86 [] (rest := []) dX9_readsAll_83 lX9_284 mX9_readsTakes rfl (xMs_0 hm) rfl (Nat.le_of_ble_eq_true rfl) (Nat.le_of_ble_eq_true rfl) rfl ?_
      refine mc_readsTakes hm hc hA t0 (D := D) (tk := D.2.1.isSome) d4 (fun hs => ?_) (fun hs F I1 L1 e f1 f2 g1 g2 g3 l1 k1 => ?_) (fun hs n t1 r1 I1 L1 e g1 g2 g3 c20 c3 l1 hA1 => ?_)
      · simp only [Option.toList, List.nil_append, List.cons_append]
        refine Ex_goto 111 dX9_readsAll_86 (by decide) ?_
        refine Ex_istore_n 112 (i := 1) (ls' := [some (.ref m), some (.int 0)]) dX9_readsAll_111 rfl (Nat.le_of_ble_eq_true rfl) rfl rfl rfl ?_
        refine Ex_iload_n 113 (i := 1) dX9_readsAll_112 rfl rfl rfl ?_
        refine Ex_if_ne 116 118 dX9_readsAll_113 (by decide) rfl (fun c4 => absurd c4 (fun q => q (by decide))) (fun c4 => ?_)
        refine Ex_iconst 117 (v := 0) dX9_readsAll_116 (by decide) rfl ?_
        refine Ex_iret dX9_readsAll_117 rfl (by decide) (Or.inl rfl) ?_
        have hfl := hmFl_lt (k := 3) (t := t) (by omega) (by omega) hA.pl
        exact hF (hmFl 3 t) _ LL (by rw [eR, hmOL_c, if_neg h1, if_pos h2, if_pos hs]; rfl) hfl.1 hfl.2 (gJ.tr hmVf.fl) gL (by rw [va_up_self, va_up_self])
      · simp only [Option.toList, List.nil_append, List.cons_append]
        refine Ex_goto 111 dX9_readsAll_86 (by decide) ?_
        refine Ex_istore_n 112 (i := 1) (ls' := [some (.ref m), some (.int 0)]) dX9_readsAll_111 rfl (Nat.le_of_ble_eq_true rfl) rfl rfl rfl ?_
        refine Ex_iload_n 113 (i := 1) dX9_readsAll_112 rfl rfl rfl ?_
        refine Ex_if_ne 116 118 dX9_readsAll_113 (by decide) rfl (fun c5 => absurd c5 (fun q => q (by decide))) (fun c5 => ?_)
        refine Ex_iconst 117 (v := 0) dX9_readsAll_116 (by decide) rfl ?_
        refine Ex_iret dX9_readsAll_117 rfl (by decide) (Or.inl rfl) ?_
        exact hF F I1 L1 (by rw [eR, hmOL_c, if_neg h1, if_pos h2, if_neg (by rw [hs]; decide), e]; rfl) f1 f2 (gJ.tr ⟨fun x p q => g1 x p (by omega), fun k a b c d e f g i => g2 k a b c d e i g, fun j p => g3 j (by omega), fun j _ => by rw [g1 (m + 4) (by omega) (by omega), g1 (m + 5) (by omega) (by omega), g1 (m + 6) (by omega) (by omega), g1 (m + 7) (by omega) (by omega)]; exact ⟨rfl, rfl, rfl, rfl⟩, by rw [g1 (m + 8) (by omega) (by omega)], by rw [g1 (m + 9) (by omega) (by omega)], fun i _ => by rw [g1 (m + 10) (by omega) (by omega)]⟩) (gL.tr (hmVl.nl l1)) k1
      · simp only [Option.toList, List.nil_append, List.cons_append]
        refine Ex_goto 111 dX9_readsAll_86 (by decide) ?_
        refine Ex_istore_n 112 (i := 1) (ls' := [some (.ref m), some (.int 1)]) dX9_readsAll_111 rfl (Nat.le_of_ble_eq_true rfl) rfl rfl rfl ?_
        refine Ex_iload_n 113 (i := 1) dX9_readsAll_112 rfl rfl rfl ?_
        refine Ex_if_ne 116 118 dX9_readsAll_113 (by decide) rfl (fun c6 => ?_) (fun c6 => absurd c6 (by decide))
        refine Ex_goto 48 dX9_readsAll_118 (by decide) ?_
        refine Ex_fgt (ls' := [some (.ref m), none]) (by simp [xsub]) ?_
        have eO : hmOL D (t :: r) = .inr ((D.1, some n, D.2.2), t1 :: r1) := by rw [hmOL_c, if_neg h1, if_pos h2, if_neg (by rw [hs]; decide), e]
        have hk2 := hmOL_inr eO hto hDk
        have hln : (t1 :: r1).length < (t :: r).length := hmOL_len eO
        have gT : hmVf m J I1 := ⟨fun x p q => g1 x p (by omega), fun k a b c d e f g i => g2 k a b c d e i g, fun j p => g3 j (by omega), fun j _ => by rw [g1 (m + 4) (by omega) (by omega), g1 (m + 5) (by omega) (by omega), g1 (m + 6) (by omega) (by omega), g1 (m + 7) (by omega) (by omega)]; exact ⟨rfl, rfl, rfl, rfl⟩, by rw [g1 (m + 8) (by omega) (by omega)], by rw [g1 (m + 9) (by omega) (by omega)], fun i _ => by rw [g1 (m + 10) (by omega) (by omega)]⟩
        refine ih t1 r1 (D.1, some n, D.2.2) I1 L1 (by omega) (by omega) (by rw [eR, eO]; rfl) hk2.1 (gJ.tr gT) (gL.tr (hmVl.nl l1)) ⟨?_, c3, fun w hw => ?_, c20, ?_, ?_⟩ hA1 hk2.2
        · rw [g3 2 (by omega)]
          exact d1
        · rw [l1.1 (m + 3) (by omega), g1 (m + 4) (by omega) (by omega), g1 (m + 5) (by omega) (by omega), g1 (m + 6) (by omega) (by omega), g1 (m + 7) (by omega) (by omega)]
          exact d3 w hw
        · rw [g1 (m + 8) (by omega) (by omega)]
          exact d5
        · have e19 := g2 19 (by omega) (by omega) (by omega) (by omega) (by omega) (by omega) (by omega)
          rcases d6 with ⟨a1, a2, a3⟩ | ⟨cd, a1, a2, a3, a4, a5⟩
          · exact Or.inl ⟨a1, by rw [g1 (m + 9) (by omega) (by omega)]; exact a2, by rw [e19]; exact a3⟩
          · exact Or.inr ⟨cd, a1, a2, a3, by rw [g1 (m + 9) (by omega) (by omega)]; exact a4, a5.kept e19 (g1 _ (by omega) (by omega))⟩
    by_cases h3 : hmIsW t wBelieves = true
    · rcases d6 with ⟨a1, a2, a3⟩ | ⟨cd, a1, a2, a3, a4, a5⟩
      · have e0 := trivial
        have ewCaller : hmB (hmIsW t wCaller) = 0 := by
          rw [hmB_0]
          cases q : hmIsW t wCaller with
          | false => rfl
          | true => exact absurd q h1
        have ewTakes : hmB (hmIsW t wTakes) = 0 := by
          rw [hmB_0]
          cases q : hmIsW t wTakes with
          | false => rfl
          | true => exact absurd q h2
        have ewBelieves : hmB (hmIsW t wBelieves) = 1 := (hmB_1 _).mpr h3
        refine Ex_aload_n 49 (i := 0) dX9_readsAll_48 rfl rfl rfl ?_
        refine Ex_gI 52 (J m 6) dX9_readsAll_49 fX9_154 (xMs_0 hm) rfl rfl rfl ?_
        rw [s6]
        refine Ex_if_eq 55 121 dX9_readsAll_52 (by decide) rfl (fun c1 => absurd c1 (fun q => absurd ((nI_eq (b := 0) (by omega) (by omega)).mp q) (fun z => t0 ((hmTcd_0 hk4).mp z)))) (fun c1 => ?_)
        refine Ex_aload_n 56 (i := 0) dX9_readsAll_55 rfl rfl rfl ?_
        refine Ex_ldc2 59 (v := 43823259) dX9_readsAll_56 kX9_216 rfl ?_
        refine Ex_callV (M' := MX9_isWord) 62 [.long 43823259] (rest := []) dX9_readsAll_59 lX9_185 mX9_isWord rfl (xMs_0 hm) rfl (Nat.le_of_ble_eq_true rfl) (Nat.le_of_ble_eq_true rfl) rfl ?_
        refine mc_isWord hm hA (l := wCaller) (by decide +kernel) (by unfold hmWd; decide) ?_
        simp only [Option.toList, List.cons_append, List.nil_append]
        rw [ewCaller]
        refine Ex_if_eq 65 72 dX9_readsAll_62 (by decide) rfl (fun c2 => ?_) (fun c2 => absurd c2 (fun q => q (by decide)))
        refine Ex_aload_n 73 (i := 0) dX9_readsAll_72 rfl rfl rfl ?_
        refine Ex_ldc2 76 (v := 10656676) dX9_readsAll_73 kX9_224 rfl ?_
        refine Ex_callV (M' := MX9_isWord) 79 [.long 10656676] (rest := []) dX9_readsAll_76 lX9_185 mX9_isWord rfl (xMs_0 hm) rfl (Nat.le_of_ble_eq_true rfl) (Nat.le_of_ble_eq_true rfl) rfl ?_
        refine mc_isWord hm hA (l := wTakes) (by decide +kernel) (by unfold hmWd; decide) ?_
        simp only [Option.toList, List.cons_append, List.nil_append]
        rw [ewTakes]
        refine Ex_if_eq 82 89 dX9_readsAll_79 (by decide) rfl (fun c3 => ?_) (fun c3 => absurd c3 (fun q => q (by decide)))
        refine Ex_aload_n 90 (i := 0) dX9_readsAll_89 rfl rfl rfl ?_
        refine Ex_ldc2 93 (v := 23034893311) dX9_readsAll_90 kX9_226 rfl ?_
        refine Ex_callV (M' := MX9_isWord) 96 [.long 23034893311] (rest := []) dX9_readsAll_93 lX9_185 mX9_isWord rfl (xMs_0 hm) rfl (Nat.le_of_ble_eq_true rfl) (Nat.le_of_ble_eq_true rfl) rfl ?_
        refine mc_isWord hm hA (l := wBelieves) (by decide +kernel) (by unfold hmWd; decide) ?_
        simp only [Option.toList, List.cons_append, List.nil_append]
        rw [ewBelieves]
        refine Ex_if_eq 99 106 dX9_readsAll_96 (by decide) rfl (fun c4 => absurd c4 (by decide)) (fun c4 => ?_)
        refine Ex_aload_n 100 (i := 0) dX9_readsAll_99 rfl rfl rfl ?_
        refine Ex_callV (M' := MX9_readsBelieves) 103 [] (rest := []) dX9_readsAll_100 lX9_287 mX9_readsBelieves rfl (xMs_0 hm) rfl (Nat.le_of_ble_eq_true rfl) (Nat.le_of_ble_eq_true rfl) rfl ?_
        refine mc_readsBelieves hm hc hA t0 (by omega) d5 a2 a3 (fun F I1 L1 e f1 f2 g1 l1 k1 => ?_) (fun cd t1 r1 I1 L1 e g0 g1 c20 c8 c9 hcd l1 hA1 => ?_)
        · simp only [Option.toList, List.nil_append, List.cons_append]
          refine Ex_goto 111 dX9_readsAll_103 (by decide) ?_
          refine Ex_istore_n 112 (i := 1) (ls' := [some (.ref m), some (.int 0)]) dX9_readsAll_111 rfl (Nat.le_of_ble_eq_true rfl) rfl rfl rfl ?_
          refine Ex_iload_n 113 (i := 1) dX9_readsAll_112 rfl rfl rfl ?_
          refine Ex_if_ne 116 118 dX9_readsAll_113 (by decide) rfl (fun c5 => absurd c5 (fun q => q (by decide))) (fun c5 => ?_)
          refine Ex_iconst 117 (v := 0) dX9_readsAll_116 (by decide) rfl ?_
          refine Ex_iret dX9_readsAll_117 rfl (by decide) (Or.inl rfl) ?_
          exact hF F I1 L1 (by rw [eR, hmOL_c, if_neg h1, if_neg h2, if_pos h3, if_neg (by rw [a1]; decide), e]; rfl) f1 f2 (gJ.tr g1) (gL.tr (hmVl.nl l1)) k1
        · simp only [Option.toList, List.nil_append, List.cons_append]
          refine Ex_goto 111 dX9_readsAll_103 (by decide) ?_
          refine Ex_istore_n 112 (i := 1) (ls' := [some (.ref m), some (.int 1)]) dX9_readsAll_111 rfl (Nat.le_of_ble_eq_true rfl) rfl rfl rfl ?_
          refine Ex_iload_n 113 (i := 1) dX9_readsAll_112 rfl rfl rfl ?_
          refine Ex_if_ne 116 118 dX9_readsAll_113 (by decide) rfl (fun c6 => ?_) (fun c6 => absurd c6 (by decide))
          refine Ex_goto 48 dX9_readsAll_118 (by decide) ?_
          refine Ex_fgt (ls' := [some (.ref m), none]) (by simp [xsub]) ?_
          have eO : hmOL D (t :: r) = .inr ((D.1, D.2.1, some cd), t1 :: r1) := by rw [hmOL_c, if_neg h1, if_neg h2, if_pos h3, if_neg (by rw [a1]; decide), e]; rfl
          have hk2 := hmOL_inr eO hto hDk
          have hln : (t1 :: r1).length < (t :: r).length := hmOL_len eO
          have hli := hmLm_inr _ _ _ _ _ _ e
          have hcn : cd ≠ [] := fun q => by
            have h9 := hli.1
            rw [q] at h9
            simp at h9
          have h8 := hli.2.1
          have h7 : (t :: r).length = r.length + 1 := rfl
          rw [List.length_nil] at h8
          refine ih t1 r1 (D.1, D.2.1, some cd) I1 L1 (by omega) (by omega) (by rw [eR, eO]; rfl) hk2.1 (gJ.tr g1) (gL.tr (hmVl.nl l1)) ⟨?_, ?_, fun w hw => ?_, ?_, c8, Or.inr ⟨cd, rfl, hcn, by omega, c9, hcd⟩⟩ hA1 hk2.2
          · rw [g0 (m + 2) (by omega) (by omega) (by omega) (by omega) (by omega) (by omega)]
            exact d1
          · rw [g0 (m + 2) (by omega) (by omega) (by omega) (by omega) (by omega) (by omega)]
            exact d2
          · rw [l1.1 (m + 3) (by omega), g0 (m + 4) (by omega) (by omega) (by omega) (by omega) (by omega) (by omega), g0 (m + 5) (by omega) (by omega) (by omega) (by omega) (by omega) (by omega), g0 (m + 6) (by omega) (by omega) (by omega) (by omega) (by omega) (by omega), g0 (m + 7) (by omega) (by omega) (by omega) (by omega) (by omega) (by omega)]
            exact d3 w hw
          · rw [c20]
            exact d4
      · have e0 := trivial
        have ewCaller : hmB (hmIsW t wCaller) = 0 := by
          rw [hmB_0]
          cases q : hmIsW t wCaller with
          | false => rfl
          | true => exact absurd q h1
        have ewTakes : hmB (hmIsW t wTakes) = 0 := by
          rw [hmB_0]
          cases q : hmIsW t wTakes with
          | false => rfl
          | true => exact absurd q h2
        have ewBelieves : hmB (hmIsW t wBelieves) = 1 := (hmB_1 _).mpr h3
        refine Ex_aload_n 49 (i := 0) dX9_readsAll_48 rfl rfl rfl ?_
        refine Ex_gI 52 (J m 6) dX9_readsAll_49 fX9_154 (xMs_0 hm) rfl rfl rfl ?_
        rw [s6]
        refine Ex_if_eq 55 121 dX9_readsAll_52 (by decide) rfl (fun c1 => absurd c1 (fun q => absurd ((nI_eq (b := 0) (by omega) (by omega)).mp q) (fun z => t0 ((hmTcd_0 hk4).mp z)))) (fun c1 => ?_)
        refine Ex_aload_n 56 (i := 0) dX9_readsAll_55 rfl rfl rfl ?_
        refine Ex_ldc2 59 (v := 43823259) dX9_readsAll_56 kX9_216 rfl ?_
        refine Ex_callV (M' := MX9_isWord) 62 [.long 43823259] (rest := []) dX9_readsAll_59 lX9_185 mX9_isWord rfl (xMs_0 hm) rfl (Nat.le_of_ble_eq_true rfl) (Nat.le_of_ble_eq_true rfl) rfl ?_
        refine mc_isWord hm hA (l := wCaller) (by decide +kernel) (by unfold hmWd; decide) ?_
        simp only [Option.toList, List.cons_append, List.nil_append]
        rw [ewCaller]
        refine Ex_if_eq 65 72 dX9_readsAll_62 (by decide) rfl (fun c2 => ?_) (fun c2 => absurd c2 (fun q => q (by decide)))
        refine Ex_aload_n 73 (i := 0) dX9_readsAll_72 rfl rfl rfl ?_
        refine Ex_ldc2 76 (v := 10656676) dX9_readsAll_73 kX9_224 rfl ?_
        refine Ex_callV (M' := MX9_isWord) 79 [.long 10656676] (rest := []) dX9_readsAll_76 lX9_185 mX9_isWord rfl (xMs_0 hm) rfl (Nat.le_of_ble_eq_true rfl) (Nat.le_of_ble_eq_true rfl) rfl ?_
        refine mc_isWord hm hA (l := wTakes) (by decide +kernel) (by unfold hmWd; decide) ?_
        simp only [Option.toList, List.cons_append, List.nil_append]
        rw [ewTakes]
        refine Ex_if_eq 82 89 dX9_readsAll_79 (by decide) rfl (fun c3 => ?_) (fun c3 => absurd c3 (fun q => q (by decide)))
        refine Ex_aload_n 90 (i := 0) dX9_readsAll_89 rfl rfl rfl ?_
        refine Ex_ldc2 93 (v := 23034893311) dX9_readsAll_90 kX9_226 rfl ?_
        refine Ex_callV (M' := MX9_isWord) 96 [.long 23034893311] (rest := []) dX9_readsAll_93 lX9_185 mX9_isWord rfl (xMs_0 hm) rfl (Nat.le_of_ble_eq_true rfl) (Nat.le_of_ble_eq_true rfl) rfl ?_
        refine mc_isWord hm hA (l := wBelieves) (by decide +kernel) (by unfold hmWd; decide) ?_
        simp only [Option.toList, List.cons_append, List.nil_append]
        rw [ewBelieves]
        refine Ex_if_eq 99 106 dX9_readsAll_96 (by decide) rfl (fun c4 => absurd c4 (by decide)) (fun c4 => ?_)
        refine Ex_aload_n 100 (i := 0) dX9_readsAll_99 rfl rfl rfl ?_
        refine Ex_callV (M' := MX9_readsBelieves) 103 [] (rest := []) dX9_readsAll_100 lX9_287 mX9_readsBelieves rfl (xMs_0 hm) rfl (Nat.le_of_ble_eq_true rfl) (Nat.le_of_ble_eq_true rfl) rfl ?_
        refine mc_readsBelieves3 hm hc hA t0 (by omega) d5 (k := cd.length) (Nat.pos_of_ne_zero (fun q => a2 (List.length_eq_zero_iff.mp q))) a3 a4 ?_
        simp only [Option.toList, List.nil_append, List.cons_append]
        refine Ex_goto 111 dX9_readsAll_103 (by decide) ?_
        refine Ex_istore_n 112 (i := 1) (ls' := [some (.ref m), some (.int 0)]) dX9_readsAll_111 rfl (Nat.le_of_ble_eq_true rfl) rfl rfl rfl ?_
        refine Ex_iload_n 113 (i := 1) dX9_readsAll_112 rfl rfl rfl ?_
        refine Ex_if_ne 116 118 dX9_readsAll_113 (by decide) rfl (fun c5 => absurd c5 (fun q => q (by decide))) (fun c5 => ?_)
        refine Ex_iconst 117 (v := 0) dX9_readsAll_116 (by decide) rfl ?_
        refine Ex_iret dX9_readsAll_117 rfl (by decide) (Or.inl rfl) ?_
        have hfl := hmFl_lt (k := 3) (t := t) (by omega) (by omega) hA.pl
        exact hF (hmFl 3 t) _ LL (by rw [eR, hmOL_c, if_neg h1, if_neg h2, if_pos h3, if_pos (by rw [a1]; rfl)]; rfl) hfl.1 hfl.2 (gJ.tr hmVf.fl) gL (by rw [va_up_self, va_up_self])
    have ewCaller : hmB (hmIsW t wCaller) = 0 := by
      rw [hmB_0]
      cases q : hmIsW t wCaller with
      | false => rfl
      | true => exact absurd q h1
    have ewTakes : hmB (hmIsW t wTakes) = 0 := by
      rw [hmB_0]
      cases q : hmIsW t wTakes with
      | false => rfl
      | true => exact absurd q h2
    have ewBelieves : hmB (hmIsW t wBelieves) = 0 := by
      rw [hmB_0]
      cases q : hmIsW t wBelieves with
      | false => rfl
      | true => exact absurd q h3
    refine Ex_aload_n 49 (i := 0) dX9_readsAll_48 rfl rfl rfl ?_
    refine Ex_gI 52 (J m 6) dX9_readsAll_49 fX9_154 (xMs_0 hm) rfl rfl rfl ?_
    rw [s6]
    refine Ex_if_eq 55 121 dX9_readsAll_52 (by decide) rfl (fun c1 => absurd c1 (fun q => absurd ((nI_eq (b := 0) (by omega) (by omega)).mp q) (fun z => t0 ((hmTcd_0 hk4).mp z)))) (fun c1 => ?_)
    refine Ex_aload_n 56 (i := 0) dX9_readsAll_55 rfl rfl rfl ?_
    refine Ex_ldc2 59 (v := 43823259) dX9_readsAll_56 kX9_216 rfl ?_
    refine Ex_callV (M' := MX9_isWord) 62 [.long 43823259] (rest := []) dX9_readsAll_59 lX9_185 mX9_isWord rfl (xMs_0 hm) rfl (Nat.le_of_ble_eq_true rfl) (Nat.le_of_ble_eq_true rfl) rfl ?_
    refine mc_isWord hm hA (l := wCaller) (by decide +kernel) (by unfold hmWd; decide) ?_
    simp only [Option.toList, List.cons_append, List.nil_append]
    rw [ewCaller]
    refine Ex_if_eq 65 72 dX9_readsAll_62 (by decide) rfl (fun c2 => ?_) (fun c2 => absurd c2 (fun q => q (by decide)))
    refine Ex_aload_n 73 (i := 0) dX9_readsAll_72 rfl rfl rfl ?_
    refine Ex_ldc2 76 (v := 10656676) dX9_readsAll_73 kX9_224 rfl ?_
    refine Ex_callV (M' := MX9_isWord) 79 [.long 10656676] (rest := []) dX9_readsAll_76 lX9_185 mX9_isWord rfl (xMs_0 hm) rfl (Nat.le_of_ble_eq_true rfl) (Nat.le_of_ble_eq_true rfl) rfl ?_
    refine mc_isWord hm hA (l := wTakes) (by decide +kernel) (by unfold hmWd; decide) ?_
    simp only [Option.toList, List.cons_append, List.nil_append]
    rw [ewTakes]
    refine Ex_if_eq 82 89 dX9_readsAll_79 (by decide) rfl (fun c3 => ?_) (fun c3 => absurd c3 (fun q => q (by decide)))
    refine Ex_aload_n 90 (i := 0) dX9_readsAll_89 rfl rfl rfl ?_
    refine Ex_ldc2 93 (v := 23034893311) dX9_readsAll_90 kX9_226 rfl ?_
    refine Ex_callV (M' := MX9_isWord) 96 [.long 23034893311] (rest := []) dX9_readsAll_93 lX9_185 mX9_isWord rfl (xMs_0 hm) rfl (Nat.le_of_ble_eq_true rfl) (Nat.le_of_ble_eq_true rfl) rfl ?_
    refine mc_isWord hm hA (l := wBelieves) (by decide +kernel) (by unfold hmWd; decide) ?_
    simp only [Option.toList, List.cons_append, List.nil_append]
    rw [ewBelieves]
    refine Ex_if_eq 99 106 dX9_readsAll_96 (by decide) rfl (fun c4 => ?_) (fun c4 => absurd c4 (fun q => q (by decide)))
    refine Ex_aload_n 107 (i := 0) dX9_readsAll_106 rfl rfl rfl ?_
    refine Ex_iconst 108 (v := 1) dX9_readsAll_107 (by decide) rfl ?_
    refine Ex_callV (M' := MX9_fails) 111 [.int 1] (rest := []) dX9_readsAll_108 lX9_193 mX9_fails rfl (xMs_0 hm) rfl (Nat.le_of_ble_eq_true rfl) (Nat.le_of_ble_eq_true rfl) rfl ?_
    refine mc_fails (k := 1) hm hA ?_
    simp only [Option.toList, List.nil_append, List.cons_append]
    refine Ex_istore_n 112 (i := 1) (ls' := [some (.ref m), some (.int 0)]) dX9_readsAll_111 rfl (Nat.le_of_ble_eq_true rfl) rfl rfl rfl ?_
    refine Ex_iload_n 113 (i := 1) dX9_readsAll_112 rfl rfl rfl ?_
    refine Ex_if_ne 116 118 dX9_readsAll_113 (by decide) rfl (fun c5 => absurd c5 (fun q => q (by decide))) (fun c5 => ?_)
    refine Ex_iconst 117 (v := 0) dX9_readsAll_116 (by decide) rfl ?_
    refine Ex_iret dX9_readsAll_117 rfl (by decide) (Or.inl rfl) ?_
    have hfl := hmFl_lt (k := 1) (t := t) (by omega) (by omega) hA.pl
    exact hF (hmFl 1 t) _ LL (by rw [eR, hmOL_c, if_neg h1, if_neg h2, if_neg h3]; rfl) hfl.1 hfl.2 (gJ.tr hmVf.fl) gL (by rw [va_up_self, va_up_self])
