/-! memory laid out from an address on -/
def kW {β : Type} (V : Nat → β) (a : Nat) (t : List β) : Nat → β := fun x => if a ≤ x then (t[x - a]?).getD (V x) else V x
theorem kW_new {β : Type} {V : Nat → β} {a n : Nat} {t : List β} {v : β} (hn : n = a + t.length) : va_up (kW V a t) n v = kW V a (t ++ [v]) := by
  subst hn
  funext x
  simp only [va_up, kW]
  by_cases h : x = a + t.length
  · subst h
    simp
  · rw [if_neg h]
    by_cases h1 : a ≤ x
    · rw [if_pos h1, if_pos h1]
      by_cases h2 : x - a < t.length
      · rw [List.getElem?_append_left h2]
      · rw [List.getElem?_append_right (by omega), List.getElem?_eq_none (by omega), List.getElem?_eq_none (by simp; omega)]
    · rw [if_neg h1, if_neg h1]
theorem kW_one {β : Type} {V : Nat → β} {a : Nat} {v : β} : va_up V a v = kW V a [v] := by
  funext x
  simp only [va_up, kW]
  by_cases h : x = a
  · subst h
    simp
  · rw [if_neg h]
    by_cases h1 : a ≤ x
    · rw [if_pos h1, List.getElem?_eq_none (by simp; omega)]
      rfl
    · rw [if_neg h1]
theorem kW_set {β : Type} {V : Nat → β} {a j x : Nat} {t : List β} {v : β} (hx : x = a + j) (hj : j < t.length) : va_up (kW V a t) x v = kW V a (t.set j v) := by
  subst hx
  funext x
  simp only [va_up, kW]
  by_cases h : x = a + j
  · subst h
    rw [if_pos rfl, if_pos (by omega), show a + j - a = j by omega, List.getElem?_set_self hj]
    rfl
  · rw [if_neg h]
    by_cases h1 : a ≤ x
    · rw [if_pos h1, if_pos h1, List.getElem?_set_ne (by omega)]
    · rw [if_neg h1, if_neg h1]
theorem kW_at {β : Type} {V : Nat → β} {a x : Nat} {t : List β} {v : β} (j : Nat) (hx : x = a + j) (h : t[j]? = some v) : kW V a t x = v := by
  subst hx
  simp only [kW]
  rw [if_pos (by omega), show a + j - a = j by omega, h]
  rfl
theorem kW_out {β : Type} {V : Nat → β} {a x : Nat} {t : List β} (h : x < a ∨ a + t.length ≤ x) : kW V a t x = V x := by
  simp only [kW]
  by_cases h1 : a ≤ x
  · rw [if_pos h1, List.getElem?_eq_none (by omega)]
    rfl
  · rw [if_neg h1]
theorem kW_app {β : Type} {V : Nat → β} {a n : Nat} {t u : List β} (hn : n = a + t.length) : kW (kW V a t) n u = kW V a (t ++ u) := by
  subst hn
  funext x
  simp only [kW]
  by_cases h1 : a ≤ x
  · rw [if_pos h1, if_pos h1]
    by_cases h2 : a + t.length ≤ x
    · rw [if_pos h2, List.getElem?_append_right (by omega), show x - (a + t.length) = x - a - t.length by omega, List.getElem?_eq_none (l := t) (by omega)]
      rfl
    · rw [if_neg h2, List.getElem?_append_left (by omega)]
  · rw [if_neg h1, if_neg h1, if_neg (by omega)]
theorem kW_some {sh : xSh} {a n : Nat} {o : Nat ⊕ (FieldType × Nat)} {t : List (Option (Nat ⊕ (FieldType × Nat)))} (ht : ∀ v ∈ t, v ≠ none) (h0 : 0 < t.length) : ∀ x, kW sh a [some o] x ≠ none → kW sh a t x ≠ none := by
  intro x hx
  by_cases h : a ≤ x ∧ x < a + t.length
  · have h3 : x - a < t.length := by omega
    rw [kW_at (x - a) (by omega) (List.getElem?_eq_getElem h3)]
    exact ht _ (List.getElem_mem h3)
  · rw [kW_out (by omega)]
    rw [kW_out (by simp only [List.length_singleton]; omega)] at hx
    exact hx
section KX
variable {d kc ks n pc a : Nat} {M : xM} {sh : xSh} {R : xR} {L : xL} {I : xI} {ls : List (Option Value)} {st : List Value} {Q : xQ} {tS tS' : List (Option (Nat ⊕ (FieldType × Nat)))} {tR tR' : List (Nat → Option Nat)} {tL tL' : List (Nat → Int64)} {tI tI' : List (Nat → Int32)}
theorem kx_newa (pc' n' : Nat) {x : Int32} {t0 N' : Nat} {at' : ArrayType} {ty : FieldType} (hd : decode M.2.1 pc = .ok (.newarray at', 2)) (hty : newarray.typeOf at' = ty) (ha : Cond.arrayClass ty ∈ lw_good) (ht : ∀ cT, (xtys cT)[t0]? = some (cT ty, ty)) (hno : ∀ C, ty ≠ .object C) (hdf : ∀ cA, vp_cell cA (N', xar (fun _ _ => none) (fun _ _ => 0) (fun _ _ => 0) 0 ty) = arrV cA N' (fun _ => defaultValue ty)) (hx : x = nI N') (hN : N' < 1000000) (hb : N' * componentBytes ty ≤ 536870912) (hp : pc + 2 = pc') (hn0 : n ≠ 0) (hn' : n + 1 = n') (eS : n = a + tS.length) (eR : n = a + tR.length) (eL : n = a + tL.length) (eI : n = a + tI.length) (hS : tS ++ [some (.inr (ty, N'))] = tS') (hR : tR ++ [fun _ => none] = tR') (hL : tL ++ [fun _ => 0] = tL') (hI : tI ++ [fun _ => 0] = tI')
    (kk : Ex d kc ks M n' (kW sh a tS') (kW R a tR') (kW L a tL') (kW I a tI') pc' ls (.ref n :: st) Q) : Ex d (1 + kc) (N' + ks) M n (kW sh a tS) (kW R a tR) (kW L a tL) (kW I a tI) pc ls (.int x :: st) Q := by
  subst hn'
  refine Ex_newa pc' hn0 hd hty ha ht hno hdf hx hN hb hp ?_
  rw [kW_new eS, kW_new eR, kW_new eL, kW_new eI, hS, hR, hL, hI]
  exact kk
theorem kx_newq (pc' n' : Nat) {x : Int32} {i t0 N' : Nat} {Cn : String} (hd : decode M.2.1 pc = .ok (.anewarray i, 3)) (hl : Cond.classLink M.1.cls i Cn ∈ lw_good) (hCn : Cn = "HeldMusic$Hall" ∨ Cn = "HeldMusic$Mark") (ht : ∀ cT, (xtys cT)[t0]? = some (cT (.object Cn), .object Cn)) (hx : x = nI N') (hN : N' < 1000000) (hp : pc + 3 = pc') (hn0 : n ≠ 0) (hn' : n + 1 = n') (eS : n = a + tS.length) (eR : n = a + tR.length) (eL : n = a + tL.length) (eI : n = a + tI.length) (hS : tS ++ [some (.inr (.object Cn, N'))] = tS') (hR : tR ++ [fun _ => none] = tR') (hL : tL ++ [fun _ => 0] = tL') (hI : tI ++ [fun _ => 0] = tI')
    (kk : Ex d kc ks M n' (kW sh a tS') (kW R a tR') (kW L a tL') (kW I a tI') pc' ls (.ref n :: st) Q) : Ex d (1 + kc) (N' + ks) M n (kW sh a tS) (kW R a tR) (kW L a tL) (kW I a tI) pc ls (.int x :: st) Q := by
  subst hn'
  refine Ex_newq pc' hn0 hd hl hCn ht hx hN hp ?_
  rw [kW_new eS, kW_new eR, kW_new eL, kW_new eI, hS, hR, hL, hI]
  exact kk
/-- what a constructor lays out: its cells from n on -/
def kC (d kc1 ks1 : Nat) (M' : xM) (ci : Nat) (kS : List (Option (Nat ⊕ (FieldType × Nat)))) (kR : Nat → List (Nat → Option Nat)) (kL : List (Nat → Int64)) (kI : List (Nat → Int32)) : Prop :=
  ∀ (sh : xSh) (R : xR) (L : xL) (I : xI) (n n' : Nat) (Q : xQ), n' = n + kS.length → Q none n' (kW sh n kS) (kW R n (kR n)) (kW L n kL) (kW I n kI) → Ex d kc1 ks1 M' (n + 1) (kW sh n [some (.inl ci)]) (kW R n [fun _ => none]) (kW L n [fun _ => 0]) (kW I n [fun _ => 0]) 0 (xen [.ref n] M'.2.2.1) [] Q
/-- new; dup; invokespecial, of a nest mate's class -/
theorem kx_sub (pc' n' : Nat) {i j ci kc1 ks1 : Nat} {M' : xM} {host : String} {kS : List (Option (Nat ⊕ (FieldType × Nat)))} {kR : Nat → List (Nat → Option Nat)} {kL : List (Nat → Int64)} {kI : List (Nat → Int32)} (hC : kC d kc1 ks1 M' ci kS kR kL kI) (h0 : decode M.2.1 pc = .ok (.new i, 3)) (hci : ci < 10) (hin : ∀ w ∈ u_ws (xC ci).1 (xC ci).2.1 (xC ci).2.2, w ∈ lw_good) (hl0 : Cond.classLink M.1.cls i (xC ci).1 ∈ lw_good) (hi : Cond.instantiable (xC ci).1 (xC ci).2.2 ∈ lw_good) (hini : Cond.initialized (xC ci).1 ∈ lw_good) (hnf : ∀ k, k < (xC ci).2.2 → xty ci k ≠ .float ∧ xty ci k ≠ .double)
    (h3 : decode M.2.1 (pc + 3) = .ok (.dup, 1)) (h4 : decode M.2.1 (pc + 4) = .ok (.invokespecial j, 3)) (hl : Cond.methodLinkNest M.1.cls j M'.1 host ∈ x_nest) (hm : xMI M' 0) (hlen : (lg_sl [Value.ref n]).length ≤ M'.2.2.1) (hcat : ((Value.ref n :: st).map fun v => v.category).sum ≤ 8) (hp : pc + 7 = pc') (hso : ∀ v ∈ kS, v ≠ none) (hkl : 0 < kS.length)
    (hn0 : n ≠ 0) (hn' : n' = n + kS.length) (eS : n = a + tS.length) (eR : n = a + tR.length) (eL : n = a + tL.length) (eI : n = a + tI.length) (hS : tS ++ kS = tS') (hR : tR ++ kR n = tR') (hL : tL ++ kL = tL') (hI : tI ++ kI = tI')
    (kk : Ex (d + 1) kc ks M n' (kW sh a tS') (kW R a tR') (kW L a tL') (kW I a tI') pc' ls (.ref n :: st) Q) : Ex (d + 1) (1 + (kc1 + kc)) ((xC ci).2.2 + (ks1 + ks)) M n (kW sh a tS) (kW R a tR) (kW L a tL) (kW I a tI) pc ls st Q := by
  refine Ex_new (pc + 3) hn0 h0 hci hin hl0 hi hini hnf rfl ?_
  rw [kW_one, kW_one, kW_one, kW_one]
  refine Ex_dup (pc + 4) h3 rfl rfl ?_
  refine Ex_callN pc' [] (rest := .ref n :: st) (by omega) h4 hl hm rfl rfl hlen hcat (by omega) ?_
  refine hC _ _ _ _ n n' _ hn' ⟨kW_some (n := 0) hso hkl, ?_⟩
  rw [kW_app eS, kW_app eR, kW_app eL, kW_app eI, hS, hR, hL, hI]
  exact kk
end KX
theorem kz_i (N' : Nat) : ∀ cA, vp_cell cA (N', xar (fun _ _ => none) (fun _ _ => 0) (fun _ _ => 0) 0 .int) = arrV cA N' (fun _ => defaultValue .int) := fun _ => rfl
theorem kz_l (N' : Nat) : ∀ cA, vp_cell cA (N', xar (fun _ _ => none) (fun _ _ => 0) (fun _ _ => 0) 0 .long) = arrV cA N' (fun _ => defaultValue .long) := fun _ => rfl
theorem kz_b (N' : Nat) : ∀ cA, vp_cell cA (N', xar (fun _ _ => none) (fun _ _ => 0) (fun _ _ => 0) 0 .byte) = arrV cA N' (fun _ => defaultValue .byte) := fun _ => rfl
theorem kz_z (N' : Nat) : ∀ cA, vp_cell cA (N', xar (fun _ _ => none) (fun _ _ => 0) (fun _ _ => 0) 0 .boolean) = arrV cA N' (fun _ => defaultValue .boolean) := fun _ => rfl
theorem kn_i : ∀ C, FieldType.int ≠ .object C := fun C h => by cases h
theorem kn_l : ∀ C, FieldType.long ≠ .object C := fun C h => by cases h
theorem kn_b : ∀ C, FieldType.byte ≠ .object C := fun C h => by cases h
theorem kn_z : ∀ C, FieldType.boolean ≠ .object C := fun C h => by cases h
def kr1_1 (a : Nat) : Nat → Option Nat := va_up (fun _ => none) 0 (some (a + 1))
def kr1_2 (a : Nat) : Nat → Option Nat := va_up (kr1_1 a) 1 (some (a + 2))
def kr1_3 (a : Nat) : Nat → Option Nat := va_up (kr1_2 a) 2 (some (a + 3))
def kr1_4 (a : Nat) : Nat → Option Nat := va_up (kr1_3 a) 3 (some (a + 4))
def kS_1 : List (Option (Nat ⊕ (FieldType × Nat))) := [some (.inl 1), some (.inr (.int, 6)), some (.inr (.int, 6)), some (.inr (.int, 6)), some (.inr (.int, 36))]
def kR_1 (a : Nat) : List (Nat → Option Nat) := [(kr1_4 a), (fun _ => none), (fun _ => none), (fun _ => none), (fun _ => none)]
def kI_1 : List (Nat → Int32) := [(fun _ => 0), (fun _ => 0), (fun _ => 0), (fun _ => 0), (fun _ => 0)]
set_option maxHeartbeats 4000000 in
theorem kC_1 {d : Nat} : kC (d + 1) 4 54 MX1_init 1 [some (.inl 1), some (.inr (.int, 6)), some (.inr (.int, 6)), some (.inr (.int, 6)), some (.inr (.int, 36))] (fun a => [(kr1_4 a), (fun _ => none), (fun _ => none), (fun _ => none), (fun _ => none)]) (List.replicate 5 (fun _ => 0)) [(fun _ => 0), (fun _ => 0), (fun _ => 0), (fun _ => 0), (fun _ => 0)] := by
  intro sh R L I a n' Q hn' hQ
  subst hn'
  refine Ex_aload_n 1 (i := 0) dX1_init_0 rfl rfl rfl ?_
  refine Ex_objInit 4 dX1_init_1 lX1_3 xi_objm xi_objc (by decide) rfl ?_
  refine Ex_aload_n 5 (i := 0) dX1_init_4 rfl rfl rfl ?_
  refine Ex_bipush 7 (v := 6) dX1_init_5 (by decide) rfl ?_
  refine kx_newa 9 (a + 2) (t0 := 0) (N' := 6) (kc := 3) (ks := 48) dX1_init_7 rfl xa_int (fun _ => rfl) kn_i (kz_i 6) rfl (by decide) (by decide) rfl (by omega) rfl rfl rfl rfl rfl (tS' := [some (.inl 1), some (.inr (.int, 6))]) (tR' := [(fun _ => none), (fun _ => none)]) (tL' := (List.replicate 2 (fun _ => 0))) (tI' := [(fun _ => 0), (fun _ => 0)]) rfl rfl rfl rfl ?_
  refine Ex_pRF 12 (fun _ => none) (kW R a [(kr1_1 a), (fun _ => none)]) dX1_init_9 fX1_9 rfl rfl rfl (kW_at 0 rfl rfl) (fun _ => rfl) rfl rfl (kW_at 0 rfl rfl) (kW_set (j := 0) rfl (Nat.zero_lt_succ _)) rfl ?_
  refine Ex_aload_n 13 (i := 0) dX1_init_12 rfl rfl rfl ?_
  refine Ex_bipush 15 (v := 6) dX1_init_13 (by decide) rfl ?_
  refine kx_newa 17 (a + 3) (t0 := 0) (N' := 6) (kc := 2) (ks := 42) dX1_init_15 rfl xa_int (fun _ => rfl) kn_i (kz_i 6) rfl (by decide) (by decide) rfl (by omega) rfl rfl rfl rfl rfl (tS' := [some (.inl 1), some (.inr (.int, 6)), some (.inr (.int, 6))]) (tR' := [(kr1_1 a), (fun _ => none), (fun _ => none)]) (tL' := (List.replicate 3 (fun _ => 0))) (tI' := [(fun _ => 0), (fun _ => 0), (fun _ => 0)]) rfl rfl rfl rfl ?_
  refine Ex_pRF 20 (kr1_1 a) (kW R a [(kr1_2 a), (fun _ => none), (fun _ => none)]) dX1_init_17 fX1_15 rfl rfl rfl (kW_at 0 rfl rfl) (fun _ => rfl) rfl rfl (kW_at 0 rfl rfl) (kW_set (j := 0) rfl (Nat.zero_lt_succ _)) rfl ?_
  refine Ex_aload_n 21 (i := 0) dX1_init_20 rfl rfl rfl ?_
  refine Ex_bipush 23 (v := 6) dX1_init_21 (by decide) rfl ?_
  refine kx_newa 25 (a + 4) (t0 := 0) (N' := 6) (kc := 1) (ks := 36) dX1_init_23 rfl xa_int (fun _ => rfl) kn_i (kz_i 6) rfl (by decide) (by decide) rfl (by omega) rfl rfl rfl rfl rfl (tS' := [some (.inl 1), some (.inr (.int, 6)), some (.inr (.int, 6)), some (.inr (.int, 6))]) (tR' := [(kr1_2 a), (fun _ => none), (fun _ => none), (fun _ => none)]) (tL' := (List.replicate 4 (fun _ => 0))) (tI' := [(fun _ => 0), (fun _ => 0), (fun _ => 0), (fun _ => 0)]) rfl rfl rfl rfl ?_
  refine Ex_pRF 28 (kr1_2 a) (kW R a [(kr1_3 a), (fun _ => none), (fun _ => none), (fun _ => none)]) dX1_init_25 fX1_18 rfl rfl rfl (kW_at 0 rfl rfl) (fun _ => rfl) rfl rfl (kW_at 0 rfl rfl) (kW_set (j := 0) rfl (Nat.zero_lt_succ _)) rfl ?_
  refine Ex_aload_n 29 (i := 0) dX1_init_28 rfl rfl rfl ?_
  refine Ex_bipush 31 (v := 36) dX1_init_29 (by decide) rfl ?_
  refine kx_newa 33 (a + 5) (t0 := 0) (N' := 36) (kc := 0) (ks := 0) dX1_init_31 rfl xa_int (fun _ => rfl) kn_i (kz_i 36) rfl (by decide) (by decide) rfl (by omega) rfl rfl rfl rfl rfl (tS' := [some (.inl 1), some (.inr (.int, 6)), some (.inr (.int, 6)), some (.inr (.int, 6)), some (.inr (.int, 36))]) (tR' := [(kr1_3 a), (fun _ => none), (fun _ => none), (fun _ => none), (fun _ => none)]) (tL' := (List.replicate 5 (fun _ => 0))) (tI' := [(fun _ => 0), (fun _ => 0), (fun _ => 0), (fun _ => 0), (fun _ => 0)]) rfl rfl rfl rfl ?_
  refine Ex_pRF 36 (kr1_3 a) (kW R a [(kr1_4 a), (fun _ => none), (fun _ => none), (fun _ => none), (fun _ => none)]) dX1_init_33 fX1_21 rfl rfl rfl (kW_at 0 rfl rfl) (fun _ => rfl) rfl rfl (kW_at 0 rfl rfl) (kW_set (j := 0) rfl (Nat.zero_lt_succ _)) rfl ?_
  refine Ex_ret0 dX1_init_36 rfl (Or.inr rfl) ?_
  exact hQ
def kr2_1 (a : Nat) : Nat → Option Nat := va_up (fun _ => none) 0 (some (a + 1))
def kr2_2 (a : Nat) : Nat → Option Nat := va_up (kr2_1 a) 1 (some (a + 2))
def kS_2 : List (Option (Nat ⊕ (FieldType × Nat))) := [some (.inl 2), some (.inr (.int, 1000)), some (.inr (.int, 32))]
def kR_2 (a : Nat) : List (Nat → Option Nat) := [(kr2_2 a), (fun _ => none), (fun _ => none)]
def kI_2 : List (Nat → Int32) := [(fun _ => 0), (fun _ => 0), (fun _ => 0)]
set_option maxHeartbeats 4000000 in
theorem kC_2 {d : Nat} : kC (d + 1) 2 1032 MX2_init 2 [some (.inl 2), some (.inr (.int, 1000)), some (.inr (.int, 32))] (fun a => [(kr2_2 a), (fun _ => none), (fun _ => none)]) (List.replicate 3 (fun _ => 0)) [(fun _ => 0), (fun _ => 0), (fun _ => 0)] := by
  intro sh R L I a n' Q hn' hQ
  subst hn'
  refine Ex_aload_n 1 (i := 0) dX2_init_0 rfl rfl rfl ?_
  refine Ex_objInit 4 dX2_init_1 lX2_3 xi_objm xi_objc (by decide) rfl ?_
  refine Ex_aload_n 5 (i := 0) dX2_init_4 rfl rfl rfl ?_
  refine Ex_sipush 8 (v := 1000) dX2_init_5 (by decide) rfl ?_
  refine kx_newa 10 (a + 2) (t0 := 0) (N' := 1000) (kc := 1) (ks := 32) dX2_init_8 rfl xa_int (fun _ => rfl) kn_i (kz_i 1000) rfl (by decide) (by decide) rfl (by omega) rfl rfl rfl rfl rfl (tS' := [some (.inl 2), some (.inr (.int, 1000))]) (tR' := [(fun _ => none), (fun _ => none)]) (tL' := (List.replicate 2 (fun _ => 0))) (tI' := [(fun _ => 0), (fun _ => 0)]) rfl rfl rfl rfl ?_
  refine Ex_pRF 13 (fun _ => none) (kW R a [(kr2_1 a), (fun _ => none)]) dX2_init_10 fX2_9 rfl rfl rfl (kW_at 0 rfl rfl) (fun _ => rfl) rfl rfl (kW_at 0 rfl rfl) (kW_set (j := 0) rfl (Nat.zero_lt_succ _)) rfl ?_
  refine Ex_aload_n 14 (i := 0) dX2_init_13 rfl rfl rfl ?_
  refine Ex_bipush 16 (v := 32) dX2_init_14 (by decide) rfl ?_
  refine kx_newa 18 (a + 3) (t0 := 0) (N' := 32) (kc := 0) (ks := 0) dX2_init_16 rfl xa_int (fun _ => rfl) kn_i (kz_i 32) rfl (by decide) (by decide) rfl (by omega) rfl rfl rfl rfl rfl (tS' := [some (.inl 2), some (.inr (.int, 1000)), some (.inr (.int, 32))]) (tR' := [(kr2_1 a), (fun _ => none), (fun _ => none)]) (tL' := (List.replicate 3 (fun _ => 0))) (tI' := [(fun _ => 0), (fun _ => 0), (fun _ => 0)]) rfl rfl rfl rfl ?_
  refine Ex_pRF 21 (kr2_1 a) (kW R a [(kr2_2 a), (fun _ => none), (fun _ => none)]) dX2_init_18 fX2_15 rfl rfl rfl (kW_at 0 rfl rfl) (fun _ => rfl) rfl rfl (kW_at 0 rfl rfl) (kW_set (j := 0) rfl (Nat.zero_lt_succ _)) rfl ?_
  refine Ex_ret0 dX2_init_21 rfl (Or.inr rfl) ?_
  exact hQ
def kr4_1 (a : Nat) : Nat → Option Nat := va_up (fun _ => none) 0 (some (a + 1))
def kr4_2 (a : Nat) : Nat → Option Nat := va_up (kr4_1 a) 1 (some (a + 2))
def kr4_3 (a : Nat) : Nat → Option Nat := va_up (kr4_2 a) 2 (some (a + 3))
def kS_4 : List (Option (Nat ⊕ (FieldType × Nat))) := [some (.inl 4), some (.inr (.int, 40)), some (.inr (.int, 40)), some (.inr (.int, 40))]
def kR_4 (a : Nat) : List (Nat → Option Nat) := [(kr4_3 a), (fun _ => none), (fun _ => none), (fun _ => none)]
def kI_4 : List (Nat → Int32) := [(fun _ => 0), (fun _ => 0), (fun _ => 0), (fun _ => 0)]
set_option maxHeartbeats 4000000 in
theorem kC_4 {d : Nat} : kC (d + 1) 3 120 MX4_init 4 [some (.inl 4), some (.inr (.int, 40)), some (.inr (.int, 40)), some (.inr (.int, 40))] (fun a => [(kr4_3 a), (fun _ => none), (fun _ => none), (fun _ => none)]) (List.replicate 4 (fun _ => 0)) [(fun _ => 0), (fun _ => 0), (fun _ => 0), (fun _ => 0)] := by
  intro sh R L I a n' Q hn' hQ
  subst hn'
  refine Ex_aload_n 1 (i := 0) dX4_init_0 rfl rfl rfl ?_
  refine Ex_objInit 4 dX4_init_1 lX4_3 xi_objm xi_objc (by decide) rfl ?_
  refine Ex_aload_n 5 (i := 0) dX4_init_4 rfl rfl rfl ?_
  refine Ex_bipush 7 (v := 40) dX4_init_5 (by decide) rfl ?_
  refine kx_newa 9 (a + 2) (t0 := 0) (N' := 40) (kc := 2) (ks := 80) dX4_init_7 rfl xa_int (fun _ => rfl) kn_i (kz_i 40) rfl (by decide) (by decide) rfl (by omega) rfl rfl rfl rfl rfl (tS' := [some (.inl 4), some (.inr (.int, 40))]) (tR' := [(fun _ => none), (fun _ => none)]) (tL' := (List.replicate 2 (fun _ => 0))) (tI' := [(fun _ => 0), (fun _ => 0)]) rfl rfl rfl rfl ?_
  refine Ex_pRF 12 (fun _ => none) (kW R a [(kr4_1 a), (fun _ => none)]) dX4_init_9 fX4_9 rfl rfl rfl (kW_at 0 rfl rfl) (fun _ => rfl) rfl rfl (kW_at 0 rfl rfl) (kW_set (j := 0) rfl (Nat.zero_lt_succ _)) rfl ?_
  refine Ex_aload_n 13 (i := 0) dX4_init_12 rfl rfl rfl ?_
  refine Ex_bipush 15 (v := 40) dX4_init_13 (by decide) rfl ?_
  refine kx_newa 17 (a + 3) (t0 := 0) (N' := 40) (kc := 1) (ks := 40) dX4_init_15 rfl xa_int (fun _ => rfl) kn_i (kz_i 40) rfl (by decide) (by decide) rfl (by omega) rfl rfl rfl rfl rfl (tS' := [some (.inl 4), some (.inr (.int, 40)), some (.inr (.int, 40))]) (tR' := [(kr4_1 a), (fun _ => none), (fun _ => none)]) (tL' := (List.replicate 3 (fun _ => 0))) (tI' := [(fun _ => 0), (fun _ => 0), (fun _ => 0)]) rfl rfl rfl rfl ?_
  refine Ex_pRF 20 (kr4_1 a) (kW R a [(kr4_2 a), (fun _ => none), (fun _ => none)]) dX4_init_17 fX4_15 rfl rfl rfl (kW_at 0 rfl rfl) (fun _ => rfl) rfl rfl (kW_at 0 rfl rfl) (kW_set (j := 0) rfl (Nat.zero_lt_succ _)) rfl ?_
  refine Ex_aload_n 21 (i := 0) dX4_init_20 rfl rfl rfl ?_
  refine Ex_bipush 23 (v := 40) dX4_init_21 (by decide) rfl ?_
  refine kx_newa 25 (a + 4) (t0 := 0) (N' := 40) (kc := 0) (ks := 0) dX4_init_23 rfl xa_int (fun _ => rfl) kn_i (kz_i 40) rfl (by decide) (by decide) rfl (by omega) rfl rfl rfl rfl rfl (tS' := [some (.inl 4), some (.inr (.int, 40)), some (.inr (.int, 40)), some (.inr (.int, 40))]) (tR' := [(kr4_2 a), (fun _ => none), (fun _ => none), (fun _ => none)]) (tL' := (List.replicate 4 (fun _ => 0))) (tI' := [(fun _ => 0), (fun _ => 0), (fun _ => 0), (fun _ => 0)]) rfl rfl rfl rfl ?_
  refine Ex_pRF 28 (kr4_2 a) (kW R a [(kr4_3 a), (fun _ => none), (fun _ => none), (fun _ => none)]) dX4_init_25 fX4_18 rfl rfl rfl (kW_at 0 rfl rfl) (fun _ => rfl) rfl rfl (kW_at 0 rfl rfl) (kW_set (j := 0) rfl (Nat.zero_lt_succ _)) rfl ?_
  refine Ex_ret0 dX4_init_28 rfl (Or.inr rfl) ?_
  exact hQ
def kr6_1 (a : Nat) : Nat → Option Nat := va_up (fun _ => none) 0 (some (a + 1))
def kr6_2 (a : Nat) : Nat → Option Nat := va_up (kr6_1 a) 1 (some (a + 2))
def kS_6 : List (Option (Nat ⊕ (FieldType × Nat))) := [some (.inl 6), some (.inr (.int, 6)), some (.inr (.int, 6))]
def kR_6 (a : Nat) : List (Nat → Option Nat) := [(kr6_2 a), (fun _ => none), (fun _ => none)]
def kI_6 : List (Nat → Int32) := [(fun _ => 0), (fun _ => 0), (fun _ => 0)]
set_option maxHeartbeats 4000000 in
theorem kC_6 {d : Nat} : kC (d + 1) 2 12 MX6_init 6 [some (.inl 6), some (.inr (.int, 6)), some (.inr (.int, 6))] (fun a => [(kr6_2 a), (fun _ => none), (fun _ => none)]) (List.replicate 3 (fun _ => 0)) [(fun _ => 0), (fun _ => 0), (fun _ => 0)] := by
  intro sh R L I a n' Q hn' hQ
  subst hn'
  refine Ex_aload_n 1 (i := 0) dX6_init_0 rfl rfl rfl ?_
  refine Ex_objInit 4 dX6_init_1 lX6_3 xi_objm xi_objc (by decide) rfl ?_
  refine Ex_aload_n 5 (i := 0) dX6_init_4 rfl rfl rfl ?_
  refine Ex_bipush 7 (v := 6) dX6_init_5 (by decide) rfl ?_
  refine kx_newa 9 (a + 2) (t0 := 0) (N' := 6) (kc := 1) (ks := 6) dX6_init_7 rfl xa_int (fun _ => rfl) kn_i (kz_i 6) rfl (by decide) (by decide) rfl (by omega) rfl rfl rfl rfl rfl (tS' := [some (.inl 6), some (.inr (.int, 6))]) (tR' := [(fun _ => none), (fun _ => none)]) (tL' := (List.replicate 2 (fun _ => 0))) (tI' := [(fun _ => 0), (fun _ => 0)]) rfl rfl rfl rfl ?_
  refine Ex_pRF 12 (fun _ => none) (kW R a [(kr6_1 a), (fun _ => none)]) dX6_init_9 fX6_9 rfl rfl rfl (kW_at 0 rfl rfl) (fun _ => rfl) rfl rfl (kW_at 0 rfl rfl) (kW_set (j := 0) rfl (Nat.zero_lt_succ _)) rfl ?_
  refine Ex_aload_n 13 (i := 0) dX6_init_12 rfl rfl rfl ?_
  refine Ex_bipush 15 (v := 6) dX6_init_13 (by decide) rfl ?_
  refine kx_newa 17 (a + 3) (t0 := 0) (N' := 6) (kc := 0) (ks := 0) dX6_init_15 rfl xa_int (fun _ => rfl) kn_i (kz_i 6) rfl (by decide) (by decide) rfl (by omega) rfl rfl rfl rfl rfl (tS' := [some (.inl 6), some (.inr (.int, 6)), some (.inr (.int, 6))]) (tR' := [(kr6_1 a), (fun _ => none), (fun _ => none)]) (tL' := (List.replicate 3 (fun _ => 0))) (tI' := [(fun _ => 0), (fun _ => 0), (fun _ => 0)]) rfl rfl rfl rfl ?_
  refine Ex_pRF 20 (kr6_1 a) (kW R a [(kr6_2 a), (fun _ => none), (fun _ => none)]) dX6_init_17 fX6_15 rfl rfl rfl (kW_at 0 rfl rfl) (fun _ => rfl) rfl rfl (kW_at 0 rfl rfl) (kW_set (j := 0) rfl (Nat.zero_lt_succ _)) rfl ?_
  refine Ex_ret0 dX6_init_20 rfl (Or.inr rfl) ?_
  exact hQ
def kr7_1 (a : Nat) : Nat → Option Nat := va_up (fun _ => none) 0 (some (a + 1))
def kS_7 : List (Option (Nat ⊕ (FieldType × Nat))) := [some (.inl 7), some (.inr (.byte, 1000))]
def kR_7 (a : Nat) : List (Nat → Option Nat) := [(kr7_1 a), (fun _ => none)]
def kI_7 : List (Nat → Int32) := [(fun _ => 0), (fun _ => 0)]
set_option maxHeartbeats 4000000 in
theorem kC_7 {d : Nat} : kC (d + 1) 1 1000 MX7_init 7 [some (.inl 7), some (.inr (.byte, 1000))] (fun a => [(kr7_1 a), (fun _ => none)]) (List.replicate 2 (fun _ => 0)) [(fun _ => 0), (fun _ => 0)] := by
  intro sh R L I a n' Q hn' hQ
  subst hn'
  refine Ex_aload_n 1 (i := 0) dX7_init_0 rfl rfl rfl ?_
  refine Ex_objInit 4 dX7_init_1 lX7_3 xi_objm xi_objc (by decide) rfl ?_
  refine Ex_aload_n 5 (i := 0) dX7_init_4 rfl rfl rfl ?_
  refine Ex_sipush 8 (v := 1000) dX7_init_5 (by decide) rfl ?_
  refine kx_newa 10 (a + 2) (t0 := 2) (N' := 1000) (kc := 0) (ks := 0) dX7_init_8 rfl xa_byte (fun _ => rfl) kn_b (kz_b 1000) rfl (by decide) (by decide) rfl (by omega) rfl rfl rfl rfl rfl (tS' := [some (.inl 7), some (.inr (.byte, 1000))]) (tR' := [(fun _ => none), (fun _ => none)]) (tL' := (List.replicate 2 (fun _ => 0))) (tI' := [(fun _ => 0), (fun _ => 0)]) rfl rfl rfl rfl ?_
  refine Ex_pRF 13 (fun _ => none) (kW R a [(kr7_1 a), (fun _ => none)]) dX7_init_10 fX7_9 rfl rfl rfl (kW_at 0 rfl rfl) (fun _ => rfl) rfl rfl (kW_at 0 rfl rfl) (kW_set (j := 0) rfl (Nat.zero_lt_succ _)) rfl ?_
  refine Ex_ret0 dX7_init_13 rfl (Or.inr rfl) ?_
  exact hQ
def kr0_1 (a : Nat) : Nat → Option Nat := va_up (fun _ => none) 0 (some (a + 1))
def kr0_2 (a : Nat) : Nat → Option Nat := va_up (kr0_1 a) 1 (some (a + 2))
def kr0_3 (a : Nat) : Nat → Option Nat := va_up (kr0_2 a) 2 (some (a + 3))
def kr0_4 (a : Nat) : Nat → Option Nat := va_up (kr0_3 a) 3 (some (a + 4))
def kr0_5 (a : Nat) : Nat → Option Nat := va_up (kr0_4 a) 4 (some (a + 5))
def kr0_6 (a : Nat) : Nat → Option Nat := va_up (kr0_5 a) 5 (some (a + 6))
def kS_0 : List (Option (Nat ⊕ (FieldType × Nat))) := [some (.inl 0), some (.inr (.long, 6)), some (.inr (.int, 6)), some (.inr (.int, 6)), some (.inr (.int, 6)), some (.inr (.int, 6)), some (.inl 2), some (.inr (.int, 1000)), some (.inr (.int, 32))]
def kR_0 (a : Nat) : List (Nat → Option Nat) := [(kr0_6 a), (fun _ => none), (fun _ => none), (fun _ => none), (fun _ => none), (fun _ => none), (kr2_2 (a + 6)), (fun _ => none), (fun _ => none)]
def kI_0 : List (Nat → Int32) := [(va_up (fun _ => 0) 7 5), (fun _ => 0), (fun _ => 0), (fun _ => 0), (fun _ => 0), (fun _ => 0), (fun _ => 0), (fun _ => 0), (fun _ => 0)]
set_option maxHeartbeats 4000000 in
theorem kC_0 {d : Nat} : kC (d + 2) 8 1065 MX0_init 0 [some (.inl 0), some (.inr (.long, 6)), some (.inr (.int, 6)), some (.inr (.int, 6)), some (.inr (.int, 6)), some (.inr (.int, 6)), some (.inl 2), some (.inr (.int, 1000)), some (.inr (.int, 32))] (fun a => [(kr0_6 a), (fun _ => none), (fun _ => none), (fun _ => none), (fun _ => none), (fun _ => none), (kr2_2 (a + 6)), (fun _ => none), (fun _ => none)]) (List.replicate 9 (fun _ => 0)) [(va_up (fun _ => 0) 7 5), (fun _ => 0), (fun _ => 0), (fun _ => 0), (fun _ => 0), (fun _ => 0), (fun _ => 0), (fun _ => 0), (fun _ => 0)] := by
  intro sh R L I a n' Q hn' hQ
  subst hn'
  refine Ex_aload_n 1 (i := 0) dX0_init_0 rfl rfl rfl ?_
  refine Ex_objInit 4 dX0_init_1 lX0_3 xi_objm xi_objc (by decide) rfl ?_
  refine Ex_aload_n 5 (i := 0) dX0_init_4 rfl rfl rfl ?_
  refine Ex_bipush 7 (v := 6) dX0_init_5 (by decide) rfl ?_
  refine kx_newa 9 (a + 2) (t0 := 1) (N' := 6) (kc := 7) (ks := 1059) dX0_init_7 rfl xa_long (fun _ => rfl) kn_l (kz_l 6) rfl (by decide) (by decide) rfl (by omega) rfl rfl rfl rfl rfl (tS' := [some (.inl 0), some (.inr (.long, 6))]) (tR' := [(fun _ => none), (fun _ => none)]) (tL' := (List.replicate 2 (fun _ => 0))) (tI' := [(fun _ => 0), (fun _ => 0)]) rfl rfl rfl rfl ?_
  refine Ex_pRF 12 (fun _ => none) (kW R a [(kr0_1 a), (fun _ => none)]) dX0_init_9 fX0_9 rfl rfl rfl (kW_at 0 rfl rfl) (fun _ => rfl) rfl rfl (kW_at 0 rfl rfl) (kW_set (j := 0) rfl (Nat.zero_lt_succ _)) rfl ?_
  refine Ex_aload_n 13 (i := 0) dX0_init_12 rfl rfl rfl ?_
  refine Ex_bipush 15 (v := 6) dX0_init_13 (by decide) rfl ?_
  refine kx_newa 17 (a + 3) (t0 := 0) (N' := 6) (kc := 6) (ks := 1053) dX0_init_15 rfl xa_int (fun _ => rfl) kn_i (kz_i 6) rfl (by decide) (by decide) rfl (by omega) rfl rfl rfl rfl rfl (tS' := [some (.inl 0), some (.inr (.long, 6)), some (.inr (.int, 6))]) (tR' := [(kr0_1 a), (fun _ => none), (fun _ => none)]) (tL' := (List.replicate 3 (fun _ => 0))) (tI' := [(fun _ => 0), (fun _ => 0), (fun _ => 0)]) rfl rfl rfl rfl ?_
  refine Ex_pRF 20 (kr0_1 a) (kW R a [(kr0_2 a), (fun _ => none), (fun _ => none)]) dX0_init_17 fX0_15 rfl rfl rfl (kW_at 0 rfl rfl) (fun _ => rfl) rfl rfl (kW_at 0 rfl rfl) (kW_set (j := 0) rfl (Nat.zero_lt_succ _)) rfl ?_
  refine Ex_aload_n 21 (i := 0) dX0_init_20 rfl rfl rfl ?_
  refine Ex_bipush 23 (v := 6) dX0_init_21 (by decide) rfl ?_
  refine kx_newa 25 (a + 4) (t0 := 0) (N' := 6) (kc := 5) (ks := 1047) dX0_init_23 rfl xa_int (fun _ => rfl) kn_i (kz_i 6) rfl (by decide) (by decide) rfl (by omega) rfl rfl rfl rfl rfl (tS' := [some (.inl 0), some (.inr (.long, 6)), some (.inr (.int, 6)), some (.inr (.int, 6))]) (tR' := [(kr0_2 a), (fun _ => none), (fun _ => none), (fun _ => none)]) (tL' := (List.replicate 4 (fun _ => 0))) (tI' := [(fun _ => 0), (fun _ => 0), (fun _ => 0), (fun _ => 0)]) rfl rfl rfl rfl ?_
  refine Ex_pRF 28 (kr0_2 a) (kW R a [(kr0_3 a), (fun _ => none), (fun _ => none), (fun _ => none)]) dX0_init_25 fX0_19 rfl rfl rfl (kW_at 0 rfl rfl) (fun _ => rfl) rfl rfl (kW_at 0 rfl rfl) (kW_set (j := 0) rfl (Nat.zero_lt_succ _)) rfl ?_
  refine Ex_aload_n 29 (i := 0) dX0_init_28 rfl rfl rfl ?_
  refine Ex_bipush 31 (v := 6) dX0_init_29 (by decide) rfl ?_
  refine kx_newa 33 (a + 5) (t0 := 0) (N' := 6) (kc := 4) (ks := 1041) dX0_init_31 rfl xa_int (fun _ => rfl) kn_i (kz_i 6) rfl (by decide) (by decide) rfl (by omega) rfl rfl rfl rfl rfl (tS' := [some (.inl 0), some (.inr (.long, 6)), some (.inr (.int, 6)), some (.inr (.int, 6)), some (.inr (.int, 6))]) (tR' := [(kr0_3 a), (fun _ => none), (fun _ => none), (fun _ => none), (fun _ => none)]) (tL' := (List.replicate 5 (fun _ => 0))) (tI' := [(fun _ => 0), (fun _ => 0), (fun _ => 0), (fun _ => 0), (fun _ => 0)]) rfl rfl rfl rfl ?_
  refine Ex_pRF 36 (kr0_3 a) (kW R a [(kr0_4 a), (fun _ => none), (fun _ => none), (fun _ => none), (fun _ => none)]) dX0_init_33 fX0_22 rfl rfl rfl (kW_at 0 rfl rfl) (fun _ => rfl) rfl rfl (kW_at 0 rfl rfl) (kW_set (j := 0) rfl (Nat.zero_lt_succ _)) rfl ?_
  refine Ex_aload_n 37 (i := 0) dX0_init_36 rfl rfl rfl ?_
  refine Ex_bipush 39 (v := 6) dX0_init_37 (by decide) rfl ?_
  refine kx_newa 41 (a + 6) (t0 := 0) (N' := 6) (kc := 3) (ks := 1035) dX0_init_39 rfl xa_int (fun _ => rfl) kn_i (kz_i 6) rfl (by decide) (by decide) rfl (by omega) rfl rfl rfl rfl rfl (tS' := [some (.inl 0), some (.inr (.long, 6)), some (.inr (.int, 6)), some (.inr (.int, 6)), some (.inr (.int, 6)), some (.inr (.int, 6))]) (tR' := [(kr0_4 a), (fun _ => none), (fun _ => none), (fun _ => none), (fun _ => none), (fun _ => none)]) (tL' := (List.replicate 6 (fun _ => 0))) (tI' := [(fun _ => 0), (fun _ => 0), (fun _ => 0), (fun _ => 0), (fun _ => 0), (fun _ => 0)]) rfl rfl rfl rfl ?_
  refine Ex_pRF 44 (kr0_4 a) (kW R a [(kr0_5 a), (fun _ => none), (fun _ => none), (fun _ => none), (fun _ => none), (fun _ => none)]) dX0_init_41 fX0_25 rfl rfl rfl (kW_at 0 rfl rfl) (fun _ => rfl) rfl rfl (kW_at 0 rfl rfl) (kW_set (j := 0) rfl (Nat.zero_lt_succ _)) rfl ?_
  refine Ex_aload_n 45 (i := 0) dX0_init_44 rfl rfl rfl ?_
  refine kx_sub 52 (a + 9) (kc := 0) (ks := 0) (kC_2 ) dX0_init_45 (by decide) xu_2 qX0_28 xn_2 xi_RX2 (by decide) dX0_init_48 dX0_init_49 nX0_30 mX2_init (Nat.le_of_ble_eq_true rfl) (Nat.le_of_ble_eq_true rfl) rfl (by decide) (by decide) (by omega) rfl rfl rfl rfl rfl (tS' := [some (.inl 0), some (.inr (.long, 6)), some (.inr (.int, 6)), some (.inr (.int, 6)), some (.inr (.int, 6)), some (.inr (.int, 6)), some (.inl 2), some (.inr (.int, 1000)), some (.inr (.int, 32))]) (tR' := [(kr0_5 a), (fun _ => none), (fun _ => none), (fun _ => none), (fun _ => none), (fun _ => none), (kr2_2 (a + 6)), (fun _ => none), (fun _ => none)]) (tL' := (List.replicate 9 (fun _ => 0))) (tI' := [(fun _ => 0), (fun _ => 0), (fun _ => 0), (fun _ => 0), (fun _ => 0), (fun _ => 0), (fun _ => 0), (fun _ => 0), (fun _ => 0)]) rfl rfl rfl rfl ?_
  refine Ex_pRF 55 (kr0_5 a) (kW R a [(kr0_6 a), (fun _ => none), (fun _ => none), (fun _ => none), (fun _ => none), (fun _ => none), (kr2_2 (a + 6)), (fun _ => none), (fun _ => none)]) dX0_init_52 fX0_31 rfl rfl rfl (kW_at 0 rfl rfl) (fun _ => rfl) rfl rfl (kW_at 0 rfl rfl) (kW_set (j := 0) rfl (Nat.zero_lt_succ _)) rfl ?_
  refine Ex_aload_n 56 (i := 0) dX0_init_55 rfl rfl rfl ?_
  refine Ex_iconst 57 (v := 5) dX0_init_56 (by decide) rfl ?_
  refine Ex_pI 60 (fun _ => 0) (kW I a [(va_up (fun _ => 0) 7 5), (fun _ => 0), (fun _ => 0), (fun _ => 0), (fun _ => 0), (fun _ => 0), (fun _ => 0), (fun _ => 0), (fun _ => 0)]) dX0_init_57 fX0_35 rfl (kW_at 0 rfl rfl) rfl (fun _ => rfl) (kW_at 0 rfl rfl) rfl (kW_set (j := 0) rfl (Nat.zero_lt_succ _)) rfl ?_
  refine Ex_ret0 dX0_init_60 rfl (Or.inr rfl) ?_
  exact hQ
def kr3_1 (a : Nat) : Nat → Option Nat := va_up (fun _ => none) 0 (some (a + 1))
def kr3_2 (a : Nat) : Nat → Option Nat := va_up (kr3_1 a) 1 (some (a + 6))
def kS_3 : List (Option (Nat ⊕ (FieldType × Nat))) := [some (.inl 3), some (.inl 1), some (.inr (.int, 6)), some (.inr (.int, 6)), some (.inr (.int, 6)), some (.inr (.int, 36)), some (.inl 4), some (.inr (.int, 40)), some (.inr (.int, 40)), some (.inr (.int, 40))]
def kR_3 (a : Nat) : List (Nat → Option Nat) := [(kr3_2 a), (kr1_4 (a + 1)), (fun _ => none), (fun _ => none), (fun _ => none), (fun _ => none), (kr4_3 (a + 6)), (fun _ => none), (fun _ => none), (fun _ => none)]
def kI_3 : List (Nat → Int32) := [(fun _ => 0), (fun _ => 0), (fun _ => 0), (fun _ => 0), (fun _ => 0), (fun _ => 0), (fun _ => 0), (fun _ => 0), (fun _ => 0), (fun _ => 0)]
set_option maxHeartbeats 4000000 in
theorem kC_3 {d : Nat} : kC (d + 2) 9 186 MX3_init 3 [some (.inl 3), some (.inl 1), some (.inr (.int, 6)), some (.inr (.int, 6)), some (.inr (.int, 6)), some (.inr (.int, 36)), some (.inl 4), some (.inr (.int, 40)), some (.inr (.int, 40)), some (.inr (.int, 40))] (fun a => [(kr3_2 a), (kr1_4 (a + 1)), (fun _ => none), (fun _ => none), (fun _ => none), (fun _ => none), (kr4_3 (a + 6)), (fun _ => none), (fun _ => none), (fun _ => none)]) (List.replicate 10 (fun _ => 0)) [(fun _ => 0), (fun _ => 0), (fun _ => 0), (fun _ => 0), (fun _ => 0), (fun _ => 0), (fun _ => 0), (fun _ => 0), (fun _ => 0), (fun _ => 0)] := by
  intro sh R L I a n' Q hn' hQ
  subst hn'
  refine Ex_aload_n 1 (i := 0) dX3_init_0 rfl rfl rfl ?_
  refine Ex_objInit 4 dX3_init_1 lX3_1 xi_objm xi_objc (by decide) rfl ?_
  refine Ex_aload_n 5 (i := 0) dX3_init_4 rfl rfl rfl ?_
  refine kx_sub 12 (a + 6) (kc := 4) (ks := 124) (kC_1 ) dX3_init_5 (by decide) xu_1 qX3_7 xn_1 xi_RX1 (by decide) dX3_init_8 dX3_init_9 nX3_9 mX1_init (Nat.le_of_ble_eq_true rfl) (Nat.le_of_ble_eq_true rfl) rfl (by decide) (by decide) (by omega) rfl rfl rfl rfl rfl (tS' := [some (.inl 3), some (.inl 1), some (.inr (.int, 6)), some (.inr (.int, 6)), some (.inr (.int, 6)), some (.inr (.int, 36))]) (tR' := [(fun _ => none), (kr1_4 (a + 1)), (fun _ => none), (fun _ => none), (fun _ => none), (fun _ => none)]) (tL' := (List.replicate 6 (fun _ => 0))) (tI' := [(fun _ => 0), (fun _ => 0), (fun _ => 0), (fun _ => 0), (fun _ => 0), (fun _ => 0)]) rfl rfl rfl rfl ?_
  refine Ex_pRF 15 (fun _ => none) (kW R a [(kr3_1 a), (kr1_4 (a + 1)), (fun _ => none), (fun _ => none), (fun _ => none), (fun _ => none)]) dX3_init_12 fX3_10 rfl rfl rfl (kW_at 0 rfl rfl) (fun _ => rfl) rfl rfl (kW_at 0 rfl rfl) (kW_set (j := 0) rfl (Nat.zero_lt_succ _)) rfl ?_
  refine Ex_aload_n 16 (i := 0) dX3_init_15 rfl rfl rfl ?_
  refine kx_sub 23 (a + 10) (kc := 0) (ks := 0) (kC_4 ) dX3_init_16 (by decide) xu_4 qX3_16 xn_4 xi_RX4 (by decide) dX3_init_19 dX3_init_20 nX3_18 mX4_init (Nat.le_of_ble_eq_true rfl) (Nat.le_of_ble_eq_true rfl) rfl (by decide) (by decide) (by omega) rfl rfl rfl rfl rfl (tS' := [some (.inl 3), some (.inl 1), some (.inr (.int, 6)), some (.inr (.int, 6)), some (.inr (.int, 6)), some (.inr (.int, 36)), some (.inl 4), some (.inr (.int, 40)), some (.inr (.int, 40)), some (.inr (.int, 40))]) (tR' := [(kr3_1 a), (kr1_4 (a + 1)), (fun _ => none), (fun _ => none), (fun _ => none), (fun _ => none), (kr4_3 (a + 6)), (fun _ => none), (fun _ => none), (fun _ => none)]) (tL' := (List.replicate 10 (fun _ => 0))) (tI' := [(fun _ => 0), (fun _ => 0), (fun _ => 0), (fun _ => 0), (fun _ => 0), (fun _ => 0), (fun _ => 0), (fun _ => 0), (fun _ => 0), (fun _ => 0)]) rfl rfl rfl rfl ?_
  refine Ex_pRF 26 (kr3_1 a) (kW R a [(kr3_2 a), (kr1_4 (a + 1)), (fun _ => none), (fun _ => none), (fun _ => none), (fun _ => none), (kr4_3 (a + 6)), (fun _ => none), (fun _ => none), (fun _ => none)]) dX3_init_23 fX3_19 rfl rfl rfl (kW_at 0 rfl rfl) (fun _ => rfl) rfl rfl (kW_at 0 rfl rfl) (kW_set (j := 0) rfl (Nat.zero_lt_succ _)) rfl ?_
  refine Ex_ret0 dX3_init_26 rfl (Or.inr rfl) ?_
  exact hQ
def kr5_1 (a : Nat) : Nat → Option Nat := va_up (fun _ => none) 0 (some (a + 1))
def kS_5 : List (Option (Nat ⊕ (FieldType × Nat))) := [some (.inl 5), some (.inl 7), some (.inr (.byte, 1000))]
def kR_5 (a : Nat) : List (Nat → Option Nat) := [(kr5_1 a), (kr7_1 (a + 1)), (fun _ => none)]
def kI_5 : List (Nat → Int32) := [(fun _ => 0), (fun _ => 0), (fun _ => 0)]
set_option maxHeartbeats 4000000 in
theorem kC_5 {d : Nat} : kC (d + 2) 2 1006 MX5_init 5 [some (.inl 5), some (.inl 7), some (.inr (.byte, 1000))] (fun a => [(kr5_1 a), (kr7_1 (a + 1)), (fun _ => none)]) (List.replicate 3 (fun _ => 0)) [(fun _ => 0), (fun _ => 0), (fun _ => 0)] := by
  intro sh R L I a n' Q hn' hQ
  subst hn'
  refine Ex_aload_n 1 (i := 0) dX5_init_0 rfl rfl rfl ?_
  refine Ex_objInit 4 dX5_init_1 lX5_3 xi_objm xi_objc (by decide) rfl ?_
  refine Ex_aload_n 5 (i := 0) dX5_init_4 rfl rfl rfl ?_
  refine kx_sub 12 (a + 3) (kc := 0) (ks := 0) (kC_7 ) dX5_init_5 (by decide) xu_7 qX5_9 xn_7 xi_RX7 (by decide) dX5_init_8 dX5_init_9 nX5_11 mX7_init (Nat.le_of_ble_eq_true rfl) (Nat.le_of_ble_eq_true rfl) rfl (by decide) (by decide) (by omega) rfl rfl rfl rfl rfl (tS' := [some (.inl 5), some (.inl 7), some (.inr (.byte, 1000))]) (tR' := [(fun _ => none), (kr7_1 (a + 1)), (fun _ => none)]) (tL' := (List.replicate 3 (fun _ => 0))) (tI' := [(fun _ => 0), (fun _ => 0), (fun _ => 0)]) rfl rfl rfl rfl ?_
  refine Ex_pRF 15 (fun _ => none) (kW R a [(kr5_1 a), (kr7_1 (a + 1)), (fun _ => none)]) dX5_init_12 fX5_12 rfl rfl rfl (kW_at 0 rfl rfl) (fun _ => rfl) rfl rfl (kW_at 0 rfl rfl) (kW_set (j := 0) rfl (Nat.zero_lt_succ _)) rfl ?_
  refine Ex_ret0 dX5_init_15 rfl (Or.inr rfl) ?_
  exact hQ
