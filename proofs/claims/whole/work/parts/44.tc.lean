theorem hmTb_up (t : hmTo) (w : Nat) (hw : w < 6) (b : Bool) : hmTb t ||| hmOne w = hmTb (va_up t w (some b)) := by
  apply hm_s6_eq (hm_s6_or (hmTb_s6 t) (hm_s6_one hw)) (hmTb_s6 _)
  intro c hc
  rw [hm_bit_or (hmTb_s6 t) hw hc, hmTb_bit t hc, hmTb_bit _ hc]
  by_cases e : c = w
  · subst e
    rw [va_up_self]
    simp
  · rw [va_up_ne _ _ e]
    have e2 : ¬ w = c := fun q => e q.symm
    simp [e2]
theorem hmTs_up1 (t : hmTo) (w : Nat) (hw : w < 6) : hmTs t ||| hmOne w = hmTs (va_up t w (some true)) := by
  apply hm_s6_eq (hm_s6_or (hmTs_s6 t) (hm_s6_one hw)) (hmTs_s6 _)
  intro c hc
  rw [hm_bit_or (hmTs_s6 t) hw hc, hmTs_bit t hc, hmTs_bit _ hc]
  by_cases e : c = w
  · subst e
    rw [va_up_self]
    simp
  · rw [va_up_ne _ _ e]
    have e2 : ¬ w = c := fun q => e q.symm
    simp [e2]
theorem hm_one_bit : ∀ w, w < 6 → ∀ c, c < 6 → hmBit (hmOne w) c = (w == c) := by decide +kernel
theorem hmTs_up0 (t : hmTo) (w : Nat) (hw : w < 6) : hmTs t &&& (hmOne w ^^^ -1) = hmTs (va_up t w (some false)) := by
  apply hm_s6_eq (hm_s6_and (hmTs_s6 t)) (hmTs_s6 _)
  intro c hc
  rw [hm_bit_diff (hmTs_s6 t) (hm_s6_one hw) hc, hmTs_bit t hc, hmTs_bit _ hc, hm_one_bit w hw c hc]
  by_cases e : c = w
  · subst e
    rw [va_up_self]
    simp
  · rw [va_up_ne _ _ e]
    have e2 : ¬ w = c := fun q => e q.symm
    simp [e2]
/-- of how many something is told -/
def hmTc (t : hmTo) : Nat → Int32
  | 0 => 0
  | n + 1 => hmTc t n + hmB (t n).isSome
theorem hm_cnt6 : ∀ k, k < 64 → hmCnt (nI k) = 0 + hmB (hmBit (nI k) 0) + hmB (hmBit (nI k) 1) + hmB (hmBit (nI k) 2) + hmB (hmBit (nI k) 3) + hmB (hmBit (nI k) 4) + hmB (hmBit (nI k) 5) := by decide +kernel
theorem hmTc_cnt (t : hmTo) : hmCnt (hmTb t) = hmTc t 6 := by
  have h1 : hmCnt (hmTb t) = 0 + hmB (hmBit (hmTb t) 0) + hmB (hmBit (hmTb t) 1) + hmB (hmBit (hmTb t) 2) + hmB (hmBit (hmTb t) 3) + hmB (hmBit (hmTb t) 4) + hmB (hmBit (hmTb t) 5) := by
    obtain ⟨k, hk, e⟩ := hmTb_s6 t
    rw [e]
    exact hm_cnt6 k hk
  rw [h1, hmTb_bit t (by omega), hmTb_bit t (by omega), hmTb_bit t (by omega), hmTb_bit t (by omega), hmTb_bit t (by omega), hmTb_bit t (by omega)]
  rfl
def spCount (O : hmO) (H : hmH) (t : hmTo) (ln np tp : Nat) (v : Int32) : Int32 :=
  if v = 0 then nI (hmN O) else if v = 1 then nI (hmTk O) else if v = 2 then nI (hmMin H) else if v = 3 then nI (hmLine H).length else if v = 4 then hmBits (hmLine H) else if v = 5 then hmSet H else if v = 6 then hmAll (hmHas H) (hmN O) else if v = 7 then hmTak H else if v = 8 then nI ln else if v = 9 then hmTc t 6 else if v = 10 then nI np else if v = 11 then nI tp else -1
theorem hm_12 {v : Int32} (h : hmCal 12 v = true) : v = 0 ∨ v = 1 ∨ v = 2 ∨ v = 3 ∨ v = 4 ∨ v = 5 ∨ v = 6 ∨ v = 7 ∨ v = 8 ∨ v = 9 ∨ v = 10 ∨ v = 11 := by
  obtain ⟨w, hw, rfl⟩ := hmCal_of h
  have key : ∀ w, w < 12 → (nI w = 0 ∨ nI w = 1 ∨ nI w = 2 ∨ nI w = 3 ∨ nI w = 4 ∨ nI w = 5 ∨ nI w = 6 ∨ nI w = 7 ∨ nI w = 8 ∨ nI w = 9 ∨ nI w = 10 ∨ nI w = 11) := by decide
  exact key w hw
theorem hm_12n {v : Int32} (h : hmCal 12 v = false) (k : Nat) (hk : k < 12) : ¬ v = nI k := by
  intro q
  subst q
  simp only [hmCal, decide_eq_false_iff_not] at h
  rw [nI_toInt (by omega)] at h
  omega
theorem spCount_no {O : hmO} {H : hmH} {t : hmTo} {ln np tp : Nat} {v : Int32} (h : hmCal 12 v = false) : spCount O H t ln np tp v = -1 := by
  unfold spCount
  rw [if_neg (show ¬ v = 0 from hm_12n h 0 (by omega)), if_neg (show ¬ v = 1 from hm_12n h 1 (by omega)), if_neg (show ¬ v = 2 from hm_12n h 2 (by omega)), if_neg (show ¬ v = 3 from hm_12n h 3 (by omega)), if_neg (show ¬ v = 4 from hm_12n h 4 (by omega)), if_neg (show ¬ v = 5 from hm_12n h 5 (by omega)), if_neg (show ¬ v = 6 from hm_12n h 6 (by omega)), if_neg (show ¬ v = 7 from hm_12n h 7 (by omega)), if_neg (show ¬ v = 8 from hm_12n h 8 (by omega)), if_neg (show ¬ v = 9 from hm_12n h 9 (by omega)), if_neg (show ¬ v = 10 from hm_12n h 10 (by omega)), if_neg (show ¬ v = 11 from hm_12n h 11 (by omega))]
set_option maxHeartbeats 4000000 in
theorem c_tell {d : Nat} {sh : xSh} {R : xR} {L : xL} {I : xI} {Q : xQ} {h dk dd pl pd : Nat} {O : hmO} {H : hmH} (hx : xHM sh R h dk dd pl pd) (hO : hmD I dk O) (ho : hmOok O) (hH : hmR I (h + 30) H) (hok : hmOk O H) {t : hmTo} (ht1 : I h 11 = hmTb t) (ht2 : I h 12 = hmTs t) {qv : Int32} {b : Bool} (hQ : ∀ I', (∀ x, x ≠ h → I' x = I x) → (∀ k, k ≠ 11 → k ≠ 12 → I' h k = I h k) → (hmCal (hmN O) qv = false → I' = I) → (hmCal (hmN O) qv = true → I' h 11 = hmTb (va_up t (hmIx qv) (some b)) ∧ I' h 12 = hmTs (va_up t (hmIx qv) (some b))) → Q (some (.int (hmB (hmCal (hmN O) qv)))) 0 sh R L I') : Ex (d + 1) 0 0 MX8_tell 0 sh R L I 0 [some (.ref h), some (.int qv), some (.int (hmB b)), none] [] Q := by
  cases b with
  | false =>
    obtain ⟨h6, hlen, hset, htak, hmin, hline, hhas, hheld, htalk⟩ := id hH
    obtain ⟨on, otk, ow, olen, olaw⟩ := id hO
    obtain ⟨o6, ot1, ot2, oo, oll, owf⟩ := id ho
    have hdd := xH_27 hx
    have hlN := hok.2.1
    refine Ex_aload_n 1 (i := 0) dX8_tell_0 rfl rfl rfl ?_
    refine Ex_iload_n 2 (i := 1) dX8_tell_1 rfl rfl rfl ?_
    refine Ex_callV (M' := MX8_isCaller) 5 [.int qv] (rest := []) dX8_tell_2 lX8_96 mX8_isCaller rfl (xH_0 hx) rfl (Nat.le_of_ble_eq_true rfl) (Nat.le_of_ble_eq_true rfl) rfl ?_
    refine c_isCaller hx hO ho hH hok ?_
    simp only [Option.toList, List.cons_append, List.nil_append]
    refine Ex_if_ne 8 10 dX8_tell_5 (by decide) rfl (fun c1 => ?_) (fun c1 => ?_)
    · have hct : hmCal (hmN O) qv = true := by
        cases hb : hmCal (hmN O) qv with
        | true => rfl
        | false => exact absurd ((hmB_0 _).mpr hb) c1
      obtain ⟨w, hw, rfl⟩ := hmCal_of hct
      have hix : hmIx (nI w) = w := hmIx_nI (by omega)
      refine Ex_iconst 11 (v := 1) dX8_tell_10 (by decide) rfl ?_
      refine Ex_iload_n 12 (i := 1) dX8_tell_11 rfl rfl rfl ?_
      refine Ex_ishl 13 dX8_tell_12 rfl ?_
      refine Ex_istore_n 14 (i := 3) (ls' := [some (.ref h), some (.int (nI w)), some (.int 0), some (.int (1 <<< ((nI w) &&& 31)))]) dX8_tell_13 rfl (Nat.le_of_ble_eq_true rfl) rfl rfl rfl ?_
      refine Ex_aload_n 15 (i := 0) dX8_tell_14 rfl rfl rfl ?_
      refine Ex_dup 16 dX8_tell_15 rfl rfl ?_
      refine Ex_gI 19 (I h 11) dX8_tell_16 fX8_238 (xH_0 hx) rfl rfl rfl ?_
      refine Ex_iload_n 20 (i := 3) dX8_tell_19 rfl rfl rfl ?_
      rw [ht1]
      refine Ex_ior 21 dX8_tell_20 rfl ?_
      refine Ex_pI 24 (I h) (va_up I h (va_up (I h) 11 ((hmTb t) ||| (1 <<< ((nI w) &&& 31))))) dX8_tell_21 fX8_238 rfl (xH_0 hx) rfl (fun _ => rfl) rfl rfl rfl rfl ?_
      refine Ex_aload_n 25 (i := 0) dX8_tell_24 rfl rfl rfl ?_
      refine Ex_iload_n 26 (i := 2) dX8_tell_25 rfl rfl rfl ?_
      refine Ex_if_eq 29 38 dX8_tell_26 (by decide) rfl (fun c2 => ?_) (fun c2 => absurd c2 (fun q => q (by decide)))
      refine Ex_aload_n 39 (i := 0) dX8_tell_38 rfl rfl rfl ?_
      refine Ex_gI 42 (I h 12) dX8_tell_39 fX8_241 (xH_0 hx) rfl (congrFun (va_up_self _ _ _) _) rfl ?_
      rw [ht2]
      refine Ex_iload_n 43 (i := 3) dX8_tell_42 rfl rfl rfl ?_
      refine Ex_iconst 44 (v := (-1)) dX8_tell_43 (by decide) rfl ?_
      refine Ex_ixor 45 dX8_tell_44 rfl ?_
      refine Ex_iand 46 dX8_tell_45 rfl ?_
      refine Ex_pI 49 (va_up (I h) 11 ((hmTb t) ||| (1 <<< ((nI w) &&& 31)))) (va_up I h (va_up (va_up (I h) 11 ((hmTb t) ||| (1 <<< ((nI w) &&& 31)))) 12 ((hmTs t) &&& ((1 <<< ((nI w) &&& 31)) ^^^ (-1))))) dX8_tell_46 fX8_241 rfl (xH_0 hx) rfl (fun _ => rfl) (va_up_self _ _ _) rfl (va_up_up _ _ _ _) rfl ?_
      refine Ex_iconst 50 (v := 1) dX8_tell_49 (by decide) rfl ?_
      refine Ex_iret dX8_tell_50 rfl (by decide) (Or.inl rfl) ?_
      rw [hct] at hQ
      refine hQ _ (fun x hx => va_up_ne _ _ hx) (fun k h1 h2 => by rw [va_up_self, va_up_ne _ _ h2, va_up_ne _ _ h1]) (fun q => absurd q (by decide)) (fun _ => ?_)
      rw [hix, va_up_self]
      refine ⟨?_, ?_⟩
      · rw [va_up_ne _ _ (by omega), va_up_self]
        exact hmTb_up t w (by omega) _
      · rw [va_up_self]
        exact hmTs_up0 t w (by omega)
    · refine Ex_iconst 9 (v := 0) dX8_tell_8 (by decide) rfl ?_
      refine Ex_iret dX8_tell_9 rfl (by decide) (Or.inl rfl) ?_
      have hcf := hmB_eq c1
      rw [hcf] at hQ
      exact hQ I (fun _ _ => rfl) (fun _ _ _ => rfl) (fun _ => rfl) (fun q => absurd q (by decide))
  | true =>
    obtain ⟨h6, hlen, hset, htak, hmin, hline, hhas, hheld, htalk⟩ := id hH
    obtain ⟨on, otk, ow, olen, olaw⟩ := id hO
    obtain ⟨o6, ot1, ot2, oo, oll, owf⟩ := id ho
    have hdd := xH_27 hx
    have hlN := hok.2.1
    refine Ex_aload_n 1 (i := 0) dX8_tell_0 rfl rfl rfl ?_
    refine Ex_iload_n 2 (i := 1) dX8_tell_1 rfl rfl rfl ?_
    refine Ex_callV (M' := MX8_isCaller) 5 [.int qv] (rest := []) dX8_tell_2 lX8_96 mX8_isCaller rfl (xH_0 hx) rfl (Nat.le_of_ble_eq_true rfl) (Nat.le_of_ble_eq_true rfl) rfl ?_
    refine c_isCaller hx hO ho hH hok ?_
    simp only [Option.toList, List.cons_append, List.nil_append]
    refine Ex_if_ne 8 10 dX8_tell_5 (by decide) rfl (fun c1 => ?_) (fun c1 => ?_)
    · have hct : hmCal (hmN O) qv = true := by
        cases hb : hmCal (hmN O) qv with
        | true => rfl
        | false => exact absurd ((hmB_0 _).mpr hb) c1
      obtain ⟨w, hw, rfl⟩ := hmCal_of hct
      have hix : hmIx (nI w) = w := hmIx_nI (by omega)
      refine Ex_iconst 11 (v := 1) dX8_tell_10 (by decide) rfl ?_
      refine Ex_iload_n 12 (i := 1) dX8_tell_11 rfl rfl rfl ?_
      refine Ex_ishl 13 dX8_tell_12 rfl ?_
      refine Ex_istore_n 14 (i := 3) (ls' := [some (.ref h), some (.int (nI w)), some (.int 1), some (.int (1 <<< ((nI w) &&& 31)))]) dX8_tell_13 rfl (Nat.le_of_ble_eq_true rfl) rfl rfl rfl ?_
      refine Ex_aload_n 15 (i := 0) dX8_tell_14 rfl rfl rfl ?_
      refine Ex_dup 16 dX8_tell_15 rfl rfl ?_
      refine Ex_gI 19 (I h 11) dX8_tell_16 fX8_238 (xH_0 hx) rfl rfl rfl ?_
      refine Ex_iload_n 20 (i := 3) dX8_tell_19 rfl rfl rfl ?_
      rw [ht1]
      refine Ex_ior 21 dX8_tell_20 rfl ?_
      refine Ex_pI 24 (I h) (va_up I h (va_up (I h) 11 ((hmTb t) ||| (1 <<< ((nI w) &&& 31))))) dX8_tell_21 fX8_238 rfl (xH_0 hx) rfl (fun _ => rfl) rfl rfl rfl rfl ?_
      refine Ex_aload_n 25 (i := 0) dX8_tell_24 rfl rfl rfl ?_
      refine Ex_iload_n 26 (i := 2) dX8_tell_25 rfl rfl rfl ?_
      refine Ex_if_eq 29 38 dX8_tell_26 (by decide) rfl (fun c2 => absurd c2 (by decide)) (fun c2 => ?_)
      refine Ex_aload_n 30 (i := 0) dX8_tell_29 rfl rfl rfl ?_
      refine Ex_gI 33 (I h 12) dX8_tell_30 fX8_241 (xH_0 hx) rfl (congrFun (va_up_self _ _ _) _) rfl ?_
      rw [ht2]
      refine Ex_iload_n 34 (i := 3) dX8_tell_33 rfl rfl rfl ?_
      refine Ex_ior 35 dX8_tell_34 rfl ?_
      refine Ex_goto 46 dX8_tell_35 (by decide) ?_
      refine Ex_pI 49 (va_up (I h) 11 ((hmTb t) ||| (1 <<< ((nI w) &&& 31)))) (va_up I h (va_up (va_up (I h) 11 ((hmTb t) ||| (1 <<< ((nI w) &&& 31)))) 12 ((hmTs t) ||| (1 <<< ((nI w) &&& 31))))) dX8_tell_46 fX8_241 rfl (xH_0 hx) rfl (fun _ => rfl) (va_up_self _ _ _) rfl (va_up_up _ _ _ _) rfl ?_
      refine Ex_iconst 50 (v := 1) dX8_tell_49 (by decide) rfl ?_
      refine Ex_iret dX8_tell_50 rfl (by decide) (Or.inl rfl) ?_
      rw [hct] at hQ
      refine hQ _ (fun x hx => va_up_ne _ _ hx) (fun k h1 h2 => by rw [va_up_self, va_up_ne _ _ h2, va_up_ne _ _ h1]) (fun q => absurd q (by decide)) (fun _ => ?_)
      rw [hix, va_up_self]
      refine ⟨?_, ?_⟩
      · rw [va_up_ne _ _ (by omega), va_up_self]
        exact hmTb_up t w (by omega) _
      · rw [va_up_self]
        exact hmTs_up1 t w (by omega)
    · refine Ex_iconst 9 (v := 0) dX8_tell_8 (by decide) rfl ?_
      refine Ex_iret dX8_tell_9 rfl (by decide) (Or.inl rfl) ?_
      have hcf := hmB_eq c1
      rw [hcf] at hQ
      exact hQ I (fun _ _ => rfl) (fun _ _ _ => rfl) (fun _ => rfl) (fun q => absurd q (by decide))
set_option maxHeartbeats 4000000 in
theorem mq_tell {d : Nat} {sh : xSh} {R : xR} {L : xL} {I : xI} {Q : xQ} {m : Nat} {H : hmH} {O : hmO} (hm : xModel sh R m) (hS : hmMr (I (m + 28)) H) (hO : hmMo I m O) (ho : hmOok O) (hok : hmOk O H) {t : hmTo} (hT : hmTa (I (m + 27)) 0 t) {qv : Int32} {b : Bool} (hQ : ∀ I', (∀ x, x ≠ m → x ≠ m + 27 → I' x = I x) → I' m = hmTh I m m → (∀ j, 6 ≤ j → I' (m + 27) j = I (m + 27) j) → hmTa (I' (m + 27)) 0 (if hmCal (hmN O) qv = true then va_up t (hmIx qv) (some b) else t) → Q (some (.int (hmB (hmCal (hmN O) qv)))) 0 sh R L I') : Ex (d + 1) 0 0 MX9_tell 0 sh R L I 0 [some (.ref m), some (.int qv), some (.int (hmB b))] [] Q := by
  cases b with
  | false =>
    obtain ⟨s6, smin, slen, sset, stak, sline, sheld, shas, stalk⟩ := id hS
    obtain ⟨o6, ot1, ot2, oo, oll, owf⟩ := id ho
    obtain ⟨on, otk, ow, cd, cfrom, cto, clen, ccd, csem⟩ := id hO
    have hlN := hok.2.1
    refine Ex_aload_n 1 (i := 0) dX9_tell_0 rfl rfl rfl ?_
    refine Ex_iconst 2 (v := 0) dX9_tell_1 (by decide) rfl ?_
    refine Ex_pI 5 (I m) (va_up I m (va_up (I m) 0 0)) dX9_tell_2 fX9_130 rfl (xMs_0 hm) rfl (fun _ => rfl) rfl rfl rfl rfl ?_
    refine Ex_aload_n 6 (i := 0) dX9_tell_5 rfl rfl rfl ?_
    refine Ex_iload_n 7 (i := 1) dX9_tell_6 rfl rfl rfl ?_
    refine Ex_callV (M' := MX9_isCaller) 10 [.int qv] (rest := []) dX9_tell_7 lX9_347 mX9_isCaller rfl (xMs_0 hm) rfl (Nat.le_of_ble_eq_true rfl) (Nat.le_of_ble_eq_true rfl) rfl ?_
    refine mc_isCaller hm (show va_up I m (va_up (I m) 0 0) (m + 2) 0 = nI (hmN O) by rw [va_up_ne _ _ (by omega)]; exact on) o6 ?_
    simp only [Option.toList, List.cons_append, List.nil_append]
    refine Ex_if_ne 13 15 dX9_tell_10 (by decide) rfl (fun c1 => ?_) (fun c1 => ?_)
    · have hct := hmB_ne c1
      obtain ⟨w, hw, rfl⟩ := hmCal_of hct
      have hix : hmIx (nI w) = w := hmIx_nI (by omega)
      refine Ex_aload_n 16 (i := 0) dX9_tell_15 rfl rfl rfl ?_
      refine Ex_getR 19 dX9_tell_16 fX9_90 (xMs_0 hm) rfl (xMr_38 hm) rfl ?_
      refine Ex_iload_n 20 (i := 1) dX9_tell_19 rfl rfl rfl ?_
      refine Ex_iload_n 21 (i := 2) dX9_tell_20 rfl rfl rfl ?_
      refine Ex_if_eq 24 28 dX9_tell_21 (by decide) rfl (fun c2 => ?_) (fun c2 => absurd c2 (fun q => q (by decide)))
      refine Ex_iconst 29 (v := 0) dX9_tell_28 (by decide) rfl ?_
      refine Ex_sI 30 w (I (m + 27)) (va_up (va_up I m (va_up (I m) 0 0)) (m + 27) (va_up (I (m + 27)) w 0)) dX9_tell_29 (xMs_27 hm) rfl (by omega) (by decide) (va_up_ne _ _ (by omega)) rfl rfl ?_
      refine Ex_iconst 31 (v := 1) dX9_tell_30 (by decide) rfl ?_
      refine Ex_iret dX9_tell_31 rfl (by decide) (Or.inl rfl) ?_
      rw [hct] at hQ
      refine hQ _ (fun x h1 h2 => by rw [va_up_ne _ _ h2, va_up_ne _ _ h1]) (by rw [va_up_ne _ _ (by omega)]; rfl) (fun j hj => by rw [va_up_self, va_up_ne _ _ (by omega)]) ?_
      rw [if_pos rfl, hix, va_up_self]
      intro c hc
      have h1 := hT c hc
      rw [Nat.mul_zero, Nat.zero_add] at h1 ⊢
      by_cases e : c = w
      · subst e
        rw [va_up_self, va_up_self]
        rfl
      · rw [va_up_ne _ _ e, va_up_ne _ _ e]
        exact h1
    · refine Ex_iconst 14 (v := 0) dX9_tell_13 (by decide) rfl ?_
      refine Ex_iret dX9_tell_14 rfl (by decide) (Or.inl rfl) ?_
      have hcf := hmB_eq c1
      rw [hcf] at hQ
      exact hQ _ (fun x h1 _ => va_up_ne _ _ h1) rfl (fun j _ => by rw [va_up_ne _ _ (by omega)]) (by rw [va_up_ne _ _ (by omega)]; exact hT)
  | true =>
    obtain ⟨s6, smin, slen, sset, stak, sline, sheld, shas, stalk⟩ := id hS
    obtain ⟨o6, ot1, ot2, oo, oll, owf⟩ := id ho
    obtain ⟨on, otk, ow, cd, cfrom, cto, clen, ccd, csem⟩ := id hO
    have hlN := hok.2.1
    refine Ex_aload_n 1 (i := 0) dX9_tell_0 rfl rfl rfl ?_
    refine Ex_iconst 2 (v := 0) dX9_tell_1 (by decide) rfl ?_
    refine Ex_pI 5 (I m) (va_up I m (va_up (I m) 0 0)) dX9_tell_2 fX9_130 rfl (xMs_0 hm) rfl (fun _ => rfl) rfl rfl rfl rfl ?_
    refine Ex_aload_n 6 (i := 0) dX9_tell_5 rfl rfl rfl ?_
    refine Ex_iload_n 7 (i := 1) dX9_tell_6 rfl rfl rfl ?_
    refine Ex_callV (M' := MX9_isCaller) 10 [.int qv] (rest := []) dX9_tell_7 lX9_347 mX9_isCaller rfl (xMs_0 hm) rfl (Nat.le_of_ble_eq_true rfl) (Nat.le_of_ble_eq_true rfl) rfl ?_
    refine mc_isCaller hm (show va_up I m (va_up (I m) 0 0) (m + 2) 0 = nI (hmN O) by rw [va_up_ne _ _ (by omega)]; exact on) o6 ?_
    simp only [Option.toList, List.cons_append, List.nil_append]
    refine Ex_if_ne 13 15 dX9_tell_10 (by decide) rfl (fun c1 => ?_) (fun c1 => ?_)
    · have hct := hmB_ne c1
      obtain ⟨w, hw, rfl⟩ := hmCal_of hct
      have hix : hmIx (nI w) = w := hmIx_nI (by omega)
      refine Ex_aload_n 16 (i := 0) dX9_tell_15 rfl rfl rfl ?_
      refine Ex_getR 19 dX9_tell_16 fX9_90 (xMs_0 hm) rfl (xMr_38 hm) rfl ?_
      refine Ex_iload_n 20 (i := 1) dX9_tell_19 rfl rfl rfl ?_
      refine Ex_iload_n 21 (i := 2) dX9_tell_20 rfl rfl rfl ?_
      refine Ex_if_eq 24 28 dX9_tell_21 (by decide) rfl (fun c2 => absurd c2 (by decide)) (fun c2 => ?_)
      refine Ex_iconst 25 (v := 1) dX9_tell_24 (by decide) rfl ?_
      refine Ex_goto 29 dX9_tell_25 (by decide) ?_
      refine Ex_sI 30 w (I (m + 27)) (va_up (va_up I m (va_up (I m) 0 0)) (m + 27) (va_up (I (m + 27)) w 1)) dX9_tell_29 (xMs_27 hm) rfl (by omega) (by decide) (va_up_ne _ _ (by omega)) rfl rfl ?_
      refine Ex_iconst 31 (v := 1) dX9_tell_30 (by decide) rfl ?_
      refine Ex_iret dX9_tell_31 rfl (by decide) (Or.inl rfl) ?_
      rw [hct] at hQ
      refine hQ _ (fun x h1 h2 => by rw [va_up_ne _ _ h2, va_up_ne _ _ h1]) (by rw [va_up_ne _ _ (by omega)]; rfl) (fun j hj => by rw [va_up_self, va_up_ne _ _ (by omega)]) ?_
      rw [if_pos rfl, hix, va_up_self]
      intro c hc
      have h1 := hT c hc
      rw [Nat.mul_zero, Nat.zero_add] at h1 ⊢
      by_cases e : c = w
      · subst e
        rw [va_up_self, va_up_self]
        rfl
      · rw [va_up_ne _ _ e, va_up_ne _ _ e]
        exact h1
    · refine Ex_iconst 14 (v := 0) dX9_tell_13 (by decide) rfl ?_
      refine Ex_iret dX9_tell_14 rfl (by decide) (Or.inl rfl) ?_
      have hcf := hmB_eq c1
      rw [hcf] at hQ
      exact hQ _ (fun x h1 _ => va_up_ne _ _ h1) rfl (fun j _ => by rw [va_up_ne _ _ (by omega)]) (by rw [va_up_ne _ _ (by omega)]; exact hT)
set_option maxHeartbeats 4000000 in
theorem mc_toldMany_loop {d : Nat} {sh : xSh} {R : xR} {L : xL} {I : xI} {Q : xQ} {m : Nat} (hm : xModel sh R m) {t : hmTo} (hT : hmTa (I (m + 27)) 0 t) (hQ : Q (some (.int (hmTc t 6))) 0 sh R L I) : ∀ n i, n + i = 6 → Ex d 0 0 MX9_toldMany 0 sh R L I 4 [some (.ref m), some (.int (hmTc t i)), some (.int (nI i))] [] Q := by
  have hT0 : ∀ w, w < 6 → I (m + 27) w = hmTv (t w) := fun w hw => by
    have h1 := hT w hw
    rw [Nat.mul_zero, Nat.zero_add] at h1
    exact h1
  intro n
  induction n with
  | zero =>
    intro i hi
    refine Ex_iload_n 5 (i := 2) dX9_toldMany_4 rfl rfl rfl ?_
    refine Ex_bipush 7 (v := 6) dX9_toldMany_5 (by decide) rfl ?_
    refine Ex_icmp_ge 10 33 dX9_toldMany_7 (by decide) rfl (fun c1 => ?_) (fun c1 => absurd c1 (fun q => q (nI_le (a := 6) (by omega) (by omega))))
    refine Ex_iload_n 34 (i := 1) dX9_toldMany_33 rfl rfl rfl ?_
    refine Ex_iret dX9_toldMany_34 rfl rfl (Or.inl rfl) ?_
    rw [show i = 6 by omega]
    exact hQ
  | succ n ih =>
    intro i hi
    refine Ex_iload_n 5 (i := 2) dX9_toldMany_4 rfl rfl rfl ?_
    refine Ex_bipush 7 (v := 6) dX9_toldMany_5 (by decide) rfl ?_
    refine Ex_icmp_ge 10 33 dX9_toldMany_7 (by decide) rfl (fun c1 => absurd c1 (nI_ge (b := 6) (by omega) (by omega))) (fun c1 => ?_)
    refine Ex_iload_n 11 (i := 1) dX9_toldMany_10 rfl rfl rfl ?_
    refine Ex_aload_n 12 (i := 0) dX9_toldMany_11 rfl rfl rfl ?_
    refine Ex_getR 15 dX9_toldMany_12 fX9_90 (xMs_0 hm) rfl (xMr_38 hm) rfl ?_
    refine Ex_iload_n 16 (i := 2) dX9_toldMany_15 rfl rfl rfl ?_
    refine Ex_aI 17 i (I (m + 27) i) dX9_toldMany_16 (xMs_27 hm) rfl (by omega) (by decide) rfl rfl ?_
    rw [hT0 i (by omega)]
    refine Ex_if_lt 20 24 dX9_toldMany_17 (by decide) rfl (fun c2 => ?_) (fun c2 => ?_)
    · refine Ex_iconst 25 (v := 0) dX9_toldMany_24 (by decide) rfl ?_
      refine Ex_iadd 26 dX9_toldMany_25 rfl ?_
      refine Ex_istore_n 27 (i := 1) (ls' := [some (.ref m), some (.int ((hmTc t i) + 0)), some (.int (nI i))]) dX9_toldMany_26 rfl (Nat.le_of_ble_eq_true rfl) rfl rfl rfl ?_
      refine Ex_iinc 30 (v := (nI (i + 1))) (ls' := [some (.ref m), some (.int ((hmTc t i) + 0)), some (.int (nI (i + 1)))]) dX9_toldMany_27 rfl (xinc _) (Nat.le_of_ble_eq_true rfl) rfl rfl rfl ?_
      refine Ex_goto 4 dX9_toldMany_30 (by decide) ?_
      have h1 := hmTv_neg.mp c2
      have e : hmTc t (i + 1) = hmTc t i + 0 := by
        show hmTc t i + hmB (t i).isSome = _
        rw [h1]
        rfl
      rw [← e]
      exact ih (i + 1) (by omega)
    · refine Ex_iconst 21 (v := 1) dX9_toldMany_20 (by decide) rfl ?_
      refine Ex_goto 25 dX9_toldMany_21 (by decide) ?_
      refine Ex_iadd 26 dX9_toldMany_25 rfl ?_
      refine Ex_istore_n 27 (i := 1) (ls' := [some (.ref m), some (.int ((hmTc t i) + 1)), some (.int (nI i))]) dX9_toldMany_26 rfl (Nat.le_of_ble_eq_true rfl) rfl rfl rfl ?_
      refine Ex_iinc 30 (v := (nI (i + 1))) (ls' := [some (.ref m), some (.int ((hmTc t i) + 1)), some (.int (nI (i + 1)))]) dX9_toldMany_27 rfl (xinc _) (Nat.le_of_ble_eq_true rfl) rfl rfl rfl ?_
      refine Ex_goto 4 dX9_toldMany_30 (by decide) ?_
      have h1 : (t i).isSome = true := by
        cases ht : t i with
        | none => exact absurd (hmTv_neg.mpr ht) c2
        | some b => rfl
      have e : hmTc t (i + 1) = hmTc t i + 1 := by
        show hmTc t i + hmB (t i).isSome = _
        rw [h1]
        rfl
      rw [← e]
      exact ih (i + 1) (by omega)
set_option maxHeartbeats 4000000 in
theorem mc_toldMany {d : Nat} {sh : xSh} {R : xR} {L : xL} {I : xI} {Q : xQ} {m : Nat} (hm : xModel sh R m) {t : hmTo} (hT : hmTa (I (m + 27)) 0 t) (hQ : Q (some (.int (hmTc t 6))) 0 sh R L I) : Ex d 0 0 MX9_toldMany 0 sh R L I 0 [some (.ref m), none, none] [] Q := by
  refine Ex_iconst 1 (v := 0) dX9_toldMany_0 (by decide) rfl ?_
  refine Ex_istore_n 2 (i := 1) (ls' := [some (.ref m), some (.int 0), none]) dX9_toldMany_1 rfl (Nat.le_of_ble_eq_true rfl) rfl rfl rfl ?_
  refine Ex_iconst 3 (v := 0) dX9_toldMany_2 (by decide) rfl ?_
  refine Ex_istore_n 4 (i := 2) (ls' := [some (.ref m), some (.int 0), some (.int 0)]) dX9_toldMany_3 rfl (Nat.le_of_ble_eq_true rfl) rfl rfl rfl ?_
  exact mc_toldMany_loop hm hT hQ 6 0 rfl
set_option maxHeartbeats 4000000 in
theorem mb_count0 {d : Nat} {sh : xSh} {R : xR} {L : xL} {I : xI} {Q : xQ} {m : Nat} {H : hmH} {O : hmO} (hm : xModel sh R m) (hS : hmMr (I (m + 28)) H) (hO : hmMo I m O) (ho : hmOok O) (hok : hmOk O H) {t : hmTo} (hT : hmTa (I (m + 27)) 0 t) {ln np tp : Nat} (hln : I (m + 23) 0 = nI ln) (hnp : I m 45 = nI np) (htp : I m 1 = nI tp) (hQ : Q (some (.int (nI (hmN O)))) 0 sh R L I) : Ex (d + 2) 0 0 MX9_count 0 sh R L I 17 [some (.ref m), some (.int 0)] [] Q := by
  obtain ⟨s6, smin, slen, sset, stak, sline, sheld, shas, stalk⟩ := id hS
  obtain ⟨o6, ot1, ot2, oo, oll, owf⟩ := id ho
  obtain ⟨on, otk, ow, cd, cfrom, cto, clen, ccd, csem⟩ := id hO
  have hlN := hok.2.1
  refine Ex_iload_n 18 (i := 1) dX9_count_17 rfl rfl rfl ?_
  refine Ex_iconst 19 (v := 3) dX9_count_18 (by decide) rfl ?_
  refine Ex_icmp_ge 22 56 dX9_count_19 (by decide) rfl (fun c1 => absurd c1 (by decide)) (fun c1 => ?_)
  refine Ex_iload_n 23 (i := 1) dX9_count_22 rfl rfl rfl ?_
  refine Ex_if_ne 26 35 dX9_count_23 (by decide) rfl (fun c2 => absurd c2 (fun q => q (by decide))) (fun c2 => ?_)
  refine Ex_aload_n 27 (i := 0) dX9_count_26 rfl rfl rfl ?_
  refine Ex_getR 30 dX9_count_27 fX9_13 (xMs_0 hm) rfl (xMr_10 hm) rfl ?_
  refine Ex_iconst 31 (v := 0) dX9_count_30 (by decide) rfl ?_
  refine Ex_aI 32 0 (I (m + 2) 0) dX9_count_31 (xMs_2 hm) rfl (by decide) (by decide) rfl rfl ?_
  rw [on]
  refine Ex_goto 55 dX9_count_32 (by decide) ?_
  refine Ex_iret dX9_count_55 rfl rfl (Or.inl rfl) ?_
  exact hQ
set_option maxHeartbeats 4000000 in
theorem mb_count1 {d : Nat} {sh : xSh} {R : xR} {L : xL} {I : xI} {Q : xQ} {m : Nat} {H : hmH} {O : hmO} (hm : xModel sh R m) (hS : hmMr (I (m + 28)) H) (hO : hmMo I m O) (ho : hmOok O) (hok : hmOk O H) {t : hmTo} (hT : hmTa (I (m + 27)) 0 t) {ln np tp : Nat} (hln : I (m + 23) 0 = nI ln) (hnp : I m 45 = nI np) (htp : I m 1 = nI tp) (hQ : Q (some (.int (nI (hmTk O)))) 0 sh R L I) : Ex (d + 2) 0 0 MX9_count 0 sh R L I 17 [some (.ref m), some (.int 1)] [] Q := by
  obtain ⟨s6, smin, slen, sset, stak, sline, sheld, shas, stalk⟩ := id hS
  obtain ⟨o6, ot1, ot2, oo, oll, owf⟩ := id ho
  obtain ⟨on, otk, ow, cd, cfrom, cto, clen, ccd, csem⟩ := id hO
  have hlN := hok.2.1
  refine Ex_iload_n 18 (i := 1) dX9_count_17 rfl rfl rfl ?_
  refine Ex_iconst 19 (v := 3) dX9_count_18 (by decide) rfl ?_
  refine Ex_icmp_ge 22 56 dX9_count_19 (by decide) rfl (fun c1 => absurd c1 (by decide)) (fun c1 => ?_)
  refine Ex_iload_n 23 (i := 1) dX9_count_22 rfl rfl rfl ?_
  refine Ex_if_ne 26 35 dX9_count_23 (by decide) rfl (fun c2 => ?_) (fun c2 => absurd c2 (by decide))
  refine Ex_iload_n 36 (i := 1) dX9_count_35 rfl rfl rfl ?_
  refine Ex_iconst 37 (v := 1) dX9_count_36 (by decide) rfl ?_
  refine Ex_icmp_ne 40 49 dX9_count_37 (by decide) rfl (fun c3 => absurd c3 (fun q => q (by decide))) (fun c3 => ?_)
  refine Ex_aload_n 41 (i := 0) dX9_count_40 rfl rfl rfl ?_
  refine Ex_getR 44 dX9_count_41 fX9_13 (xMs_0 hm) rfl (xMr_10 hm) rfl ?_
  refine Ex_iconst 45 (v := 1) dX9_count_44 (by decide) rfl ?_
  refine Ex_aI 46 1 (I (m + 2) 1) dX9_count_45 (xMs_2 hm) rfl (by decide) (by decide) rfl rfl ?_
  rw [otk]
  refine Ex_goto 55 dX9_count_46 (by decide) ?_
  refine Ex_iret dX9_count_55 rfl rfl (Or.inl rfl) ?_
  exact hQ
set_option maxHeartbeats 4000000 in
theorem mb_count2 {d : Nat} {sh : xSh} {R : xR} {L : xL} {I : xI} {Q : xQ} {m : Nat} {H : hmH} {O : hmO} (hm : xModel sh R m) (hS : hmMr (I (m + 28)) H) (hO : hmMo I m O) (ho : hmOok O) (hok : hmOk O H) {t : hmTo} (hT : hmTa (I (m + 27)) 0 t) {ln np tp : Nat} (hln : I (m + 23) 0 = nI ln) (hnp : I m 45 = nI np) (htp : I m 1 = nI tp) (hQ : Q (some (.int (nI (hmMin H)))) 0 sh R L I) : Ex (d + 2) 0 0 MX9_count 0 sh R L I 17 [some (.ref m), some (.int 2)] [] Q := by
  obtain ⟨s6, smin, slen, sset, stak, sline, sheld, shas, stalk⟩ := id hS
  obtain ⟨o6, ot1, ot2, oo, oll, owf⟩ := id ho
  obtain ⟨on, otk, ow, cd, cfrom, cto, clen, ccd, csem⟩ := id hO
  have hlN := hok.2.1
  refine Ex_iload_n 18 (i := 1) dX9_count_17 rfl rfl rfl ?_
  refine Ex_iconst 19 (v := 3) dX9_count_18 (by decide) rfl ?_
  refine Ex_icmp_ge 22 56 dX9_count_19 (by decide) rfl (fun c1 => absurd c1 (by decide)) (fun c1 => ?_)
  refine Ex_iload_n 23 (i := 1) dX9_count_22 rfl rfl rfl ?_
  refine Ex_if_ne 26 35 dX9_count_23 (by decide) rfl (fun c2 => ?_) (fun c2 => absurd c2 (by decide))
  refine Ex_iload_n 36 (i := 1) dX9_count_35 rfl rfl rfl ?_
  refine Ex_iconst 37 (v := 1) dX9_count_36 (by decide) rfl ?_
  refine Ex_icmp_ne 40 49 dX9_count_37 (by decide) rfl (fun c3 => ?_) (fun c3 => absurd c3 (by decide))
  refine Ex_aload_n 50 (i := 0) dX9_count_49 rfl rfl rfl ?_
  refine Ex_getR 53 dX9_count_50 fX9_93 (xMs_0 hm) rfl (xMr_39 hm) rfl ?_
  refine Ex_iconst 54 (v := 0) dX9_count_53 (by decide) rfl ?_
  refine Ex_aI 55 0 (I (m + 28) 0) dX9_count_54 (xMs_28 hm) rfl (by decide) (by decide) rfl rfl ?_
  rw [smin]
  refine Ex_iret dX9_count_55 rfl rfl (Or.inl rfl) ?_
  exact hQ
set_option maxHeartbeats 4000000 in
theorem mb_count3 {d : Nat} {sh : xSh} {R : xR} {L : xL} {I : xI} {Q : xQ} {m : Nat} {H : hmH} {O : hmO} (hm : xModel sh R m) (hS : hmMr (I (m + 28)) H) (hO : hmMo I m O) (ho : hmOok O) (hok : hmOk O H) {t : hmTo} (hT : hmTa (I (m + 27)) 0 t) {ln np tp : Nat} (hln : I (m + 23) 0 = nI ln) (hnp : I m 45 = nI np) (htp : I m 1 = nI tp) (hQ : Q (some (.int (nI (hmLine H).length))) 0 sh R L I) : Ex (d + 2) 0 0 MX9_count 0 sh R L I 17 [some (.ref m), some (.int 3)] [] Q := by
  obtain ⟨s6, smin, slen, sset, stak, sline, sheld, shas, stalk⟩ := id hS
  obtain ⟨o6, ot1, ot2, oo, oll, owf⟩ := id ho
  obtain ⟨on, otk, ow, cd, cfrom, cto, clen, ccd, csem⟩ := id hO
  have hlN := hok.2.1
  refine Ex_iload_n 18 (i := 1) dX9_count_17 rfl rfl rfl ?_
  refine Ex_iconst 19 (v := 3) dX9_count_18 (by decide) rfl ?_
  refine Ex_icmp_ge 22 56 dX9_count_19 (by decide) rfl (fun c1 => ?_) (fun c1 => absurd c1 (fun q => q (by decide)))
  refine Ex_iload_n 57 (i := 1) dX9_count_56 rfl rfl rfl ?_
  refine Ex_bipush 59 (v := 6) dX9_count_57 (by decide) rfl ?_
  refine Ex_icmp_ge 62 95 dX9_count_59 (by decide) rfl (fun c2 => absurd c2 (by decide)) (fun c2 => ?_)
  refine Ex_iload_n 63 (i := 1) dX9_count_62 rfl rfl rfl ?_
  refine Ex_iconst 64 (v := 3) dX9_count_63 (by decide) rfl ?_
  refine Ex_icmp_ne 67 76 dX9_count_64 (by decide) rfl (fun c3 => absurd c3 (fun q => q (by decide))) (fun c3 => ?_)
  refine Ex_aload_n 68 (i := 0) dX9_count_67 rfl rfl rfl ?_
  refine Ex_getR 71 dX9_count_68 fX9_93 (xMs_0 hm) rfl (xMr_39 hm) rfl ?_
  refine Ex_iconst 72 (v := 1) dX9_count_71 (by decide) rfl ?_
  refine Ex_aI 73 1 (I (m + 28) 1) dX9_count_72 (xMs_28 hm) rfl (by decide) (by decide) rfl rfl ?_
  rw [slen]
  refine Ex_goto 94 dX9_count_73 (by decide) ?_
  refine Ex_iret dX9_count_94 rfl rfl (Or.inl rfl) ?_
  exact hQ
set_option maxHeartbeats 4000000 in
theorem mb_count4 {d : Nat} {sh : xSh} {R : xR} {L : xL} {I : xI} {Q : xQ} {m : Nat} {H : hmH} {O : hmO} (hm : xModel sh R m) (hS : hmMr (I (m + 28)) H) (hO : hmMo I m O) (ho : hmOok O) (hok : hmOk O H) {t : hmTo} (hT : hmTa (I (m + 27)) 0 t) {ln np tp : Nat} (hln : I (m + 23) 0 = nI ln) (hnp : I m 45 = nI np) (htp : I m 1 = nI tp) (hQ : Q (some (.int (hmBits (hmLine H)))) 0 sh R L I) : Ex (d + 2) 0 0 MX9_count 0 sh R L I 17 [some (.ref m), some (.int 4)] [] Q := by
  obtain ⟨s6, smin, slen, sset, stak, sline, sheld, shas, stalk⟩ := id hS
  obtain ⟨o6, ot1, ot2, oo, oll, owf⟩ := id ho
  obtain ⟨on, otk, ow, cd, cfrom, cto, clen, ccd, csem⟩ := id hO
  have hlN := hok.2.1
  refine Ex_iload_n 18 (i := 1) dX9_count_17 rfl rfl rfl ?_
  refine Ex_iconst 19 (v := 3) dX9_count_18 (by decide) rfl ?_
  refine Ex_icmp_ge 22 56 dX9_count_19 (by decide) rfl (fun c1 => ?_) (fun c1 => absurd c1 (fun q => q (by decide)))
  refine Ex_iload_n 57 (i := 1) dX9_count_56 rfl rfl rfl ?_
  refine Ex_bipush 59 (v := 6) dX9_count_57 (by decide) rfl ?_
  refine Ex_icmp_ge 62 95 dX9_count_59 (by decide) rfl (fun c2 => absurd c2 (by decide)) (fun c2 => ?_)
  refine Ex_iload_n 63 (i := 1) dX9_count_62 rfl rfl rfl ?_
  refine Ex_iconst 64 (v := 3) dX9_count_63 (by decide) rfl ?_
  refine Ex_icmp_ne 67 76 dX9_count_64 (by decide) rfl (fun c3 => ?_) (fun c3 => absurd c3 (by decide))
  refine Ex_iload_n 77 (i := 1) dX9_count_76 rfl rfl rfl ?_
  refine Ex_iconst 78 (v := 4) dX9_count_77 (by decide) rfl ?_
  refine Ex_icmp_ne 81 88 dX9_count_78 (by decide) rfl (fun c4 => absurd c4 (fun q => q (by decide))) (fun c4 => ?_)
  refine Ex_aload_n 82 (i := 0) dX9_count_81 rfl rfl rfl ?_
  refine Ex_callV (M' := MX9_onLine) 85 [] (rest := []) dX9_count_82 lX9_408 mX9_onLine rfl (xMs_0 hm) rfl (Nat.le_of_ble_eq_true rfl) (Nat.le_of_ble_eq_true rfl) rfl ?_
  refine mc_onLine hm hS ?_
  simp only [Option.toList, List.cons_append, List.nil_append]
  refine Ex_goto 94 dX9_count_85 (by decide) ?_
  refine Ex_iret dX9_count_94 rfl rfl (Or.inl rfl) ?_
  exact hQ
set_option maxHeartbeats 4000000 in
theorem mb_count5 {d : Nat} {sh : xSh} {R : xR} {L : xL} {I : xI} {Q : xQ} {m : Nat} {H : hmH} {O : hmO} (hm : xModel sh R m) (hS : hmMr (I (m + 28)) H) (hO : hmMo I m O) (ho : hmOok O) (hok : hmOk O H) {t : hmTo} (hT : hmTa (I (m + 27)) 0 t) {ln np tp : Nat} (hln : I (m + 23) 0 = nI ln) (hnp : I m 45 = nI np) (htp : I m 1 = nI tp) (hQ : Q (some (.int (hmSet H))) 0 sh R L I) : Ex (d + 2) 0 0 MX9_count 0 sh R L I 17 [some (.ref m), some (.int 5)] [] Q := by
  obtain ⟨s6, smin, slen, sset, stak, sline, sheld, shas, stalk⟩ := id hS
  obtain ⟨o6, ot1, ot2, oo, oll, owf⟩ := id ho
  obtain ⟨on, otk, ow, cd, cfrom, cto, clen, ccd, csem⟩ := id hO
  have hlN := hok.2.1
  refine Ex_iload_n 18 (i := 1) dX9_count_17 rfl rfl rfl ?_
  refine Ex_iconst 19 (v := 3) dX9_count_18 (by decide) rfl ?_
  refine Ex_icmp_ge 22 56 dX9_count_19 (by decide) rfl (fun c1 => ?_) (fun c1 => absurd c1 (fun q => q (by decide)))
  refine Ex_iload_n 57 (i := 1) dX9_count_56 rfl rfl rfl ?_
  refine Ex_bipush 59 (v := 6) dX9_count_57 (by decide) rfl ?_
  refine Ex_icmp_ge 62 95 dX9_count_59 (by decide) rfl (fun c2 => absurd c2 (by decide)) (fun c2 => ?_)
  refine Ex_iload_n 63 (i := 1) dX9_count_62 rfl rfl rfl ?_
  refine Ex_iconst 64 (v := 3) dX9_count_63 (by decide) rfl ?_
  refine Ex_icmp_ne 67 76 dX9_count_64 (by decide) rfl (fun c3 => ?_) (fun c3 => absurd c3 (by decide))
  refine Ex_iload_n 77 (i := 1) dX9_count_76 rfl rfl rfl ?_
  refine Ex_iconst 78 (v := 4) dX9_count_77 (by decide) rfl ?_
  refine Ex_icmp_ne 81 88 dX9_count_78 (by decide) rfl (fun c4 => ?_) (fun c4 => absurd c4 (by decide))
  refine Ex_aload_n 89 (i := 0) dX9_count_88 rfl rfl rfl ?_
  refine Ex_getR 92 dX9_count_89 fX9_93 (xMs_0 hm) rfl (xMr_39 hm) rfl ?_
  refine Ex_iconst 93 (v := 2) dX9_count_92 (by decide) rfl ?_
  refine Ex_aI 94 2 (I (m + 28) 2) dX9_count_93 (xMs_28 hm) rfl (by decide) (by decide) rfl rfl ?_
  rw [sset]
  refine Ex_iret dX9_count_94 rfl rfl (Or.inl rfl) ?_
  exact hQ
set_option maxHeartbeats 4000000 in
theorem mb_count6 {d : Nat} {sh : xSh} {R : xR} {L : xL} {I : xI} {Q : xQ} {m : Nat} {H : hmH} {O : hmO} (hm : xModel sh R m) (hS : hmMr (I (m + 28)) H) (hO : hmMo I m O) (ho : hmOok O) (hok : hmOk O H) {t : hmTo} (hT : hmTa (I (m + 27)) 0 t) {ln np tp : Nat} (hln : I (m + 23) 0 = nI ln) (hnp : I m 45 = nI np) (htp : I m 1 = nI tp) (hQ : Q (some (.int (hmAll (hmHas H) (hmN O)))) 0 sh R L I) : Ex (d + 2) 0 0 MX9_count 0 sh R L I 17 [some (.ref m), some (.int 6)] [] Q := by
  obtain ⟨s6, smin, slen, sset, stak, sline, sheld, shas, stalk⟩ := id hS
  obtain ⟨o6, ot1, ot2, oo, oll, owf⟩ := id ho
  obtain ⟨on, otk, ow, cd, cfrom, cto, clen, ccd, csem⟩ := id hO
  have hlN := hok.2.1
  refine Ex_iload_n 18 (i := 1) dX9_count_17 rfl rfl rfl ?_
  refine Ex_iconst 19 (v := 3) dX9_count_18 (by decide) rfl ?_
  refine Ex_icmp_ge 22 56 dX9_count_19 (by decide) rfl (fun c1 => ?_) (fun c1 => absurd c1 (fun q => q (by decide)))
  refine Ex_iload_n 57 (i := 1) dX9_count_56 rfl rfl rfl ?_
  refine Ex_bipush 59 (v := 6) dX9_count_57 (by decide) rfl ?_
  refine Ex_icmp_ge 62 95 dX9_count_59 (by decide) rfl (fun c2 => ?_) (fun c2 => absurd c2 (fun q => q (by decide)))
  refine Ex_iload_n 96 (i := 1) dX9_count_95 rfl rfl rfl ?_
  refine Ex_bipush 98 (v := 8) dX9_count_96 (by decide) rfl ?_
  refine Ex_icmp_ge 101 121 dX9_count_98 (by decide) rfl (fun c3 => absurd c3 (by decide)) (fun c3 => ?_)
  refine Ex_iload_n 102 (i := 1) dX9_count_101 rfl rfl rfl ?_
  refine Ex_bipush 104 (v := 6) dX9_count_102 (by decide) rfl ?_
  refine Ex_icmp_ne 107 114 dX9_count_104 (by decide) rfl (fun c4 => absurd c4 (fun q => q (by decide))) (fun c4 => ?_)
  refine Ex_aload_n 108 (i := 0) dX9_count_107 rfl rfl rfl ?_
  refine Ex_callV (M' := MX9_allAnswers) 111 [] (rest := []) dX9_count_108 lX9_464 mX9_allAnswers rfl (xMs_0 hm) rfl (Nat.le_of_ble_eq_true rfl) (Nat.le_of_ble_eq_true rfl) rfl ?_
  refine mc_allAnswers hm hS hO ho hok ?_
  simp only [Option.toList, List.cons_append, List.nil_append]
  refine Ex_goto 120 dX9_count_111 (by decide) ?_
  refine Ex_iret dX9_count_120 rfl rfl (Or.inl rfl) ?_
  exact hQ
set_option maxHeartbeats 4000000 in
theorem mb_count7 {d : Nat} {sh : xSh} {R : xR} {L : xL} {I : xI} {Q : xQ} {m : Nat} {H : hmH} {O : hmO} (hm : xModel sh R m) (hS : hmMr (I (m + 28)) H) (hO : hmMo I m O) (ho : hmOok O) (hok : hmOk O H) {t : hmTo} (hT : hmTa (I (m + 27)) 0 t) {ln np tp : Nat} (hln : I (m + 23) 0 = nI ln) (hnp : I m 45 = nI np) (htp : I m 1 = nI tp) (hQ : Q (some (.int (hmTak H))) 0 sh R L I) : Ex (d + 2) 0 0 MX9_count 0 sh R L I 17 [some (.ref m), some (.int 7)] [] Q := by
  obtain ⟨s6, smin, slen, sset, stak, sline, sheld, shas, stalk⟩ := id hS
  obtain ⟨o6, ot1, ot2, oo, oll, owf⟩ := id ho
  obtain ⟨on, otk, ow, cd, cfrom, cto, clen, ccd, csem⟩ := id hO
  have hlN := hok.2.1
  refine Ex_iload_n 18 (i := 1) dX9_count_17 rfl rfl rfl ?_
  refine Ex_iconst 19 (v := 3) dX9_count_18 (by decide) rfl ?_
  refine Ex_icmp_ge 22 56 dX9_count_19 (by decide) rfl (fun c1 => ?_) (fun c1 => absurd c1 (fun q => q (by decide)))
  refine Ex_iload_n 57 (i := 1) dX9_count_56 rfl rfl rfl ?_
  refine Ex_bipush 59 (v := 6) dX9_count_57 (by decide) rfl ?_
  refine Ex_icmp_ge 62 95 dX9_count_59 (by decide) rfl (fun c2 => ?_) (fun c2 => absurd c2 (fun q => q (by decide)))
  refine Ex_iload_n 96 (i := 1) dX9_count_95 rfl rfl rfl ?_
  refine Ex_bipush 98 (v := 8) dX9_count_96 (by decide) rfl ?_
  refine Ex_icmp_ge 101 121 dX9_count_98 (by decide) rfl (fun c3 => absurd c3 (by decide)) (fun c3 => ?_)
  refine Ex_iload_n 102 (i := 1) dX9_count_101 rfl rfl rfl ?_
  refine Ex_bipush 104 (v := 6) dX9_count_102 (by decide) rfl ?_
  refine Ex_icmp_ne 107 114 dX9_count_104 (by decide) rfl (fun c4 => ?_) (fun c4 => absurd c4 (by decide))
  refine Ex_aload_n 115 (i := 0) dX9_count_114 rfl rfl rfl ?_
  refine Ex_getR 118 dX9_count_115 fX9_93 (xMs_0 hm) rfl (xMr_39 hm) rfl ?_
  refine Ex_iconst 119 (v := 3) dX9_count_118 (by decide) rfl ?_
  refine Ex_aI 120 3 (I (m + 28) 3) dX9_count_119 (xMs_28 hm) rfl (by decide) (by decide) rfl rfl ?_
  rw [stak]
  refine Ex_iret dX9_count_120 rfl rfl (Or.inl rfl) ?_
  exact hQ
set_option maxHeartbeats 4000000 in
theorem mb_count8 {d : Nat} {sh : xSh} {R : xR} {L : xL} {I : xI} {Q : xQ} {m : Nat} {H : hmH} {O : hmO} (hm : xModel sh R m) (hS : hmMr (I (m + 28)) H) (hO : hmMo I m O) (ho : hmOok O) (hok : hmOk O H) {t : hmTo} (hT : hmTa (I (m + 27)) 0 t) {ln np tp : Nat} (hln : I (m + 23) 0 = nI ln) (hnp : I m 45 = nI np) (htp : I m 1 = nI tp) (hQ : Q (some (.int (nI ln))) 0 sh R L I) : Ex (d + 2) 0 0 MX9_count 0 sh R L I 17 [some (.ref m), some (.int 8)] [] Q := by
  obtain ⟨s6, smin, slen, sset, stak, sline, sheld, shas, stalk⟩ := id hS
  obtain ⟨o6, ot1, ot2, oo, oll, owf⟩ := id ho
  obtain ⟨on, otk, ow, cd, cfrom, cto, clen, ccd, csem⟩ := id hO
  have hlN := hok.2.1
  refine Ex_iload_n 18 (i := 1) dX9_count_17 rfl rfl rfl ?_
  refine Ex_iconst 19 (v := 3) dX9_count_18 (by decide) rfl ?_
  refine Ex_icmp_ge 22 56 dX9_count_19 (by decide) rfl (fun c1 => ?_) (fun c1 => absurd c1 (fun q => q (by decide)))
  refine Ex_iload_n 57 (i := 1) dX9_count_56 rfl rfl rfl ?_
  refine Ex_bipush 59 (v := 6) dX9_count_57 (by decide) rfl ?_
  refine Ex_icmp_ge 62 95 dX9_count_59 (by decide) rfl (fun c2 => ?_) (fun c2 => absurd c2 (fun q => q (by decide)))
  refine Ex_iload_n 96 (i := 1) dX9_count_95 rfl rfl rfl ?_
  refine Ex_bipush 98 (v := 8) dX9_count_96 (by decide) rfl ?_
  refine Ex_icmp_ge 101 121 dX9_count_98 (by decide) rfl (fun c3 => ?_) (fun c3 => absurd c3 (fun q => q (by decide)))
  refine Ex_iload_n 122 (i := 1) dX9_count_121 rfl rfl rfl ?_
  refine Ex_bipush 124 (v := 10) dX9_count_122 (by decide) rfl ?_
  refine Ex_icmp_ge 127 147 dX9_count_124 (by decide) rfl (fun c4 => absurd c4 (by decide)) (fun c4 => ?_)
  refine Ex_iload_n 128 (i := 1) dX9_count_127 rfl rfl rfl ?_
  refine Ex_bipush 130 (v := 8) dX9_count_128 (by decide) rfl ?_
  refine Ex_icmp_ne 133 142 dX9_count_130 (by decide) rfl (fun c5 => absurd c5 (fun q => q (by decide))) (fun c5 => ?_)
  refine Ex_aload_n 134 (i := 0) dX9_count_133 rfl rfl rfl ?_
  refine Ex_getR 137 dX9_count_134 fX9_78 (xMs_0 hm) rfl (xMr_34 hm) rfl ?_
  refine Ex_iconst 138 (v := 0) dX9_count_137 (by decide) rfl ?_
  refine Ex_aI 139 0 (I (m + 23) 0) dX9_count_138 (xMs_23 hm) rfl (by decide) (by decide) rfl rfl ?_
  rw [hln]
  refine Ex_goto 146 dX9_count_139 (by decide) ?_
  refine Ex_iret dX9_count_146 rfl rfl (Or.inl rfl) ?_
  exact hQ
set_option maxHeartbeats 4000000 in
theorem mb_count9 {d : Nat} {sh : xSh} {R : xR} {L : xL} {I : xI} {Q : xQ} {m : Nat} {H : hmH} {O : hmO} (hm : xModel sh R m) (hS : hmMr (I (m + 28)) H) (hO : hmMo I m O) (ho : hmOok O) (hok : hmOk O H) {t : hmTo} (hT : hmTa (I (m + 27)) 0 t) {ln np tp : Nat} (hln : I (m + 23) 0 = nI ln) (hnp : I m 45 = nI np) (htp : I m 1 = nI tp) (hQ : Q (some (.int (hmTc t 6))) 0 sh R L I) : Ex (d + 2) 0 0 MX9_count 0 sh R L I 17 [some (.ref m), some (.int 9)] [] Q := by
  obtain ⟨s6, smin, slen, sset, stak, sline, sheld, shas, stalk⟩ := id hS
  obtain ⟨o6, ot1, ot2, oo, oll, owf⟩ := id ho
  obtain ⟨on, otk, ow, cd, cfrom, cto, clen, ccd, csem⟩ := id hO
  have hlN := hok.2.1
  refine Ex_iload_n 18 (i := 1) dX9_count_17 rfl rfl rfl ?_
  refine Ex_iconst 19 (v := 3) dX9_count_18 (by decide) rfl ?_
  refine Ex_icmp_ge 22 56 dX9_count_19 (by decide) rfl (fun c1 => ?_) (fun c1 => absurd c1 (fun q => q (by decide)))
  refine Ex_iload_n 57 (i := 1) dX9_count_56 rfl rfl rfl ?_
  refine Ex_bipush 59 (v := 6) dX9_count_57 (by decide) rfl ?_
  refine Ex_icmp_ge 62 95 dX9_count_59 (by decide) rfl (fun c2 => ?_) (fun c2 => absurd c2 (fun q => q (by decide)))
  refine Ex_iload_n 96 (i := 1) dX9_count_95 rfl rfl rfl ?_
  refine Ex_bipush 98 (v := 8) dX9_count_96 (by decide) rfl ?_
  refine Ex_icmp_ge 101 121 dX9_count_98 (by decide) rfl (fun c3 => ?_) (fun c3 => absurd c3 (fun q => q (by decide)))
  refine Ex_iload_n 122 (i := 1) dX9_count_121 rfl rfl rfl ?_
  refine Ex_bipush 124 (v := 10) dX9_count_122 (by decide) rfl ?_
  refine Ex_icmp_ge 127 147 dX9_count_124 (by decide) rfl (fun c4 => absurd c4 (by decide)) (fun c4 => ?_)
  refine Ex_iload_n 128 (i := 1) dX9_count_127 rfl rfl rfl ?_
  refine Ex_bipush 130 (v := 8) dX9_count_128 (by decide) rfl ?_
  refine Ex_icmp_ne 133 142 dX9_count_130 (by decide) rfl (fun c5 => ?_) (fun c5 => absurd c5 (by decide))
  refine Ex_aload_n 143 (i := 0) dX9_count_142 rfl rfl rfl ?_
  refine Ex_callV (M' := MX9_toldMany) 146 [] (rest := []) dX9_count_143 lX9_470 mX9_toldMany rfl (xMs_0 hm) rfl (Nat.le_of_ble_eq_true rfl) (Nat.le_of_ble_eq_true rfl) rfl ?_
  refine mc_toldMany hm hT ?_
  simp only [Option.toList, List.cons_append, List.nil_append]
  refine Ex_iret dX9_count_146 rfl rfl (Or.inl rfl) ?_
  exact hQ
set_option maxHeartbeats 4000000 in
theorem mb_count10 {d : Nat} {sh : xSh} {R : xR} {L : xL} {I : xI} {Q : xQ} {m : Nat} {H : hmH} {O : hmO} (hm : xModel sh R m) (hS : hmMr (I (m + 28)) H) (hO : hmMo I m O) (ho : hmOok O) (hok : hmOk O H) {t : hmTo} (hT : hmTa (I (m + 27)) 0 t) {ln np tp : Nat} (hln : I (m + 23) 0 = nI ln) (hnp : I m 45 = nI np) (htp : I m 1 = nI tp) (hQ : Q (some (.int (nI np))) 0 sh R L I) : Ex (d + 2) 0 0 MX9_count 0 sh R L I 17 [some (.ref m), some (.int 10)] [] Q := by
  obtain ⟨s6, smin, slen, sset, stak, sline, sheld, shas, stalk⟩ := id hS
  obtain ⟨o6, ot1, ot2, oo, oll, owf⟩ := id ho
  obtain ⟨on, otk, ow, cd, cfrom, cto, clen, ccd, csem⟩ := id hO
  have hlN := hok.2.1
  refine Ex_iload_n 18 (i := 1) dX9_count_17 rfl rfl rfl ?_
  refine Ex_iconst 19 (v := 3) dX9_count_18 (by decide) rfl ?_
  refine Ex_icmp_ge 22 56 dX9_count_19 (by decide) rfl (fun c1 => ?_) (fun c1 => absurd c1 (fun q => q (by decide)))
  refine Ex_iload_n 57 (i := 1) dX9_count_56 rfl rfl rfl ?_
  refine Ex_bipush 59 (v := 6) dX9_count_57 (by decide) rfl ?_
  refine Ex_icmp_ge 62 95 dX9_count_59 (by decide) rfl (fun c2 => ?_) (fun c2 => absurd c2 (fun q => q (by decide)))
  refine Ex_iload_n 96 (i := 1) dX9_count_95 rfl rfl rfl ?_
  refine Ex_bipush 98 (v := 8) dX9_count_96 (by decide) rfl ?_
  refine Ex_icmp_ge 101 121 dX9_count_98 (by decide) rfl (fun c3 => ?_) (fun c3 => absurd c3 (fun q => q (by decide)))
  refine Ex_iload_n 122 (i := 1) dX9_count_121 rfl rfl rfl ?_
  refine Ex_bipush 124 (v := 10) dX9_count_122 (by decide) rfl ?_
  refine Ex_icmp_ge 127 147 dX9_count_124 (by decide) rfl (fun c4 => ?_) (fun c4 => absurd c4 (fun q => q (by decide)))
  refine Ex_iload_n 148 (i := 1) dX9_count_147 rfl rfl rfl ?_
  refine Ex_bipush 150 (v := 10) dX9_count_148 (by decide) rfl ?_
  refine Ex_icmp_ne 153 160 dX9_count_150 (by decide) rfl (fun c5 => absurd c5 (fun q => q (by decide))) (fun c5 => ?_)
  refine Ex_aload_n 154 (i := 0) dX9_count_153 rfl rfl rfl ?_
  refine Ex_gI 157 (I m 45) dX9_count_154 fX9_306 (xMs_0 hm) rfl rfl rfl ?_
  rw [hnp]
  refine Ex_goto 164 dX9_count_157 (by decide) ?_
  refine Ex_iret dX9_count_164 rfl rfl (Or.inl rfl) ?_
  exact hQ
set_option maxHeartbeats 4000000 in
theorem mb_count11 {d : Nat} {sh : xSh} {R : xR} {L : xL} {I : xI} {Q : xQ} {m : Nat} {H : hmH} {O : hmO} (hm : xModel sh R m) (hS : hmMr (I (m + 28)) H) (hO : hmMo I m O) (ho : hmOok O) (hok : hmOk O H) {t : hmTo} (hT : hmTa (I (m + 27)) 0 t) {ln np tp : Nat} (hln : I (m + 23) 0 = nI ln) (hnp : I m 45 = nI np) (htp : I m 1 = nI tp) (hQ : Q (some (.int (nI tp))) 0 sh R L I) : Ex (d + 2) 0 0 MX9_count 0 sh R L I 17 [some (.ref m), some (.int 11)] [] Q := by
  obtain ⟨s6, smin, slen, sset, stak, sline, sheld, shas, stalk⟩ := id hS
  obtain ⟨o6, ot1, ot2, oo, oll, owf⟩ := id ho
  obtain ⟨on, otk, ow, cd, cfrom, cto, clen, ccd, csem⟩ := id hO
  have hlN := hok.2.1
  refine Ex_iload_n 18 (i := 1) dX9_count_17 rfl rfl rfl ?_
  refine Ex_iconst 19 (v := 3) dX9_count_18 (by decide) rfl ?_
  refine Ex_icmp_ge 22 56 dX9_count_19 (by decide) rfl (fun c1 => ?_) (fun c1 => absurd c1 (fun q => q (by decide)))
  refine Ex_iload_n 57 (i := 1) dX9_count_56 rfl rfl rfl ?_
  refine Ex_bipush 59 (v := 6) dX9_count_57 (by decide) rfl ?_
  refine Ex_icmp_ge 62 95 dX9_count_59 (by decide) rfl (fun c2 => ?_) (fun c2 => absurd c2 (fun q => q (by decide)))
  refine Ex_iload_n 96 (i := 1) dX9_count_95 rfl rfl rfl ?_
  refine Ex_bipush 98 (v := 8) dX9_count_96 (by decide) rfl ?_
  refine Ex_icmp_ge 101 121 dX9_count_98 (by decide) rfl (fun c3 => ?_) (fun c3 => absurd c3 (fun q => q (by decide)))
  refine Ex_iload_n 122 (i := 1) dX9_count_121 rfl rfl rfl ?_
  refine Ex_bipush 124 (v := 10) dX9_count_122 (by decide) rfl ?_
  refine Ex_icmp_ge 127 147 dX9_count_124 (by decide) rfl (fun c4 => ?_) (fun c4 => absurd c4 (fun q => q (by decide)))
  refine Ex_iload_n 148 (i := 1) dX9_count_147 rfl rfl rfl ?_
  refine Ex_bipush 150 (v := 10) dX9_count_148 (by decide) rfl ?_
  refine Ex_icmp_ne 153 160 dX9_count_150 (by decide) rfl (fun c5 => ?_) (fun c5 => absurd c5 (by decide))
  refine Ex_aload_n 161 (i := 0) dX9_count_160 rfl rfl rfl ?_
  refine Ex_gI 164 (I m 1) dX9_count_161 fX9_135 (xMs_0 hm) rfl rfl rfl ?_
  rw [htp]
  refine Ex_iret dX9_count_164 rfl rfl (Or.inl rfl) ?_
  exact hQ
set_option maxHeartbeats 4000000 in
theorem mb_count {d : Nat} {sh : xSh} {R : xR} {L : xL} {I : xI} {Q : xQ} {m : Nat} {H : hmH} {O : hmO} (hm : xModel sh R m) (hS : hmMr (I (m + 28)) H) (hO : hmMo I m O) (ho : hmOok O) (hok : hmOk O H) {t : hmTo} (hT : hmTa (I (m + 27)) 0 t) {ln np tp : Nat} (hln : I (m + 23) 0 = nI ln) (hnp : I m 45 = nI np) (htp : I m 1 = nI tp) {qv : Int32} (hQ : Q (some (.int (spCount O H t ln np tp qv))) 0 sh R L I) : Ex (d + 2) 0 0 MX9_count 0 sh R L I 5 [some (.ref m), some (.int qv)] [] Q := by
  obtain ⟨s6, smin, slen, sset, stak, sline, sheld, shas, stalk⟩ := id hS
  obtain ⟨o6, ot1, ot2, oo, oll, owf⟩ := id ho
  obtain ⟨on, otk, ow, cd, cfrom, cto, clen, ccd, csem⟩ := id hO
  have hlN := hok.2.1
  refine Ex_iload_n 6 (i := 1) dX9_count_5 rfl rfl rfl ?_
  refine Ex_iconst 7 (v := 0) dX9_count_6 (by decide) rfl ?_
  refine Ex_bipush 9 (v := 11) dX9_count_7 (by decide) rfl ?_
  refine Ex_callS (M' := MX9_within) 12 [.int qv, .int 0, .int 11] (rest := []) dX9_count_9 lX9_244 mX9_within rfl rfl (Nat.le_of_ble_eq_true rfl) (Nat.le_of_ble_eq_true rfl) rfl ?_
  refine mc_within ?_
  simp only [Option.toList, List.cons_append, List.nil_append]
  refine Ex_if_ne 15 17 dX9_count_12 (by decide) rfl (fun c1 => ?_) (fun c1 => ?_)
  · have hct : hmCal 12 qv = true := by
      rw [← hmWith_cal (k := 11) (by omega)]
      exact hmB_ne c1
    rcases hm_12 hct with rfl | rfl | rfl | rfl | rfl | rfl | rfl | rfl | rfl | rfl | rfl | rfl
    · exact mb_count0 hm hS hO ho hok hT hln hnp htp hQ
    · exact mb_count1 hm hS hO ho hok hT hln hnp htp hQ
    · exact mb_count2 hm hS hO ho hok hT hln hnp htp hQ
    · exact mb_count3 hm hS hO ho hok hT hln hnp htp hQ
    · exact mb_count4 hm hS hO ho hok hT hln hnp htp hQ
    · exact mb_count5 hm hS hO ho hok hT hln hnp htp hQ
    · exact mb_count6 hm hS hO ho hok hT hln hnp htp hQ
    · exact mb_count7 hm hS hO ho hok hT hln hnp htp hQ
    · exact mb_count8 hm hS hO ho hok hT hln hnp htp hQ
    · exact mb_count9 hm hS hO ho hok hT hln hnp htp hQ
    · exact mb_count10 hm hS hO ho hok hT hln hnp htp hQ
    · exact mb_count11 hm hS hO ho hok hT hln hnp htp hQ
  · refine Ex_iconst 16 (v := (-1)) dX9_count_15 (by decide) rfl ?_
    refine Ex_iret dX9_count_16 rfl rfl (Or.inl rfl) ?_
    have hcf : hmCal 12 qv = false := by
      rw [← hmWith_cal (k := 11) (by omega)]
      exact hmB_eq c1
    rw [spCount_no hcf] at hQ
    exact hQ
set_option maxHeartbeats 4000000 in
theorem mq_count {d : Nat} {sh : xSh} {R : xR} {L : xL} {I : xI} {Q : xQ} {m : Nat} {H : hmH} {O : hmO} (hm : xModel sh R m) (hS : hmMr (I (m + 28)) H) (hO : hmMo I m O) (ho : hmOok O) (hok : hmOk O H) {t : hmTo} (hT : hmTa (I (m + 27)) 0 t) {ln np tp : Nat} (hln : I (m + 23) 0 = nI ln) (hnp : I m 45 = nI np) (htp : I m 1 = nI tp) {qv : Int32} (hQ : ∀ I', hmMg m (hmTh I m) I' → hmMr (I' (m + 28)) H → Q (some (.int (spCount O H t ln np tp qv))) 0 sh R L I') : Ex (d + 2) 0 0 MX9_count 0 sh R L I 0 [some (.ref m), some (.int qv)] [] Q := by
  refine Ex_aload_n 1 (i := 0) dX9_count_0 rfl rfl rfl ?_
  refine Ex_iconst 2 (v := 0) dX9_count_1 (by decide) rfl ?_
  refine Ex_pI 5 (I m) (va_up I m (va_up (I m) 0 0)) dX9_count_2 fX9_130 rfl (xMs_0 hm) rfl (fun _ => rfl) rfl rfl rfl rfl ?_
  exact mb_count hm (hmTh_mr hS) (hmTh_mo hO) ho hok (show hmTa (hmTh I m (m + 27)) 0 t by rw [hmTh_r (by omega)]; exact hT) ((congrFun (hmTh_r (by omega)) _).trans hln) ((hmTh_f (by omega)).trans hnp) ((hmTh_f (by omega)).trans htp) (hQ _ hmMg.rf (hmTh_mr hS))
theorem hm_s610 {x : Int32} (h : hmS6 x) : hmS10 x := by
  obtain ⟨k, hk, e⟩ := h
  exact ⟨k, by omega, e⟩
set_option maxHeartbeats 4000000 in
theorem c_count {d : Nat} {sh : xSh} {R : xR} {L : xL} {I : xI} {Q : xQ} {h dk dd pl pd : Nat} {O : hmO} {H : hmH} (hx : xHM sh R h dk dd pl pd) (hO : hmD I dk O) (ho : hmOok O) (hH : hmR I (h + 30) H) (hok : hmOk O H) {t : hmTo} (ht1 : I h 11 = hmTb t) {ln np tp : Nat} (hln : I pl 3 = nI ln) (hnp : I h 8 = nI np) (htp : I (h + 2) 1 = nI tp) {qv : Int32} (hQ : Q (some (.int (spCount O H t ln np tp qv))) 0 sh R L I) : Ex (d + 2) 0 0 MX8_count 0 sh R L I 0 [some (.ref h), some (.int qv)] [] Q := by
  obtain ⟨h6, hlen, hset, htak, hmin, hline, hhas, hheld, htalk⟩ := id hH
  obtain ⟨on, otk, ow, olen, olaw⟩ := id hO
  obtain ⟨o6, ot1, ot2, oo, oll, owf⟩ := id ho
  have hdd := xH_27 hx
  have hlN := hok.2.1
  refine Ex_iload_n 1 (i := 1) dX8_count_0 rfl rfl rfl ?_
  by_cases c1 : qv.toInt < 0 ∨ 11 < qv.toInt
  · refine Ex_tableOut 167 dX8_count_1 c1 (by decide) ?_
    refine Ex_iconst 168 (v := (-1)) dX8_count_167 (by decide) rfl ?_
    refine Ex_iret dX8_count_168 rfl rfl (Or.inl rfl) ?_
    have hcf : hmCal 12 qv = false := by
      simp only [hmCal, decide_eq_false_iff_not]
      omega
    rw [spCount_no hcf] at hQ
    exact hQ
  · have hsw1 : qv.toInt = 0 ∨ qv.toInt = 1 ∨ qv.toInt = 2 ∨ qv.toInt = 3 ∨ qv.toInt = 4 ∨ qv.toInt = 5 ∨ qv.toInt = 6 ∨ qv.toInt = 7 ∨ qv.toInt = 8 ∨ qv.toInt = 9 ∨ qv.toInt = 10 ∨ qv.toInt = 11 := by
      omega
    rcases hsw1 with hsw | hsw | hsw | hsw | hsw | hsw | hsw | hsw | hsw | hsw | hsw | hsw
    · refine Ex_tableIn 64 dX8_count_1 (by rw [hsw]; decide) (by rw [hsw]; decide) (off := 63) (by rw [hsw]; rfl) (by decide) ?_
      refine Ex_aload_n 65 (i := 0) dX8_count_64 rfl rfl rfl ?_
      refine Ex_getR 68 dX8_count_65 fX8_19 (xH_0 hx) rfl (xH_2 hx) rfl ?_
      refine Ex_gI 71 (I dk 6) dX8_count_68 fX8_187 (xH_14 hx).1 rfl rfl rfl ?_
      rw [on]
      refine Ex_iret dX8_count_71 rfl rfl (Or.inl rfl) ?_
      have e1 : qv = 0 := hm_toInt hsw
      subst e1
      exact hQ
    · refine Ex_tableIn 72 dX8_count_1 (by rw [hsw]; decide) (by rw [hsw]; decide) (off := 71) (by rw [hsw]; rfl) (by decide) ?_
      refine Ex_aload_n 73 (i := 0) dX8_count_72 rfl rfl rfl ?_
      refine Ex_getR 76 dX8_count_73 fX8_19 (xH_0 hx) rfl (xH_2 hx) rfl ?_
      refine Ex_gI 79 (I dk 7) dX8_count_76 fX8_153 (xH_14 hx).1 rfl rfl rfl ?_
      rw [otk]
      refine Ex_iret dX8_count_79 rfl rfl (Or.inl rfl) ?_
      have e1 : qv = 1 := hm_toInt hsw
      subst e1
      exact hQ
    · refine Ex_tableIn 80 dX8_count_1 (by rw [hsw]; decide) (by rw [hsw]; decide) (off := 79) (by rw [hsw]; rfl) (by decide) ?_
      refine Ex_aload_n 81 (i := 0) dX8_count_80 rfl rfl rfl ?_
      refine Ex_getR 84 dX8_count_81 fX8_39 (xH_0 hx) rfl (xH_6 hx) rfl ?_
      refine Ex_gI 87 (I (h + 30) 7) dX8_count_84 fX8_281 (xH_18 hx).1 rfl rfl rfl ?_
      rw [hmin]
      refine Ex_iret dX8_count_87 rfl rfl (Or.inl rfl) ?_
      have e1 : qv = 2 := hm_toInt hsw
      subst e1
      exact hQ
    · refine Ex_tableIn 88 dX8_count_1 (by rw [hsw]; decide) (by rw [hsw]; decide) (off := 87) (by rw [hsw]; rfl) (by decide) ?_
      refine Ex_aload_n 89 (i := 0) dX8_count_88 rfl rfl rfl ?_
      refine Ex_getR 92 dX8_count_89 fX8_39 (xH_0 hx) rfl (xH_6 hx) rfl ?_
      refine Ex_gI 95 (I (h + 30) 4) dX8_count_92 fX8_129 (xH_18 hx).1 rfl rfl rfl ?_
      rw [hlen]
      refine Ex_iret dX8_count_95 rfl rfl (Or.inl rfl) ?_
      have e1 : qv = 3 := hm_toInt hsw
      subst e1
      exact hQ
    · refine Ex_tableIn 96 dX8_count_1 (by rw [hsw]; decide) (by rw [hsw]; decide) (off := 95) (by rw [hsw]; rfl) (by decide) ?_
      refine Ex_aload_n 97 (i := 0) dX8_count_96 rfl rfl rfl ?_
      refine Ex_getR 100 dX8_count_97 fX8_39 (xH_0 hx) rfl (xH_6 hx) rfl ?_
      refine Ex_callV (M' := MX1_lineBits) 103 [] (rest := []) dX8_count_100 lX8_215 mX1_lineBits rfl (xH_18 hx).1 rfl (Nat.le_of_ble_eq_true rfl) (Nat.le_of_ble_eq_true rfl) rfl ?_
      refine c_lineBits (xH_18 hx) hH ?_
      simp only [Option.toList, List.cons_append, List.nil_append]
      refine Ex_iret dX8_count_103 rfl rfl (Or.inl rfl) ?_
      have e1 : qv = 4 := hm_toInt hsw
      subst e1
      exact hQ
    · refine Ex_tableIn 104 dX8_count_1 (by rw [hsw]; decide) (by rw [hsw]; decide) (off := 103) (by rw [hsw]; rfl) (by decide) ?_
      refine Ex_aload_n 105 (i := 0) dX8_count_104 rfl rfl rfl ?_
      refine Ex_getR 108 dX8_count_105 fX8_39 (xH_0 hx) rfl (xH_6 hx) rfl ?_
      refine Ex_gI 111 (I (h + 30) 5) dX8_count_108 fX8_112 (xH_18 hx).1 rfl rfl rfl ?_
      rw [hset]
      refine Ex_iret dX8_count_111 rfl rfl (Or.inl rfl) ?_
      have e1 : qv = 5 := hm_toInt hsw
      subst e1
      exact hQ
    · refine Ex_tableIn 112 dX8_count_1 (by rw [hsw]; decide) (by rw [hsw]; decide) (off := 111) (by rw [hsw]; rfl) (by decide) ?_
      refine Ex_aload_n 113 (i := 0) dX8_count_112 rfl rfl rfl ?_
      refine Ex_getR 116 dX8_count_113 fX8_39 (xH_0 hx) rfl (xH_6 hx) rfl ?_
      refine Ex_aload_n 117 (i := 0) dX8_count_116 rfl rfl rfl ?_
      refine Ex_getR 120 dX8_count_117 fX8_19 (xH_0 hx) rfl (xH_2 hx) rfl ?_
      refine Ex_gI 123 (I dk 6) dX8_count_120 fX8_187 (xH_14 hx).1 rfl rfl rfl ?_
      rw [on]
      refine Ex_callV (M' := MX1_answersInAll) 126 [.int (nI (hmN O))] (rest := []) dX8_count_123 lX8_268 mX1_answersInAll rfl (xH_18 hx).1 rfl (Nat.le_of_ble_eq_true rfl) (Nat.le_of_ble_eq_true rfl) rfl ?_
      refine c_answersInAll (n := hmN O) (f := hmHas H) (xH_18 hx) (fun w hw => hhas w (by omega)) (fun w hw => hok.2.2.1 w (by omega)) o6 ?_
      simp only [Option.toList, List.cons_append, List.nil_append]
      refine Ex_iret dX8_count_126 rfl rfl (Or.inl rfl) ?_
      have e1 : qv = 6 := hm_toInt hsw
      subst e1
      exact hQ
    · refine Ex_tableIn 127 dX8_count_1 (by rw [hsw]; decide) (by rw [hsw]; decide) (off := 126) (by rw [hsw]; rfl) (by decide) ?_
      refine Ex_aload_n 128 (i := 0) dX8_count_127 rfl rfl rfl ?_
      refine Ex_getR 131 dX8_count_128 fX8_39 (xH_0 hx) rfl (xH_6 hx) rfl ?_
      refine Ex_gI 134 (I (h + 30) 6) dX8_count_131 fX8_284 (xH_18 hx).1 rfl rfl rfl ?_
      rw [htak]
      refine Ex_iret dX8_count_134 rfl rfl (Or.inl rfl) ?_
      have e1 : qv = 7 := hm_toInt hsw
      subst e1
      exact hQ
    · refine Ex_tableIn 135 dX8_count_1 (by rw [hsw]; decide) (by rw [hsw]; decide) (off := 134) (by rw [hsw]; rfl) (by decide) ?_
      refine Ex_aload_n 136 (i := 0) dX8_count_135 rfl rfl rfl ?_
      refine Ex_getR 139 dX8_count_136 fX8_29 (xH_0 hx) rfl (xH_4 hx) rfl ?_
      refine Ex_gI 142 (I pl 3) dX8_count_139 fX8_287 (xH_16 hx).1 rfl rfl rfl ?_
      rw [hln]
      refine Ex_iret dX8_count_142 rfl rfl (Or.inl rfl) ?_
      have e1 : qv = 8 := hm_toInt hsw
      subst e1
      exact hQ
    · refine Ex_tableIn 143 dX8_count_1 (by rw [hsw]; decide) (by rw [hsw]; decide) (off := 142) (by rw [hsw]; rfl) (by decide) ?_
      refine Ex_aload_n 144 (i := 0) dX8_count_143 rfl rfl rfl ?_
      refine Ex_gI 147 (I h 11) dX8_count_144 fX8_238 (xH_0 hx) rfl rfl rfl ?_
      rw [ht1]
      refine Ex_callS (M' := MJ6_bitCount_0f7a4) 150 [.int (hmTb t)] (rest := []) dX8_count_147 lX8_203 mJ6_bitCount_0f7a4 rfl rfl (Nat.le_of_ble_eq_true rfl) (Nat.le_of_ble_eq_true rfl) rfl ?_
      refine c_bitCountS (hm_s610 (hmTb_s6 t)) ?_
      rw [hmTc_cnt]
      simp only [Option.toList, List.cons_append, List.nil_append]
      refine Ex_iret dX8_count_150 rfl rfl (Or.inl rfl) ?_
      have e1 : qv = 9 := hm_toInt hsw
      subst e1
      exact hQ
    · refine Ex_tableIn 151 dX8_count_1 (by rw [hsw]; decide) (by rw [hsw]; decide) (off := 150) (by rw [hsw]; rfl) (by decide) ?_
      refine Ex_aload_n 152 (i := 0) dX8_count_151 rfl rfl rfl ?_
      refine Ex_gI 155 (I h 8) dX8_count_152 fX8_160 (xH_0 hx) rfl rfl rfl ?_
      rw [hnp]
      refine Ex_iret dX8_count_155 rfl rfl (Or.inl rfl) ?_
      have e1 : qv = 10 := hm_toInt hsw
      subst e1
      exact hQ
    · refine Ex_tableIn 156 dX8_count_1 (by rw [hsw]; decide) (by rw [hsw]; decide) (off := 155) (by rw [hsw]; rfl) (by decide) ?_
      refine Ex_aload_n 157 (i := 0) dX8_count_156 rfl rfl rfl ?_
      refine Ex_getR 160 dX8_count_157 fX8_10 (xH_0 hx) rfl (xH_1 hx) rfl ?_
      refine Ex_getR 163 dX8_count_160 fX8_71 (xH_13 hx).1 rfl (xH_13 hx).2.2.2.1 rfl ?_
      refine Ex_gI 166 (I (h + 2) 1) dX8_count_163 fX8_81 (xH_13 hx).2.1 rfl rfl rfl ?_
      rw [htp]
      refine Ex_iret dX8_count_166 rfl rfl (Or.inl rfl) ?_
      have e1 : qv = 11 := hm_toInt hsw
      subst e1
      exact hQ
