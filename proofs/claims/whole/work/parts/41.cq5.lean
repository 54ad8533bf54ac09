theorem hm_addB (a : Nat) (b : Bool) : nI a + hmB b = nI (a + if b = true then 1 else 0) := by
  cases b with
  | false =>
    show nI a + 0 = nI (a + 0)
    rw [Int32.add_zero, Nat.add_zero]
  | true =>
    show nI a + 1 = nI (a + 1)
    exact nI_1 a
theorem hm_nIsub {a b : Nat} (h : b ≤ a) (ha : a < 2147483648) : nI a - nI b = nI (a - b) := by
  apply Int32.toInt_inj.mp
  rw [Int32.toInt_sub, nI_toInt (by omega), nI_toInt (by omega), nI_toInt (by omega), Int.bmod_def]
  omega
theorem hm_max {a b : Nat} (ha : a < 2147483648) (hb : b < 2147483648) : (if nI a < nI b then nI b else nI a) = nI (max a b) := by
  by_cases h : a < b
  · rw [if_pos ((nI_ltI ha hb).mpr h), Nat.max_eq_right (by omega)]
  · rw [if_neg (fun q => h ((nI_ltI ha hb).mp q)), Nat.max_eq_left (by omega)]
set_option maxHeartbeats 4000000 in
theorem c_addToTally_loop {d : Nat} {sh : xSh} {R : xR} {L : xL} {I : xI} {Q : xQ} {h dk dd pl pd : Nat} (hx : xHM sh R h dk dd pl pd) {s : Int32} {g : Nat → Nat} (hs : hmS6 s) (hQ : (∀ I', (∀ x, x ≠ h + 48 → I' x = I x) → (∀ c, c < 6 → I' (h + 48) c = nI (g c + if hmBit s c = true then 1 else 0)) → Q none 0 sh R L I')) : ∀ n i J, n + i = 6 → (∀ x, x ≠ h + 48 → J x = I x) → (∀ c, c < 6 → J (h + 48) c = if c < i then nI (g c + if hmBit s c = true then 1 else 0) else nI (g c)) → Ex d 0 0 MX8_addToTally 0 sh R L J 2 [some (.ref h), some (.int s), some (.int (nI i))] [] Q := by
  intro n
  induction n with
  | zero =>
    intro i J hi hJ1 hJ2
    refine Ex_iload_n 3 (i := 2) dX8_addToTally_2 rfl rfl rfl ?_
    refine Ex_aload_n 4 (i := 0) dX8_addToTally_3 rfl rfl rfl ?_
    refine Ex_getR 7 dX8_addToTally_4 fX8_66 (xH_0 hx) rfl (xH_12 hx) rfl ?_
    refine Ex_alen 8 0 dX8_addToTally_7 (xH_24 hx) (fun _ => rfl) rfl ?_
    refine Ex_icmp_ge 11 31 dX8_addToTally_8 (by decide) rfl (fun c1 => ?_) (fun c1 => absurd c1 (fun q => q (nI_le (by omega) (by omega))))
    refine Ex_ret0 dX8_addToTally_31 rfl (Or.inl rfl) ?_
    exact hQ J hJ1 (fun c hc => by rw [hJ2 c hc, if_pos (by omega)])
  | succ n ih =>
    intro i J hi hJ1 hJ2
    refine Ex_iload_n 3 (i := 2) dX8_addToTally_2 rfl rfl rfl ?_
    refine Ex_aload_n 4 (i := 0) dX8_addToTally_3 rfl rfl rfl ?_
    refine Ex_getR 7 dX8_addToTally_4 fX8_66 (xH_0 hx) rfl (xH_12 hx) rfl ?_
    refine Ex_alen 8 0 dX8_addToTally_7 (xH_24 hx) (fun _ => rfl) rfl ?_
    refine Ex_icmp_ge 11 31 dX8_addToTally_8 (by decide) rfl (fun c1 => absurd c1 (nI_ge (by omega) (by omega))) (fun c1 => ?_)
    refine Ex_aload_n 12 (i := 0) dX8_addToTally_11 rfl rfl rfl ?_
    refine Ex_getR 15 dX8_addToTally_12 fX8_66 (xH_0 hx) rfl (xH_12 hx) rfl ?_
    refine Ex_iload_n 16 (i := 2) dX8_addToTally_15 rfl rfl rfl ?_
    refine Ex_dup2 17 dX8_addToTally_16 rfl rfl rfl ?_
    refine Ex_aI 18 i (J (h + 48) i) dX8_addToTally_17 (xH_24 hx) rfl (by omega) (by decide) rfl rfl ?_
    rw [hJ2 i (by omega), if_neg (Nat.lt_irrefl i)]
    refine Ex_iload_n 19 (i := 1) dX8_addToTally_18 rfl rfl rfl ?_
    refine Ex_iload_n 20 (i := 2) dX8_addToTally_19 rfl rfl rfl ?_
    refine Ex_ishr 21 dX8_addToTally_20 rfl ?_
    refine Ex_iconst 22 (v := 1) dX8_addToTally_21 (by decide) rfl ?_
    refine Ex_iand 23 dX8_addToTally_22 rfl ?_
    rw [hmBit_v hs (show i < 6 by omega)]
    refine Ex_iadd 24 dX8_addToTally_23 rfl ?_
    rw [hm_addB]
    refine Ex_sI 25 i (J (h + 48)) (va_up J (h + 48) (va_up (J (h + 48)) i (nI (g i + if hmBit s i = true then 1 else 0)))) dX8_addToTally_24 (xH_24 hx) rfl (by omega) (by decide) rfl rfl rfl ?_
    refine Ex_iinc 28 (v := (nI (i + 1))) (ls' := [some (.ref h), some (.int s), some (.int (nI (i + 1)))]) dX8_addToTally_25 rfl (xinc _) (Nat.le_of_ble_eq_true rfl) rfl rfl rfl ?_
    refine Ex_goto 2 dX8_addToTally_28 (by decide) ?_
    refine ih (i + 1) _ (by omega) (fun x hx => by rw [va_up_ne _ _ hx]; exact hJ1 x hx) (fun c hc => ?_)
    rw [va_up_self]
    by_cases e : c = i
    · subst e
      rw [va_up_self, if_pos (show c < c + 1 by omega)]
    · rw [va_up_ne _ _ e, hJ2 c hc]
      by_cases e2 : c < i
      · rw [if_pos e2, if_pos (show c < i + 1 by omega)]
      · rw [if_neg e2, if_neg (show ¬ c < i + 1 by omega)]
set_option maxHeartbeats 4000000 in
theorem c_addToTally {d : Nat} {sh : xSh} {R : xR} {L : xL} {I : xI} {Q : xQ} {h dk dd pl pd : Nat} (hx : xHM sh R h dk dd pl pd) {s : Int32} {g : Nat → Nat} (hs : hmS6 s) (hg : ∀ c, c < 6 → I (h + 48) c = nI (g c)) (hQ : (∀ I', (∀ x, x ≠ h + 48 → I' x = I x) → (∀ c, c < 6 → I' (h + 48) c = nI (g c + if hmBit s c = true then 1 else 0)) → Q none 0 sh R L I')) : Ex d 0 0 MX8_addToTally 0 sh R L I 0 [some (.ref h), some (.int s), none] [] Q := by
  refine Ex_iconst 1 (v := 0) dX8_addToTally_0 (by decide) rfl ?_
  refine Ex_istore_n 2 (i := 2) (ls' := [some (.ref h), some (.int s), some (.int 0)]) dX8_addToTally_1 rfl (Nat.le_of_ble_eq_true rfl) rfl rfl rfl ?_
  exact c_addToTally_loop hx hs hQ 6 0 I rfl (fun _ _ => rfl) (fun c hc => by rw [if_neg (by omega)]; exact hg c hc)
set_option maxHeartbeats 4000000 in
theorem c_evenestUntold_loop {d : Nat} {sh : xSh} {R : xR} {L : xL} {I : xI} {Q : xQ} {h dk dd pl pd : Nat} (hx : xHM sh R h dk dd pl pd) {O : hmO} (hO : hmD I dk O) (ho : hmOok O) {t : hmTo} (ht1 : I h 11 = hmTb t) {many : Nat} {g : Nat → Nat} (hmany : many < 1000) (hg : ∀ c, c < 6 → I (h + 48) c = nI (g c) ∧ g c ≤ many) (hQ : Q (some (.int (hmEv t many g (hmN O)).2)) 0 sh R L I) : ∀ n i, n + i = hmN O → Ex (d + 1) 0 0 MX8_evenestUntold 0 sh R L I 7 [some (.ref h), some (.int (nI many)), some (.int (nI (hmEv t many g i).1)), some (.int ((hmEv t many g i).2)), some (.int (nI i)), none] [] Q := by
  obtain ⟨on, otk, ow, olen, olaw⟩ := id hO
  have o6 := ho.1
  intro n
  induction n with
  | zero =>
    intro i hi
    refine Ex_iload 9 dX8_evenestUntold_7 rfl rfl ?_
    refine Ex_aload_n 10 (i := 0) dX8_evenestUntold_9 rfl rfl rfl ?_
    refine Ex_getR 13 dX8_evenestUntold_10 fX8_19 (xH_0 hx) rfl (xH_2 hx) rfl ?_
    refine Ex_gI 16 (I dk 6) dX8_evenestUntold_13 fX8_187 (xH_14 hx).1 rfl rfl rfl ?_
    rw [on]
    refine Ex_icmp_ge 19 70 dX8_evenestUntold_16 (by decide) rfl (fun c1 => ?_) (fun c1 => absurd c1 (fun q => q (nI_le (by omega) (by omega))))
    refine Ex_iload_n 71 (i := 3) dX8_evenestUntold_70 rfl rfl rfl ?_
    refine Ex_iret dX8_evenestUntold_71 rfl rfl (Or.inl rfl) ?_
    rw [show i = hmN O by omega]
    exact hQ
  | succ n ih =>
    intro i hi
    obtain ⟨hg1, hg2⟩ := hg i (by omega)
    have hle := hmEv_le t many g i
    refine Ex_iload 9 dX8_evenestUntold_7 rfl rfl ?_
    refine Ex_aload_n 10 (i := 0) dX8_evenestUntold_9 rfl rfl rfl ?_
    refine Ex_getR 13 dX8_evenestUntold_10 fX8_19 (xH_0 hx) rfl (xH_2 hx) rfl ?_
    refine Ex_gI 16 (I dk 6) dX8_evenestUntold_13 fX8_187 (xH_14 hx).1 rfl rfl rfl ?_
    rw [on]
    refine Ex_icmp_ge 19 70 dX8_evenestUntold_16 (by decide) rfl (fun c1 => absurd c1 (nI_ge (by omega) (by omega))) (fun c1 => ?_)
    refine Ex_aload_n 20 (i := 0) dX8_evenestUntold_19 rfl rfl rfl ?_
    refine Ex_getR 23 dX8_evenestUntold_20 fX8_66 (xH_0 hx) rfl (xH_12 hx) rfl ?_
    refine Ex_iload 25 dX8_evenestUntold_23 rfl rfl ?_
    refine Ex_aI 26 i (I (h + 48) i) dX8_evenestUntold_25 (xH_24 hx) rfl (by omega) (by decide) rfl rfl ?_
    rw [hg1]
    refine Ex_iload_n 27 (i := 1) dX8_evenestUntold_26 rfl rfl rfl ?_
    refine Ex_aload_n 28 (i := 0) dX8_evenestUntold_27 rfl rfl rfl ?_
    refine Ex_getR 31 dX8_evenestUntold_28 fX8_66 (xH_0 hx) rfl (xH_12 hx) rfl ?_
    refine Ex_iload 33 dX8_evenestUntold_31 rfl rfl ?_
    refine Ex_aI 34 i (I (h + 48) i) dX8_evenestUntold_33 (xH_24 hx) rfl (by omega) (by decide) rfl rfl ?_
    rw [hg1]
    refine Ex_isub 35 dX8_evenestUntold_34 rfl ?_
    rw [hm_nIsub hg2 (by omega)]
    refine Ex_max 38 dX8_evenestUntold_35 lmX8_319 (by decide) rfl ?_
    rw [hm_max (by omega) (by omega)]
    refine Ex_istore 40 (ls' := [some (.ref h), some (.int (nI many)), some (.int (nI (hmEv t many g i).1)), some (.int ((hmEv t many g i).2)), some (.int (nI i)), some (.int (nI (max (g i) (many - g i))))]) dX8_evenestUntold_38 (Nat.le_of_ble_eq_true rfl) rfl rfl rfl ?_
    refine Ex_aload_n 41 (i := 0) dX8_evenestUntold_40 rfl rfl rfl ?_
    refine Ex_gI 44 (I h 11) dX8_evenestUntold_41 fX8_238 (xH_0 hx) rfl rfl rfl ?_
    rw [ht1]
    refine Ex_iload 46 dX8_evenestUntold_44 rfl rfl ?_
    refine Ex_ishr 47 dX8_evenestUntold_46 rfl ?_
    refine Ex_iconst 48 (v := 1) dX8_evenestUntold_47 (by decide) rfl ?_
    refine Ex_iand 49 dX8_evenestUntold_48 rfl ?_
    refine Ex_if_ne 52 64 dX8_evenestUntold_49 (by decide) rfl (fun c2 => ?_) (fun c2 => ?_)
    · refine Ex_iinc 67 (v := (nI (i + 1))) (ls' := [some (.ref h), some (.int (nI many)), some (.int (nI (hmEv t many g i).1)), some (.int ((hmEv t many g i).2)), some (.int (nI (i + 1))), some (.int (nI (max (g i) (many - g i))))]) dX8_evenestUntold_64 rfl (xinc _) (Nat.le_of_ble_eq_true rfl) rfl rfl rfl ?_
      refine Ex_goto 7 dX8_evenestUntold_67 (by decide) ?_
      refine Ex_fgt (ls' := [some (.ref h), some (.int (nI many)), some (.int (nI (hmEv t many g i).1)), some (.int ((hmEv t many g i).2)), some (.int (nI (i + 1))), none]) (by simp [xsub]) ?_
      have hn : ¬ t i = none := fun q => by
        have h1 := hmTb_bit t (show i < 6 by omega)
        rw [q] at h1
        exact c2 (hmBit_z.mpr h1)
      have e : (hmEv t many g (i + 1)) = (hmEv t many g i) := by
        show (if t i = none ∧ _ then _ else _) = _
        rw [if_neg (fun q => hn q.1)]
      rw [← e]
      exact ih (i + 1) (by omega)
    · refine Ex_iload 54 dX8_evenestUntold_52 rfl rfl ?_
      refine Ex_iload_n 55 (i := 2) dX8_evenestUntold_54 rfl rfl rfl ?_
      refine Ex_icmp_ge 58 64 dX8_evenestUntold_55 (by decide) rfl (fun c3 => ?_) (fun c3 => ?_)
      · refine Ex_iinc 67 (v := (nI (i + 1))) (ls' := [some (.ref h), some (.int (nI many)), some (.int (nI (hmEv t many g i).1)), some (.int ((hmEv t many g i).2)), some (.int (nI (i + 1))), some (.int (nI (max (g i) (many - g i))))]) dX8_evenestUntold_64 rfl (xinc _) (Nat.le_of_ble_eq_true rfl) rfl rfl rfl ?_
        refine Ex_goto 7 dX8_evenestUntold_67 (by decide) ?_
        refine Ex_fgt (ls' := [some (.ref h), some (.int (nI many)), some (.int (nI (hmEv t many g i).1)), some (.int ((hmEv t many g i).2)), some (.int (nI (i + 1))), none]) (by simp [xsub]) ?_
        have hn : ¬ max (g i) (many - g i) < (hmEv t many g i).1 := fun q => absurd ((nI_ltI (by omega) (by omega)).mpr q) (Int32.not_lt.mpr c3)
        have e : (hmEv t many g (i + 1)) = (hmEv t many g i) := by
          show (if t i = none ∧ _ then _ else _) = _
          rw [if_neg (fun q => hn q.2)]
        rw [← e]
        exact ih (i + 1) (by omega)
      · refine Ex_iload 60 dX8_evenestUntold_58 rfl rfl ?_
        refine Ex_istore_n 61 (i := 2) (ls' := [some (.ref h), some (.int (nI many)), some (.int (nI (max (g i) (many - g i)))), some (.int ((hmEv t many g i).2)), some (.int (nI i)), some (.int (nI (max (g i) (many - g i))))]) dX8_evenestUntold_60 rfl (Nat.le_of_ble_eq_true rfl) rfl rfl rfl ?_
        refine Ex_iload 63 dX8_evenestUntold_61 rfl rfl ?_
        refine Ex_istore_n 64 (i := 3) (ls' := [some (.ref h), some (.int (nI many)), some (.int (nI (max (g i) (many - g i)))), some (.int (nI i)), some (.int (nI i)), some (.int (nI (max (g i) (many - g i))))]) dX8_evenestUntold_63 rfl (Nat.le_of_ble_eq_true rfl) rfl rfl rfl ?_
        refine Ex_iinc 67 (v := (nI (i + 1))) (ls' := [some (.ref h), some (.int (nI many)), some (.int (nI (max (g i) (many - g i)))), some (.int (nI i)), some (.int (nI (i + 1))), some (.int (nI (max (g i) (many - g i))))]) dX8_evenestUntold_64 rfl (xinc _) (Nat.le_of_ble_eq_true rfl) rfl rfl rfl ?_
        refine Ex_goto 7 dX8_evenestUntold_67 (by decide) ?_
        refine Ex_fgt (ls' := [some (.ref h), some (.int (nI many)), some (.int (nI (max (g i) (many - g i)))), some (.int (nI i)), some (.int (nI (i + 1))), none]) (by simp [xsub]) ?_
        have hn : t i = none := by
          have h1 := hmTb_bit t (show i < 6 by omega)
          rw [hmBit_z.mp c2] at h1
          cases ht : t i with
          | none => rfl
          | some b => rw [ht] at h1; exact absurd h1 (by simp)
        have hl : max (g i) (many - g i) < (hmEv t many g i).1 := (nI_ltI (by omega) (by omega)).mp (Int32.not_le.mp c3)
        have e : (hmEv t many g (i + 1)) = (max (g i) (many - g i), nI i) := by
          show (if t i = none ∧ _ then _ else _) = _
          rw [if_pos ⟨hn, hl⟩]
        refine Ex_l (ls' := [some (.ref h), some (.int (nI many)), some (.int (nI (hmEv t many g (i + 1)).1)), some (.int ((hmEv t many g (i + 1)).2)), some (.int (nI (i + 1))), none]) (by rw [e]) ?_
        exact ih (i + 1) (by omega)
set_option maxHeartbeats 4000000 in
theorem c_evenestUntold {d : Nat} {sh : xSh} {R : xR} {L : xL} {I : xI} {Q : xQ} {h dk dd pl pd : Nat} (hx : xHM sh R h dk dd pl pd) {O : hmO} (hO : hmD I dk O) (ho : hmOok O) {t : hmTo} (ht1 : I h 11 = hmTb t) {many : Nat} {g : Nat → Nat} (hmany : many < 1000) (hg : ∀ c, c < 6 → I (h + 48) c = nI (g c) ∧ g c ≤ many) (hQ : Q (some (.int (hmEv t many g (hmN O)).2)) 0 sh R L I) : Ex (d + 1) 0 0 MX8_evenestUntold 0 sh R L I 0 [some (.ref h), some (.int (nI many)), none, none, none, none] [] Q := by
  refine Ex_iload_n 1 (i := 1) dX8_evenestUntold_0 rfl rfl rfl ?_
  refine Ex_istore_n 2 (i := 2) (ls' := [some (.ref h), some (.int (nI many)), some (.int (nI many)), none, none, none]) dX8_evenestUntold_1 rfl (Nat.le_of_ble_eq_true rfl) rfl rfl rfl ?_
  refine Ex_iconst 3 (v := (-1)) dX8_evenestUntold_2 (by decide) rfl ?_
  refine Ex_istore_n 4 (i := 3) (ls' := [some (.ref h), some (.int (nI many)), some (.int (nI many)), some (.int (-1)), none, none]) dX8_evenestUntold_3 rfl (Nat.le_of_ble_eq_true rfl) rfl rfl rfl ?_
  refine Ex_iconst 5 (v := 0) dX8_evenestUntold_4 (by decide) rfl ?_
  refine Ex_istore 7 (ls' := [some (.ref h), some (.int (nI many)), some (.int (nI many)), some (.int (-1)), some (.int 0), none]) dX8_evenestUntold_5 (Nat.le_of_ble_eq_true rfl) rfl rfl rfl ?_
  exact c_evenestUntold_loop hx hO ho ht1 hmany hg hQ (hmN O) 0 (by omega)
/-- outside of the trial hall, the law's stack and the tally nothing has changed -/
def hmFt (h dk : Nat) (I I' : xI) : Prop := ∀ x, ¬ (h + 35 ≤ x ∧ x < h + 40) → x ≠ dk + 8 → x ≠ h + 48 → I' x = I x
theorem hmFt.rf {h dk : Nat} {I : xI} : hmFt h dk I I := fun _ _ _ _ => rfl
theorem hmFt.tr {h dk : Nat} {I J K : xI} (h1 : hmFt h dk I J) (h2 : hmFt h dk J K) : hmFt h dk I K := fun x a b c => (h2 x a b c).trans (h1 x a b c)
theorem hmFt.fd {h dk : Nat} {I J : xI} (h1 : hmFd (h + 35) dk I J) : hmFt h dk I J := fun x a b _ => h1 x (by omega) b
theorem hmFt.ut {h dk : Nat} {I J : xI} (h1 : ∀ x, x ≠ h + 48 → J x = I x) : hmFt h dk I J := fun x _ _ c => h1 x c
theorem hmFt.qf {h dk : Nat} {I J : xI} (h1 : hmFt h dk I J) : hmQf h dk I J := fun x a b c => h1 x a c (by omega)
theorem hmTl_no {p : Nat → Bool} {f : Nat → Int32} {c n : Nat} (h : p n = false) : hmTl p f c (n + 1) = hmTl p f c n := by
  show (if p n = true ∧ _ then _ else _) = _
  rw [h, if_neg (fun q => absurd q.1 (by decide))]
theorem hmTl_yes {p : Nat → Bool} {f : Nat → Int32} {c n : Nat} (h : p n = true) : hmTl p f c (n + 1) = hmTl p f c n + if hmBit (f n) c = true then 1 else 0 := by
  show (if p n = true ∧ _ then _ else _) = _
  by_cases hb : hmBit (f n) c = true
  · rw [if_pos ⟨h, hb⟩, if_pos hb]
  · rw [if_neg (fun q => hb q.2), if_neg hb, Nat.add_zero]
theorem hmSt_no {p : Nat → Bool} {F : Int32} {n : Nat} (h : p n = false) : hmSt p F (n + 1) = hmSt p F n := by
  show (if p n = true then _ else _) = _
  rw [h, if_neg (by decide)]
theorem hmSt_yes {p : Nat → Bool} {F : Int32} {n : Nat} (h : p n = true) : (hmSt p F (n + 1)).1 = (hmSt p F n).1 + 1 := by
  simp only [hmSt, h, if_true]
set_option maxHeartbeats 4000000 in
theorem c_ask_loop {d : Nat} {sh : xSh} {R : xR} {L : xL} {I : xI} {Q : xQ} {h dk dd pl pd : Nat} {O : hmO} {H : hmH} (hx : xHM sh R h dk dd pl pd) (hO : hmD I dk O) (ho : hmOok O) (hH : hmR I (h + 30) H) (hok : hmOk O H) (hmn : hmMin H < 800000) {t : hmTo} (ht1 : I h 11 = hmTb t) (ht2 : I h 12 = hmTs t) (hQ : ∀ I', hmQf h dk I I' → Q (some (.int (spAsk O H t))) 0 sh R L I') : ∀ n i J, n + i = 64 → hmFt h dk I J → (∀ c, c < 6 → J (h + 48) c = nI (hmTl (hmPs O H t) (fun s => spWith O H (nI s)) c i)) → Ex (d + 6) 0 0 MX8_ask 0 sh R L J 33 [some (.ref h), some (.int (nI (hmSt (hmPs O H t) (hmFree (hmN O) H) i).1)), some (.int (hmFree (hmN O) H)), some (.int (nI i)), none] [] Q := by
  obtain ⟨h6, hlen, hset, htak, hmin, hline, hhas, hheld, htalk⟩ := id hH
  obtain ⟨on, otk, ow, olen, olaw⟩ := id hO
  obtain ⟨o6, ot1, ot2, oo, oll, owf⟩ := id ho
  have hdd := xH_27 hx
  have hlN := hok.2.1
  intro n
  induction n with
  | zero =>
    intro i J hi gJ hJ2
    have hi64 : i = 64 := by omega
    subst hi64
    refine Ex_iload_n 34 (i := 3) dX8_ask_33 rfl rfl rfl ?_
    refine Ex_bipush 36 (v := 64) dX8_ask_34 (by decide) rfl ?_
    refine Ex_icmp_ge 39 88 dX8_ask_36 (by decide) rfl (fun c1 => ?_) (fun c1 => absurd c1 (fun q => q (nI_le (a := 64) (b := 64) (by omega) (by omega))))
    refine Ex_aload_n 89 (i := 0) dX8_ask_88 rfl rfl rfl ?_
    refine Ex_iload_n 90 (i := 1) dX8_ask_89 rfl rfl rfl ?_
    refine Ex_callV (M' := MX8_evenestUntold) 93 [.int (nI (hmSt (hmPs O H t) (hmFree (hmN O) H) 64).1)] (rest := []) dX8_ask_90 lX8_250 mX8_evenestUntold rfl (xH_0 hx) rfl (Nat.le_of_ble_eq_true rfl) (Nat.le_of_ble_eq_true rfl) rfl ?_
    have h1 := hmSt_le (p := hmPs O H t) (F := hmFree (hmN O) H) 64
    refine c_evenestUntold (many := (hmSt (hmPs O H t) (hmFree (hmN O) H) 64).1) (g := fun c => (hmTl (hmPs O H t) (fun s => spWith O H (nI s)) c 64)) (t := t) hx (hO.kept (fun x a b => gJ x (by omega) (by omega) (by omega))) ho (by rw [gJ h (by omega) (by omega) (by omega)]; exact ht1) (by omega) (fun c hc => ⟨hJ2 c hc, hmTl_le _ _⟩) ?_
    simp only [Option.toList, List.nil_append, List.cons_append]
    refine Ex_iret dX8_ask_93 rfl rfl (Or.inl rfl) ?_
    exact hQ J gJ.qf
  | succ n ih =>
    intro i J hi gJ hJ2
    refine Ex_iload_n 34 (i := 3) dX8_ask_33 rfl rfl rfl ?_
    refine Ex_bipush 36 (v := 64) dX8_ask_34 (by decide) rfl ?_
    refine Ex_icmp_ge 39 88 dX8_ask_36 (by decide) rfl (fun c1 => absurd c1 (nI_ge (b := 64) (by omega) (by omega))) (fun c1 => ?_)
    refine Ex_iload_n 40 (i := 3) dX8_ask_39 rfl rfl rfl ?_
    refine Ex_iload_n 41 (i := 2) dX8_ask_40 rfl rfl rfl ?_
    refine Ex_iconst 42 (v := (-1)) dX8_ask_41 (by decide) rfl ?_
    refine Ex_ixor 43 dX8_ask_42 rfl ?_
    refine Ex_iand 44 dX8_ask_43 rfl ?_
    refine Ex_if_ne 47 55 dX8_ask_44 (by decide) rfl (fun c2 => ?_) (fun c2 => ?_)
    · refine Ex_iconst 56 (v := (-1)) dX8_ask_55 (by decide) rfl ?_
      refine Ex_istore 58 (ls' := [some (.ref h), some (.int (nI (hmSt (hmPs O H t) (hmFree (hmN O) H) i).1)), some (.int (hmFree (hmN O) H)), some (.int (nI i)), some (.int (-1))]) dX8_ask_56 (Nat.le_of_ble_eq_true rfl) rfl rfl rfl ?_
      refine Ex_iload 60 dX8_ask_58 rfl rfl ?_
      refine Ex_iconst 61 (v := (-1)) dX8_ask_60 (by decide) rfl ?_
      refine Ex_icmp_eq 64 82 dX8_ask_61 (by decide) rfl (fun c3 => ?_) (fun c3 => absurd c3 (fun q => q rfl))
      refine Ex_iinc 85 (v := (nI (i + 1))) (ls' := [some (.ref h), some (.int (nI (hmSt (hmPs O H t) (hmFree (hmN O) H) i).1)), some (.int (hmFree (hmN O) H)), some (.int (nI (i + 1))), some (.int (-1))]) dX8_ask_82 rfl (xinc _) (Nat.le_of_ble_eq_true rfl) rfl rfl rfl ?_
      refine Ex_goto 33 dX8_ask_85 (by decide) ?_
      refine Ex_fgt (ls' := [some (.ref h), some (.int (nI (hmSt (hmPs O H t) (hmFree (hmN O) H) i).1)), some (.int (hmFree (hmN O) H)), some (.int (nI (i + 1))), none]) (by simp [xsub]) ?_
      have hp : hmPs O H t i = false := by simp only [hmPs, hmSub_no c2, Bool.false_and]
      rw [← hmSt_no (F := hmFree (hmN O) H) hp]
      exact ih (i + 1) J (by omega) gJ (fun c hc => by rw [hmTl_no hp]; exact hJ2 c hc)
    · refine Ex_aload_n 48 (i := 0) dX8_ask_47 rfl rfl rfl ?_
      refine Ex_iload_n 49 (i := 3) dX8_ask_48 rfl rfl rfl ?_
      refine Ex_callV (M' := MX8_settledWith) 52 [.int (nI i)] (rest := []) dX8_ask_49 lX8_208 mX8_settledWith rfl (xH_0 hx) rfl (Nat.le_of_ble_eq_true rfl) (Nat.le_of_ble_eq_true rfl) rfl ?_
      have hsub := hmSub_free o6 (hm_s6_nI (show i < 64 by omega)) (hmSub_yes c2)
      have hHJ : hmR J (h + 30) H := hH.kept (fun x a b => gJ x (by omega) (by omega) (by omega))
      have hOJ : hmD J dk O := hO.kept (fun x a b => gJ x (by omega) (by omega) (by omega))
      refine c_settledWith hx hOJ ho hHJ hok hmn hsub (fun I1 g1 => ?_)
      have gJ1 := gJ.tr (hmFt.fd g1)
      have hs6 := spWith_s6 hok ho hsub
      have hne : ¬ spWith O H (nI i) = -1 := fun q => by
        rw [q] at hs6
        obtain ⟨k, hk, e⟩ := hs6
        have h1 : (-1 : Int32).toInt = (nI k).toInt := by rw [e]
        rw [nI_toInt (by omega)] at h1
        have e1 : (-1 : Int32).toInt = -1 := by decide
        omega
      simp only [Option.toList, List.nil_append, List.cons_append]
      refine Ex_goto 56 dX8_ask_52 (by decide) ?_
      refine Ex_istore 58 (ls' := [some (.ref h), some (.int (nI (hmSt (hmPs O H t) (hmFree (hmN O) H) i).1)), some (.int (hmFree (hmN O) H)), some (.int (nI i)), some (.int (spWith O H (nI i)))]) dX8_ask_56 (Nat.le_of_ble_eq_true rfl) rfl rfl rfl ?_
      refine Ex_iload 60 dX8_ask_58 rfl rfl ?_
      refine Ex_iconst 61 (v := (-1)) dX8_ask_60 (by decide) rfl ?_
      refine Ex_icmp_eq 64 82 dX8_ask_61 (by decide) rfl (fun c4 => absurd c4 hne) (fun c4 => ?_)
      refine Ex_aload_n 65 (i := 0) dX8_ask_64 rfl rfl rfl ?_
      refine Ex_iload 67 dX8_ask_65 rfl rfl ?_
      refine Ex_callV (M' := MX8_isAsTold) 70 [.int (spWith O H (nI i))] (rest := []) dX8_ask_67 lX8_244 mX8_isAsTold rfl (xH_0 hx) rfl (Nat.le_of_ble_eq_true rfl) (Nat.le_of_ble_eq_true rfl) rfl ?_
      refine c_isAsTold hx (t := t) (by rw [gJ1 h (by omega) (by omega) (by omega)]; exact ht1) (by rw [gJ1 h (by omega) (by omega) (by omega)]; exact ht2) hs6 ?_
      simp only [Option.toList, List.cons_append, List.nil_append]
      refine Ex_if_eq 73 82 dX8_ask_70 (by decide) rfl (fun c5 => ?_) (fun c5 => ?_)
      · refine Ex_iinc 85 (v := (nI (i + 1))) (ls' := [some (.ref h), some (.int (nI (hmSt (hmPs O H t) (hmFree (hmN O) H) i).1)), some (.int (hmFree (hmN O) H)), some (.int (nI (i + 1))), some (.int (spWith O H (nI i)))]) dX8_ask_82 rfl (xinc _) (Nat.le_of_ble_eq_true rfl) rfl rfl rfl ?_
        refine Ex_goto 33 dX8_ask_85 (by decide) ?_
        refine Ex_fgt (ls' := [some (.ref h), some (.int (nI (hmSt (hmPs O H t) (hmFree (hmN O) H) i).1)), some (.int (hmFree (hmN O) H)), some (.int (nI (i + 1))), none]) (by simp [xsub]) ?_
        have hp : hmPs O H t i = false := by simp only [hmPs, hmB_eq c5, Bool.and_false]
        rw [← hmSt_no (F := hmFree (hmN O) H) hp]
        exact ih (i + 1) I1 (by omega) gJ1 (fun c hc => by rw [hmTl_no hp]; exact (by rw [g1 (h + 48) (by omega) (by omega)]; exact hJ2 c hc))
      · refine Ex_iinc 76 (v := (nI ((hmSt (hmPs O H t) (hmFree (hmN O) H) i).1 + 1))) (ls' := [some (.ref h), some (.int (nI ((hmSt (hmPs O H t) (hmFree (hmN O) H) i).1 + 1))), some (.int (hmFree (hmN O) H)), some (.int (nI i)), some (.int (spWith O H (nI i)))]) dX8_ask_73 rfl (xinc _) (Nat.le_of_ble_eq_true rfl) rfl rfl rfl ?_
        refine Ex_aload_n 77 (i := 0) dX8_ask_76 rfl rfl rfl ?_
        refine Ex_iload 79 dX8_ask_77 rfl rfl ?_
        refine Ex_callV (M' := MX8_addToTally) 82 [.int (spWith O H (nI i))] (rest := []) dX8_ask_79 lX8_247 mX8_addToTally rfl (xH_0 hx) rfl (Nat.le_of_ble_eq_true rfl) (Nat.le_of_ble_eq_true rfl) rfl ?_
        have hp : hmPs O H t i = true := by simp only [hmPs, hmSub_yes c2, hmB_ne c5, Bool.and_self]
        refine c_addToTally (g := fun c => (hmTl (hmPs O H t) (fun s => spWith O H (nI s)) c i)) hx hs6 (fun c hc => by rw [g1 (h + 48) (by omega) (by omega)]; exact hJ2 c hc) (fun I2 hI1 hI2 => ?_)
        have gJ2 := gJ1.tr (hmFt.ut hI1)
        simp only [Option.toList, List.nil_append, List.cons_append]
        refine Ex_iinc 85 (v := (nI (i + 1))) (ls' := [some (.ref h), some (.int (nI ((hmSt (hmPs O H t) (hmFree (hmN O) H) i).1 + 1))), some (.int (hmFree (hmN O) H)), some (.int (nI (i + 1))), some (.int (spWith O H (nI i)))]) dX8_ask_82 rfl (xinc _) (Nat.le_of_ble_eq_true rfl) rfl rfl rfl ?_
        refine Ex_goto 33 dX8_ask_85 (by decide) ?_
        refine Ex_fgt (ls' := [some (.ref h), some (.int (nI ((hmSt (hmPs O H t) (hmFree (hmN O) H) i).1 + 1))), some (.int (hmFree (hmN O) H)), some (.int (nI (i + 1))), none]) (by simp [xsub]) ?_
        have es := hmSt_yes (F := hmFree (hmN O) H) hp
        refine Ex_l (ls' := [some (.ref h), some (.int (nI (hmSt (hmPs O H t) (hmFree (hmN O) H) (i + 1)).1)), some (.int (hmFree (hmN O) H)), some (.int (nI (i + 1))), none]) (by rw [es]) ?_
        exact ih (i + 1) I2 (by omega) gJ2 (fun c hc => by rw [hmTl_yes hp]; exact hI2 c hc)
set_option maxHeartbeats 4000000 in
theorem c_ask_0 {d : Nat} {sh : xSh} {R : xR} {L : xL} {I : xI} {Q : xQ} {h dk dd pl pd : Nat} {O : hmO} {H : hmH} (hx : xHM sh R h dk dd pl pd) (hO : hmD I dk O) (ho : hmOok O) (hH : hmR I (h + 30) H) (hok : hmOk O H) (hmn : hmMin H < 800000) {t : hmTo} (ht1 : I h 11 = hmTb t) (ht2 : I h 12 = hmTs t) (hQ : ∀ I', hmQf h dk I I' → Q (some (.int (spAsk O H t))) 0 sh R L I') : ∀ n i J, n + i = 6 → (∀ x, x ≠ h + 48 → J x = I x) → (∀ c, c < i → J (h + 48) c = 0) → Ex (d + 6) 0 0 MX8_ask 0 sh R L J 4 [some (.ref h), some (.int 0), some (.int (nI i)), none, none] [] Q := by
  obtain ⟨h6, hlen, hset, htak, hmin, hline, hhas, hheld, htalk⟩ := id hH
  obtain ⟨on, otk, ow, olen, olaw⟩ := id hO
  obtain ⟨o6, ot1, ot2, oo, oll, owf⟩ := id ho
  have hdd := xH_27 hx
  have hlN := hok.2.1
  intro n
  induction n with
  | zero =>
    intro i J hi hJ1 hJ2
    refine Ex_iload_n 5 (i := 2) dX8_ask_4 rfl rfl rfl ?_
    refine Ex_aload_n 6 (i := 0) dX8_ask_5 rfl rfl rfl ?_
    refine Ex_getR 9 dX8_ask_6 fX8_66 (xH_0 hx) rfl (xH_12 hx) rfl ?_
    refine Ex_alen 10 0 dX8_ask_9 (xH_24 hx) (fun _ => rfl) rfl ?_
    refine Ex_icmp_ge 13 26 dX8_ask_10 (by decide) rfl (fun c1 => ?_) (fun c1 => absurd c1 (fun q => q (nI_le (by omega) (by omega))))
    refine Ex_aload_n 27 (i := 0) dX8_ask_26 rfl rfl rfl ?_
    refine Ex_callV (M' := MX8_freeCallers) 30 [] (rest := []) dX8_ask_27 lX8_199 mX8_freeCallers rfl (xH_0 hx) rfl (Nat.le_of_ble_eq_true rfl) (Nat.le_of_ble_eq_true rfl) rfl ?_
    refine c_freeCallers hx (hO.kept (fun x a b => hJ1 x (by omega))) ho (hH.kept (fun x a b => hJ1 x (by omega))) hok ?_
    simp only [Option.toList, List.cons_append, List.nil_append]
    refine Ex_istore_n 31 (i := 2) (ls' := [some (.ref h), some (.int 0), some (.int (hmFree (hmN O) H)), none, none]) dX8_ask_30 rfl (Nat.le_of_ble_eq_true rfl) rfl rfl rfl ?_
    refine Ex_iconst 32 (v := 0) dX8_ask_31 (by decide) rfl ?_
    refine Ex_istore_n 33 (i := 3) (ls' := [some (.ref h), some (.int 0), some (.int (hmFree (hmN O) H)), some (.int 0), none]) dX8_ask_32 rfl (Nat.le_of_ble_eq_true rfl) rfl rfl rfl ?_
    exact c_ask_loop hx hO ho hH hok hmn ht1 ht2 hQ 64 0 J rfl (hmFt.ut hJ1) (fun c hc => hJ2 c (by omega))
  | succ n ih =>
    intro i J hi hJ1 hJ2
    refine Ex_iload_n 5 (i := 2) dX8_ask_4 rfl rfl rfl ?_
    refine Ex_aload_n 6 (i := 0) dX8_ask_5 rfl rfl rfl ?_
    refine Ex_getR 9 dX8_ask_6 fX8_66 (xH_0 hx) rfl (xH_12 hx) rfl ?_
    refine Ex_alen 10 0 dX8_ask_9 (xH_24 hx) (fun _ => rfl) rfl ?_
    refine Ex_icmp_ge 13 26 dX8_ask_10 (by decide) rfl (fun c1 => absurd c1 (nI_ge (by omega) (by omega))) (fun c1 => ?_)
    refine Ex_aload_n 14 (i := 0) dX8_ask_13 rfl rfl rfl ?_
    refine Ex_getR 17 dX8_ask_14 fX8_66 (xH_0 hx) rfl (xH_12 hx) rfl ?_
    refine Ex_iload_n 18 (i := 2) dX8_ask_17 rfl rfl rfl ?_
    refine Ex_iconst 19 (v := 0) dX8_ask_18 (by decide) rfl ?_
    refine Ex_sI 20 i (J (h + 48)) (va_up J (h + 48) (va_up (J (h + 48)) i 0)) dX8_ask_19 (xH_24 hx) rfl (by omega) (by decide) rfl rfl rfl ?_
    refine Ex_iinc 23 (v := (nI (i + 1))) (ls' := [some (.ref h), some (.int 0), some (.int (nI (i + 1))), none, none]) dX8_ask_20 rfl (xinc _) (Nat.le_of_ble_eq_true rfl) rfl rfl rfl ?_
    refine Ex_goto 4 dX8_ask_23 (by decide) ?_
    refine ih (i + 1) _ (by omega) (fun x hx => by rw [va_up_ne _ _ hx]; exact hJ1 x hx) (fun c hc => ?_)
    rw [va_up_self]
    by_cases e : c = i
    · subst e
      rw [va_up_self]
    · rw [va_up_ne _ _ e]
      exact hJ2 c (by omega)
set_option maxHeartbeats 4000000 in
theorem c_ask {d : Nat} {sh : xSh} {R : xR} {L : xL} {I : xI} {Q : xQ} {h dk dd pl pd : Nat} {O : hmO} {H : hmH} (hx : xHM sh R h dk dd pl pd) (hO : hmD I dk O) (ho : hmOok O) (hH : hmR I (h + 30) H) (hok : hmOk O H) (hmn : hmMin H < 800000) {t : hmTo} (ht1 : I h 11 = hmTb t) (ht2 : I h 12 = hmTs t) (hQ : ∀ I', hmQf h dk I I' → Q (some (.int (spAsk O H t))) 0 sh R L I') : Ex (d + 6) 0 0 MX8_ask 0 sh R L I 0 [some (.ref h), none, none, none, none] [] Q := by
  refine Ex_iconst 1 (v := 0) dX8_ask_0 (by decide) rfl ?_
  refine Ex_istore_n 2 (i := 1) (ls' := [some (.ref h), some (.int 0), none, none, none]) dX8_ask_1 rfl (Nat.le_of_ble_eq_true rfl) rfl rfl rfl ?_
  refine Ex_iconst 3 (v := 0) dX8_ask_2 (by decide) rfl ?_
  refine Ex_istore_n 4 (i := 2) (ls' := [some (.ref h), some (.int 0), some (.int 0), none, none]) dX8_ask_3 rfl (Nat.le_of_ble_eq_true rfl) rfl rfl rfl ?_
  exact c_ask_0 hx hO ho hH hok hmn ht1 ht2 hQ 6 0 I rfl (fun _ _ => rfl) (fun c hc => absurd hc (by omega))
