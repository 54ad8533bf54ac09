set_option maxHeartbeats 4000000 in
theorem mc_tells_62 {d : Nat} {sh : xSh} {R : xR} {L : xL} {I : xI} {Q : xQ} {m : Nat} {H : hmH} {O : hmO} (hm : xModel sh R m) (hS : hmMr (I (m + 28)) H) (hO : hmMo I m O) (ho : hmOok O) {fr to : Nat} {bh : Option Nat} (hfr : fr < hmN O) (hto : to < hmN O) (hbh : ∀ b, bh = some b → b < 6) (hQ : ∀ I', hmFm m I I' → hmMr (I' (m + 28)) (hmLine H, hmTell O (hmHas H) (hmHeld H) (hmTalk H to fr) fr to bh, hmHeld H, hmTalk H, hmSet H, hmTak H, hmMin H) → Q none 0 sh R L I') : Ex (d + 4) 0 0 MX9_tells 0 sh R L I 62 [some (.ref m), some (.int (nI fr)), some (.int (nI to)), some (.int (hmOb bh)), some (.int (hmSaid O (hmHas H) fr to bh))] [] Q := by
  obtain ⟨s6, smin, slen, sset, stak, sline, sheld, shas, stalk⟩ := id hS
  obtain ⟨o6, ot1, ot2, oo, oll, owf⟩ := id ho
  obtain ⟨on, otk, ow, cd, cfrom, cto, clen, ccd, csem⟩ := id hO
  refine Ex_aload_n 63 (i := 0) dX9_tells_62 rfl rfl rfl ?_
  refine Ex_getR 66 dX9_tells_63 fX9_20 (xMs_0 hm) rfl (xMr_12 hm) rfl ?_
  refine Ex_iload_n 67 (i := 2) dX9_tells_66 rfl rfl rfl ?_
  refine Ex_aI 68 to (I (m + 4) to) dX9_tells_67 (xMs_4 hm) rfl (by omega) (by decide) rfl rfl ?_
  rw [(ow to hto).1]
  refine Ex_iconst 69 (v := 3) dX9_tells_68 (by decide) rfl ?_
  refine Ex_icmp_eq 72 95 dX9_tells_69 (by decide) rfl (fun c1 => ?_) (fun c1 => ?_)
  · refine Ex_ret0 dX9_tells_95 rfl (Or.inl rfl) ?_
    have h3 : hmKi O to = 3 := (hm_ki (oo to hto).1 3 (by decide)).mp c1
    refine hQ I hmFm.rf ?_
    have e : hmTell O (hmHas H) (hmHeld H) (hmTalk H to fr) fr to bh = hmHas H := if_pos (Or.inl h3)
    rw [e]
    exact hS
  · refine Ex_aload_n 73 (i := 0) dX9_tells_72 rfl rfl rfl ?_
    refine Ex_iload_n 74 (i := 2) dX9_tells_73 rfl rfl rfl ?_
    refine Ex_iload_n 75 (i := 1) dX9_tells_74 rfl rfl rfl ?_
    refine Ex_callV (M' := MX9_believes) 78 [.int (nI to), .int (nI fr)] (rest := []) dX9_tells_75 lX9_328 mX9_believes rfl (xMs_0 hm) rfl (Nat.le_of_ble_eq_true rfl) (Nat.le_of_ble_eq_true rfl) rfl ?_
    refine mc_believes hm hS hO ho hfr hto (fun I1 hF1 => ?_)
    simp only [Option.toList, List.cons_append, List.nil_append]
    refine Ex_if_eq 81 95 dX9_tells_78 (by decide) rfl (fun c2 => ?_) (fun c2 => ?_)
    · refine Ex_ret0 dX9_tells_95 rfl (Or.inl rfl) ?_
      have h0 : hmLaw O (hmHas H) (hmHeld H) (hmTalk H to fr) fr to = 0 := by
        have h1 := (hmB_0 _).mp c2
        simpa using h1
      refine hQ I1 (fun x hx hx2 => hF1 x hx2) ?_
      have e : hmTell O (hmHas H) (hmHeld H) (hmTalk H to fr) fr to bh = hmHas H := if_pos (Or.inr h0)
      rw [e, hF1 _ (by omega)]
      exact hS
    · refine Ex_aload_n 82 (i := 0) dX9_tells_81 rfl rfl rfl ?_
      refine Ex_getR 85 dX9_tells_82 fX9_93 (xMs_0 hm) rfl (xMr_39 hm) rfl ?_
      refine Ex_bipush 87 (v := 16) dX9_tells_85 (by decide) rfl ?_
      refine Ex_iload_n 88 (i := 2) dX9_tells_87 rfl rfl rfl ?_
      refine Ex_iadd 89 dX9_tells_88 rfl ?_
      refine Ex_dup2 90 dX9_tells_89 rfl rfl rfl ?_
      refine Ex_aI 91 (16 + to) (I (m + 28) (16 + to)) dX9_tells_90 (xMs_28 hm) (hm_ad rfl rfl) (by omega) (by decide) (congrFun (hF1 _ (by omega)) _) rfl ?_
      rw [shas to (by omega)]
      refine Ex_iload 93 dX9_tells_91 rfl rfl ?_
      refine Ex_ior 94 dX9_tells_93 rfl ?_
      refine Ex_sI 95 (16 + to) (I (m + 28)) (va_up I1 (m + 28) (va_up (I (m + 28)) (16 + to) ((hmHas H to) ||| (hmSaid O (hmHas H) fr to bh)))) dX9_tells_94 (xMs_28 hm) (hm_ad rfl rfl) (by omega) (by decide) (hF1 _ (by omega)) rfl rfl ?_
      refine Ex_ret0 dX9_tells_95 rfl (Or.inl rfl) ?_
      have h3 : ¬ hmKi O to = 3 := fun q => c1 ((hm_ki (oo to hto).1 3 (by decide)).mpr q)
      have h0 : ¬ hmLaw O (hmHas H) (hmHeld H) (hmTalk H to fr) fr to = 0 := by
        intro q
        refine c2 ((hmB_0 _).mpr ?_)
        simp [q]
      have e : hmTell O (hmHas H) (hmHeld H) (hmTalk H to fr) fr to bh = va_up (hmHas H) to (hmHas H to ||| (hmSaid O (hmHas H) fr to bh)) := if_neg (fun q => q.elim h3 h0)
      refine hQ _ (fun x hx hx2 => by rw [va_up_ne _ _ hx]; exact hF1 x hx2) ?_
      rw [va_up_self, e]
      refine ⟨s6, ?_, ?_, ?_, ?_, fun i hi => ?_, fun x hx => ?_, fun x hx => ?_, fun x hx y hy => ?_⟩
      · rw [va_up_ne _ _ (by omega)]; exact smin
      · rw [va_up_ne _ _ (by omega)]; exact slen
      · rw [va_up_ne _ _ (by omega)]; exact sset
      · rw [va_up_ne _ _ (by omega)]; exact stak
      · have hi2 : i < (hmLine H).length := hi
        rw [va_up_ne _ _ (by omega)]; exact sline i hi
      · rw [va_up_ne _ _ (by omega)]; exact sheld x hx
      · show _ = va_up (hmHas H) to (hmHas H to ||| (hmSaid O (hmHas H) fr to bh)) x
        by_cases ex : x = to
        · subst ex; rw [va_up_self, va_up_self]
        · rw [va_up_ne _ _ (by omega), va_up_ne _ _ ex]; exact shas x hx
      · rw [va_up_ne _ _ (by omega)]; exact stalk x hx y hy
set_option maxHeartbeats 4000000 in
theorem mc_tells {d : Nat} {sh : xSh} {R : xR} {L : xL} {I : xI} {Q : xQ} {m : Nat} {H : hmH} {O : hmO} (hm : xModel sh R m) (hS : hmMr (I (m + 28)) H) (hO : hmMo I m O) (ho : hmOok O) {fr to : Nat} {bh : Option Nat} (hfr : fr < hmN O) (hto : to < hmN O) (hbh : ∀ b, bh = some b → b < 6) (hQ : ∀ I', hmFm m I I' → hmMr (I' (m + 28)) (hmLine H, hmTell O (hmHas H) (hmHeld H) (hmTalk H to fr) fr to bh, hmHeld H, hmTalk H, hmSet H, hmTak H, hmMin H) → Q none 0 sh R L I') : Ex (d + 4) 0 0 MX9_tells 0 sh R L I 0 [some (.ref m), some (.int (nI fr)), some (.int (nI to)), some (.int (hmOb bh)), none] [] Q := by
  obtain ⟨s6, smin, slen, sset, stak, sline, sheld, shas, stalk⟩ := id hS
  obtain ⟨o6, ot1, ot2, oo, oll, owf⟩ := id ho
  obtain ⟨on, otk, ow, cd, cfrom, cto, clen, ccd, csem⟩ := id hO
  refine Ex_aload_n 1 (i := 0) dX9_tells_0 rfl rfl rfl ?_
  refine Ex_getR 4 dX9_tells_1 fX9_93 (xMs_0 hm) rfl (xMr_39 hm) rfl ?_
  refine Ex_bipush 6 (v := 16) dX9_tells_4 (by decide) rfl ?_
  refine Ex_iload_n 7 (i := 1) dX9_tells_6 rfl rfl rfl ?_
  refine Ex_iadd 8 dX9_tells_7 rfl ?_
  refine Ex_aI 9 (16 + fr) (I (m + 28) (16 + fr)) dX9_tells_8 (xMs_28 hm) (hm_ad rfl rfl) (by omega) (by decide) rfl rfl ?_
  rw [shas fr (by omega)]
  refine Ex_istore 11 (ls' := [some (.ref m), some (.int (nI fr)), some (.int (nI to)), some (.int (hmOb bh)), some (.int (hmHas H fr))]) dX9_tells_9 (Nat.le_of_ble_eq_true rfl) rfl rfl rfl ?_
  refine Ex_aload_n 12 (i := 0) dX9_tells_11 rfl rfl rfl ?_
  refine Ex_getR 15 dX9_tells_12 fX9_20 (xMs_0 hm) rfl (xMr_12 hm) rfl ?_
  refine Ex_iload_n 16 (i := 1) dX9_tells_15 rfl rfl rfl ?_
  refine Ex_aI 17 fr (I (m + 4) fr) dX9_tells_16 (xMs_4 hm) rfl (by omega) (by decide) rfl rfl ?_
  rw [(ow fr hfr).1]
  refine Ex_iconst 18 (v := 1) dX9_tells_17 (by decide) rfl ?_
  refine Ex_icmp_ne 21 34 dX9_tells_18 (by decide) rfl (fun c1 => ?_) (fun c1 => ?_)
  · refine Ex_aload_n 35 (i := 0) dX9_tells_34 rfl rfl rfl ?_
    refine Ex_getR 38 dX9_tells_35 fX9_20 (xMs_0 hm) rfl (xMr_12 hm) rfl ?_
    refine Ex_iload_n 39 (i := 1) dX9_tells_38 rfl rfl rfl ?_
    refine Ex_aI 40 fr (I (m + 4) fr) dX9_tells_39 (xMs_4 hm) rfl (by omega) (by decide) rfl rfl ?_
    rw [(ow fr hfr).1]
    refine Ex_iconst 41 (v := 2) dX9_tells_40 (by decide) rfl ?_
    refine Ex_icmp_ne 44 62 dX9_tells_41 (by decide) rfl (fun c2 => ?_) (fun c2 => ?_)
    · have k1 : ¬ hmKi O fr = 1 := fun q => c1 ((hm_ki (oo fr hfr).1 1 (by decide)).mpr q)
      have k2 : ¬ hmKi O fr = 2 := fun q => c2 ((hm_ki (oo fr hfr).1 2 (by decide)).mpr q)
      have e : (hmSaid O (hmHas H) fr to bh) = hmHas H fr := by
        unfold hmSaid
        rw [if_neg k1, if_neg k2]
      rw [← e]
      exact mc_tells_62 hm hS hO ho hfr hto hbh hQ
    · refine Ex_iload_n 45 (i := 3) dX9_tells_44 rfl rfl rfl ?_
      refine Ex_if_lt 48 62 dX9_tells_45 (by decide) rfl (fun c3 => ?_) (fun c3 => ?_)
      · have k1 : ¬ hmKi O fr = 1 := fun q => c1 ((hm_ki (oo fr hfr).1 1 (by decide)).mpr q)
        have k2 : hmKi O fr = 2 := (hm_ki (oo fr hfr).1 2 (by decide)).mp c2
        have hb0 : bh = none := by
          cases bh with
          | none => rfl
          | some b => exact absurd c3 (nI_pos (by have := hbh b rfl; omega))
        have e : (hmSaid O (hmHas H) fr to bh) = hmHas H fr := by
          subst hb0
          unfold hmSaid
          rw [if_neg k1, if_pos k2]
        rw [← e]
        exact mc_tells_62 hm hS hO ho hfr hto hbh hQ
      · obtain ⟨b, rfl⟩ : ∃ b, bh = some b := by
          cases bh with
          | none => exact absurd (show hmOb none < 0 by decide) c3
          | some b => exact ⟨b, rfl⟩
        have hb6 := hbh b rfl
        simp only [hmOb]
        refine Ex_iload 50 dX9_tells_48 rfl rfl ?_
        refine Ex_aload_n 51 (i := 0) dX9_tells_50 rfl rfl rfl ?_
        refine Ex_getR 54 dX9_tells_51 fX9_93 (xMs_0 hm) rfl (xMr_39 hm) rfl ?_
        refine Ex_bipush 56 (v := 16) dX9_tells_54 (by decide) rfl ?_
        refine Ex_iload_n 57 (i := 3) dX9_tells_56 rfl rfl rfl ?_
        refine Ex_iadd 58 dX9_tells_57 rfl ?_
        refine Ex_aI 59 (16 + b) (I (m + 28) (16 + b)) dX9_tells_58 (xMs_28 hm) (hm_ad rfl rfl) (by omega) (by decide) rfl rfl ?_
        rw [shas b (by omega)]
        refine Ex_ior 60 dX9_tells_59 rfl ?_
        refine Ex_istore 62 (ls' := [some (.ref m), some (.int (nI fr)), some (.int (nI to)), some (.int (nI b)), some (.int ((hmHas H fr) ||| (hmHas H b)))]) dX9_tells_60 (Nat.le_of_ble_eq_true rfl) rfl rfl rfl ?_
        have k1 : ¬ hmKi O fr = 1 := fun q => c1 ((hm_ki (oo fr hfr).1 1 (by decide)).mpr q)
        have k2 : hmKi O fr = 2 := (hm_ki (oo fr hfr).1 2 (by decide)).mp c2
        have e : hmSaid O (hmHas H) fr to (some b) = hmHas H fr ||| hmHas H b := by
          unfold hmSaid
          rw [if_neg k1, if_pos k2]
        rw [← e]
        exact mc_tells_62 hm hS hO ho hfr hto hbh hQ
  · refine Ex_iload 23 dX9_tells_21 rfl rfl ?_
    refine Ex_iconst 24 (v := 1) dX9_tells_23 (by decide) rfl ?_
    refine Ex_aload_n 25 (i := 0) dX9_tells_24 rfl rfl rfl ?_
    refine Ex_getR 28 dX9_tells_25 fX9_23 (xMs_0 hm) rfl (xMr_13 hm) rfl ?_
    refine Ex_iload_n 29 (i := 2) dX9_tells_28 rfl rfl rfl ?_
    refine Ex_aI 30 to (I (m + 5) to) dX9_tells_29 (xMs_5 hm) rfl (by omega) (by decide) rfl rfl ?_
    rw [(ow to hto).2.1]
    refine Ex_ishl 31 dX9_tells_30 rfl ?_
    refine Ex_iand 32 dX9_tells_31 rfl ?_
    refine Ex_istore 34 (ls' := [some (.ref m), some (.int (nI fr)), some (.int (nI to)), some (.int (hmOb bh)), some (.int ((hmHas H fr) &&& (1 <<< ((nI (hmTr O to)) &&& 31))))]) dX9_tells_32 (Nat.le_of_ble_eq_true rfl) rfl rfl rfl ?_
    refine Ex_aload_n 35 (i := 0) dX9_tells_34 rfl rfl rfl ?_
    refine Ex_getR 38 dX9_tells_35 fX9_20 (xMs_0 hm) rfl (xMr_12 hm) rfl ?_
    refine Ex_iload_n 39 (i := 1) dX9_tells_38 rfl rfl rfl ?_
    refine Ex_aI 40 fr (I (m + 4) fr) dX9_tells_39 (xMs_4 hm) rfl (by omega) (by decide) rfl rfl ?_
    rw [(ow fr hfr).1]
    refine Ex_iconst 41 (v := 2) dX9_tells_40 (by decide) rfl ?_
    refine Ex_icmp_ne 44 62 dX9_tells_41 (by decide) rfl (fun c4 => ?_) (fun c4 => ?_)
    · have k1 : hmKi O fr = 1 := (hm_ki (oo fr hfr).1 1 (by decide)).mp c1
      have k2 : ¬ hmKi O fr = 2 := fun q => c4 ((hm_ki (oo fr hfr).1 2 (by decide)).mpr q)
      have e : (hmSaid O (hmHas H) fr to bh) = hmHas H fr &&& (1 <<< (nI (hmTr O to) &&& 31)) := if_pos k1
      rw [← e]
      exact mc_tells_62 hm hS hO ho hfr hto hbh hQ
    · refine Ex_iload_n 45 (i := 3) dX9_tells_44 rfl rfl rfl ?_
      refine Ex_if_lt 48 62 dX9_tells_45 (by decide) rfl (fun c5 => ?_) (fun c5 => ?_)
      · have k1 : hmKi O fr = 1 := (hm_ki (oo fr hfr).1 1 (by decide)).mp c1
        have k2 : hmKi O fr = 2 := (hm_ki (oo fr hfr).1 2 (by decide)).mp c4
        omega
      · obtain ⟨b, rfl⟩ : ∃ b, bh = some b := by
          cases bh with
          | none => exact absurd (show hmOb none < 0 by decide) c5
          | some b => exact ⟨b, rfl⟩
        have hb6 := hbh b rfl
        simp only [hmOb]
        refine Ex_iload 50 dX9_tells_48 rfl rfl ?_
        refine Ex_aload_n 51 (i := 0) dX9_tells_50 rfl rfl rfl ?_
        refine Ex_getR 54 dX9_tells_51 fX9_93 (xMs_0 hm) rfl (xMr_39 hm) rfl ?_
        refine Ex_bipush 56 (v := 16) dX9_tells_54 (by decide) rfl ?_
        refine Ex_iload_n 57 (i := 3) dX9_tells_56 rfl rfl rfl ?_
        refine Ex_iadd 58 dX9_tells_57 rfl ?_
        refine Ex_aI 59 (16 + b) (I (m + 28) (16 + b)) dX9_tells_58 (xMs_28 hm) (hm_ad rfl rfl) (by omega) (by decide) rfl rfl ?_
        rw [shas b (by omega)]
        refine Ex_ior 60 dX9_tells_59 rfl ?_
        refine Ex_istore 62 (ls' := [some (.ref m), some (.int (nI fr)), some (.int (nI to)), some (.int (nI b)), some (.int (((hmHas H fr) &&& (1 <<< ((nI (hmTr O to)) &&& 31))) ||| (hmHas H b)))]) dX9_tells_60 (Nat.le_of_ble_eq_true rfl) rfl rfl rfl ?_
        have k1 : hmKi O fr = 1 := (hm_ki (oo fr hfr).1 1 (by decide)).mp c1
        have k2 : hmKi O fr = 2 := (hm_ki (oo fr hfr).1 2 (by decide)).mp c4
        omega
theorem hm_mtalk2 {r : Nat → Int32} {tk : Nat → Nat → Nat} {p q : Nat} (hp : p < 6) (hq : q < 6) (hpq : p ≠ q) (hsy : tk p q = tk q p) (h : ∀ x, x < 6 → ∀ y, y < 6 → r (22 + 6 * x + y) = nI (tk x y)) : ∀ x, x < 6 → ∀ y, y < 6 → va_up (va_up r (22 + 6 * p + q) (nI (tk p q + 1))) (22 + 6 * q + p) (nI (tk q p + 1)) (22 + 6 * x + y) = nI (hmTalk2 tk p q x y) := by
  intro x hx y hy
  unfold hmTalk2
  by_cases h2 : x = q ∧ y = p
  · obtain ⟨rfl, rfl⟩ := h2
    rw [if_pos (Or.inr ⟨rfl, rfl⟩), va_up_self, hsy]
  · by_cases h1 : x = p ∧ y = q
    · obtain ⟨rfl, rfl⟩ := h1
      rw [if_pos (Or.inl ⟨rfl, rfl⟩), va_up_ne _ _ (by omega), va_up_self]
    · rw [if_neg (fun z => z.elim h1 h2), va_up_ne _ _ (by omega), va_up_ne _ _ (by omega)]
      exact h x hx y hy
theorem hm_mrow_talk {r : Nat → Int32} {H : hmH} {p q : Nat} (hS : hmMr r H) (hp : p < 6) (hq : q < 6) (hpq : p ≠ q) (hsy : hmTalk H p q = hmTalk H q p) : hmMr (va_up (va_up r (22 + 6 * p + q) (nI (hmTalk H p q + 1))) (22 + 6 * q + p) (nI (hmTalk H q p + 1))) (hmLine H, hmHas H, hmHeld H, hmTalk2 (hmTalk H) p q, hmSet H, hmTak H, hmMin H) := by
  obtain ⟨s6, smin, slen, sset, stak, sline, sheld, shas, stalk⟩ := id hS
  have low : ∀ j, j < 22 → va_up (va_up r (22 + 6 * p + q) (nI (hmTalk H p q + 1))) (22 + 6 * q + p) (nI (hmTalk H q p + 1)) j = r j := fun j hj => by rw [va_up_ne _ _ (by omega), va_up_ne _ _ (by omega)]
  refine ⟨s6, by rw [low _ (by omega)]; exact smin, by rw [low _ (by omega)]; exact slen, by rw [low _ (by omega)]; exact sset, by rw [low _ (by omega)]; exact stak, fun i hi => ?_, fun x hx => by rw [low _ (by omega)]; exact sheld x hx, fun x hx => by rw [low _ (by omega)]; exact shas x hx, hm_mtalk2 hp hq hpq hsy stalk⟩
  have hi2 : i < (hmLine H).length := hi
  rw [low _ (by omega)]; exact sline i hi
set_option maxHeartbeats 4000000 in
theorem mc_talks_loop {d : Nat} {sh : xSh} {R : xR} {L : xL} {I : xI} {Q : xQ} {m : Nat} {H : hmH} {O : hmO} (hm : xModel sh R m) (hS : hmMr (I (m + 28)) H) (hO : hmMo I m O) (ho : hmOok O) (hok : hmOk O H) (hQ : ∀ I', hmFm m I I' → hmMr (I' (m + 28)) (hmPairs O H ((hmLine H).length / 2)) → Q none 0 sh R L I') : ∀ (n k : Nat) (J : xI), n + k = (hmLine H).length / 2 → hmFm m I J → hmMr (J (m + 28)) (hmPairs O H k) → Ex (d + 5) 0 0 MX9_talks 0 sh R L J 2 [some (.ref m), some (.int (nI (2 * k))), none, none, none] [] Q := by
  obtain ⟨o6, ot1, ot2, oo, oll, owf⟩ := id ho
  have hl6 : (hmLine H).length ≤ 6 := hS.1
  intro n
  induction n with
  | zero =>
    intro k J hn hFm hSJ
    have hOJ : hmMo J m O := hO.fm hFm
    have hokJ := hmOk_pairs hok ho.1 k (by omega)
    obtain ⟨j6, jmin, jlen, jset, jtak, jline, jheld, jhas, jtalk⟩ := id hSJ
    rw [hmPairs_line] at jlen jline
    have jsym := hokJ.2.2.2.2.2.2.2.2
    refine Ex_iload_n 3 (i := 1) dX9_talks_2 rfl rfl rfl ?_
    refine Ex_iconst 4 (v := 1) dX9_talks_3 (by decide) rfl ?_
    refine Ex_iadd 5 dX9_talks_4 rfl ?_
    refine Ex_aload_n 6 (i := 0) dX9_talks_5 rfl rfl rfl ?_
    refine Ex_getR 9 dX9_talks_6 fX9_93 (xMs_0 hm) rfl (xMr_39 hm) rfl ?_
    refine Ex_iconst 10 (v := 1) dX9_talks_9 (by decide) rfl ?_
    refine Ex_aI 11 1 (J (m + 28) 1) dX9_talks_10 (xMs_28 hm) rfl (by decide) (by decide) rfl rfl ?_
    rw [jlen, nI_1]
    refine Ex_icmp_ge 14 120 dX9_talks_11 (by decide) rfl (fun c1 => ?_) (fun c1 => absurd c1 (fun q => q (nI_le (by omega) (by omega))))
    refine Ex_ret0 dX9_talks_120 rfl (Or.inl rfl) ?_
    have hk : k = (hmLine H).length / 2 := by omega
    subst hk
    exact hQ J hFm hSJ
  | succ n ih =>
    intro k J hn hFm hSJ
    have hOJ : hmMo J m O := hO.fm hFm
    have hokJ := hmOk_pairs hok ho.1 k (by omega)
    obtain ⟨j6, jmin, jlen, jset, jtak, jline, jheld, jhas, jtalk⟩ := id hSJ
    rw [hmPairs_line] at jlen jline
    have jsym := hokJ.2.2.2.2.2.2.2.2
    have hlN := hok.2.1
    have hnd := hok.1
    obtain ⟨u, hu, hue⟩ : ∃ u, u < hmN O ∧ (hmLine H).getD (2 * k) 0 = u := ⟨_, hlN _ (hm_getD_mem (by omega)), rfl⟩
    obtain ⟨v, hv, hve⟩ : ∃ v, v < hmN O ∧ (hmLine H).getD (2 * k + 1) 0 = v := ⟨_, hlN _ (hm_getD_mem (by omega)), rfl⟩
    obtain ⟨bh, hbe⟩ : ∃ bh, (hmLine H)[2 * k + 2]? = bh := ⟨_, rfl⟩
    have hbb : ∀ b, bh = some b → b < 6 := fun b hb => by
      rw [← hbe] at hb
      have := hlN b (List.mem_of_getElem? hb)
      omega
    have huv : u ≠ v := fun q => by
      have h1 : (hmLine H)[2 * k]'(by omega) = (hmLine H)[2 * k + 1]'(by omega) := by
        have e1 : (hmLine H).getD (2 * k) 0 = (hmLine H)[2 * k]'(by omega) := by simp [show 2 * k < (hmLine H).length by omega]
        have e2 : (hmLine H).getD (2 * k + 1) 0 = (hmLine H)[2 * k + 1]'(by omega) := by simp [show 2 * k + 1 < (hmLine H).length by omega]
        rw [← e1, ← e2, hue, hve, q]
      have := (List.getElem_inj hnd).mp h1
      omega
    have hl1 : J (m + 28) (4 + 2 * k) = nI u := by rw [jline (2 * k) (by omega), hue]
    have hl2 : J (m + 28) (4 + 2 * k + 1) = nI v := by rw [show 4 + 2 * k + 1 = 4 + (2 * k + 1) by omega, jline (2 * k + 1) (by omega), hve]
    have nx : ∀ J1, hmFm m J J1 → hmMr (J1 (m + 28)) (hmPair O (hmPairs O H k) u v bh) → Ex (d + 5) 0 0 MX9_talks 0 sh R L J1 114 [some (.ref m), some (.int (nI (2 * k))), none, none, none] [] Q := by
      intro J1 hF1 hS1
      refine Ex_iinc 117 (v := (nI (2 * (k + 1)))) (ls' := [some (.ref m), some (.int (nI (2 * (k + 1)))), none, none, none]) dX9_talks_114 rfl (hm_inc2 k) (Nat.le_of_ble_eq_true rfl) rfl rfl rfl ?_
      refine Ex_goto 2 dX9_talks_117 (by decide) ?_
      refine ih (k + 1) J1 (by omega) (hFm.tr hF1) ?_
      rw [← hue, ← hve, ← hbe] at hS1
      exact hS1
    have t62 : Ex (d + 5) 0 0 MX9_talks 0 sh R L J 62 [some (.ref m), some (.int (nI (2 * k))), some (.int (nI u)), some (.int (nI v)), some (.int (hmOb bh))] [] Q := by
      refine Ex_aload_n 63 (i := 0) dX9_talks_62 rfl rfl rfl ?_
      refine Ex_getR 66 dX9_talks_63 fX9_93 (xMs_0 hm) rfl (xMr_39 hm) rfl ?_
      refine Ex_bipush 68 (v := 22) dX9_talks_66 (by decide) rfl ?_
      refine Ex_bipush 70 (v := 6) dX9_talks_68 (by decide) rfl ?_
      refine Ex_iload_n 71 (i := 2) dX9_talks_70 rfl rfl rfl ?_
      refine Ex_imul 72 dX9_talks_71 rfl ?_
      refine Ex_iadd 73 dX9_talks_72 rfl ?_
      refine Ex_iload_n 74 (i := 3) dX9_talks_73 rfl rfl rfl ?_
      refine Ex_iadd 75 dX9_talks_74 rfl ?_
      refine Ex_dup2 76 dX9_talks_75 rfl rfl rfl ?_
      refine Ex_aI 77 ((22 + (6 * u)) + v) (J (m + 28) ((22 + (6 * u)) + v)) dX9_talks_76 (xMs_28 hm) (hm_ad (hm_ad rfl (hm_mu rfl rfl)) rfl) (by omega) (by decide) rfl rfl ?_
      rw [jtalk u (by omega) v (by omega)]
      refine Ex_iconst 78 (v := 1) dX9_talks_77 (by decide) rfl ?_
      refine Ex_iadd 79 dX9_talks_78 rfl ?_
      rw [nI_1]
      refine Ex_sI 80 ((22 + (6 * u)) + v) (J (m + 28)) (va_up J (m + 28) (va_up (J (m + 28)) ((22 + (6 * u)) + v) (nI (hmTalk (hmPairs O H k) u v + 1)))) dX9_talks_79 (xMs_28 hm) (hm_ad (hm_ad rfl (hm_mu rfl rfl)) rfl) (by omega) (by decide) rfl rfl rfl ?_
      refine Ex_aload_n 81 (i := 0) dX9_talks_80 rfl rfl rfl ?_
      refine Ex_getR 84 dX9_talks_81 fX9_93 (xMs_0 hm) rfl (xMr_39 hm) rfl ?_
      refine Ex_bipush 86 (v := 22) dX9_talks_84 (by decide) rfl ?_
      refine Ex_bipush 88 (v := 6) dX9_talks_86 (by decide) rfl ?_
      refine Ex_iload_n 89 (i := 3) dX9_talks_88 rfl rfl rfl ?_
      refine Ex_imul 90 dX9_talks_89 rfl ?_
      refine Ex_iadd 91 dX9_talks_90 rfl ?_
      refine Ex_iload_n 92 (i := 2) dX9_talks_91 rfl rfl rfl ?_
      refine Ex_iadd 93 dX9_talks_92 rfl ?_
      refine Ex_dup2 94 dX9_talks_93 rfl rfl rfl ?_
      refine Ex_aI 95 ((22 + (6 * v)) + u) ((va_up (J (m + 28)) ((22 + (6 * u)) + v) (nI (hmTalk (hmPairs O H k) u v + 1))) ((22 + (6 * v)) + u)) dX9_talks_94 (xMs_28 hm) (hm_ad (hm_ad rfl (hm_mu rfl rfl)) rfl) (by omega) (by decide) (congrFun (va_up_self _ _ _) _) rfl ?_
      rw [va_up_ne _ _ (by omega), jtalk v (by omega) u (by omega)]
      refine Ex_iconst 96 (v := 1) dX9_talks_95 (by decide) rfl ?_
      refine Ex_iadd 97 dX9_talks_96 rfl ?_
      rw [nI_1]
      refine Ex_sI 98 ((22 + (6 * v)) + u) (va_up (J (m + 28)) ((22 + (6 * u)) + v) (nI (hmTalk (hmPairs O H k) u v + 1))) (va_up J (m + 28) (va_up (va_up (J (m + 28)) ((22 + (6 * u)) + v) (nI (hmTalk (hmPairs O H k) u v + 1))) ((22 + (6 * v)) + u) (nI (hmTalk (hmPairs O H k) v u + 1)))) dX9_talks_97 (xMs_28 hm) (hm_ad (hm_ad rfl (hm_mu rfl rfl)) rfl) (by omega) (by decide) (va_up_self _ _ _) (va_up_up _ _ _ _) rfl ?_
      refine Ex_aload_n 99 (i := 0) dX9_talks_98 rfl rfl rfl ?_
      refine Ex_iload_n 100 (i := 2) dX9_talks_99 rfl rfl rfl ?_
      refine Ex_iload_n 101 (i := 3) dX9_talks_100 rfl rfl rfl ?_
      refine Ex_iload 103 dX9_talks_101 rfl rfl ?_
      refine Ex_callV (M' := MX9_tells) 106 [.int (nI u), .int (nI v), .int (hmOb bh)] (rest := []) dX9_talks_103 lX9_331 mX9_tells rfl (xMs_0 hm) rfl (Nat.le_of_ble_eq_true rfl) (Nat.le_of_ble_eq_true rfl) rfl ?_
      obtain ⟨J1, hJ1⟩ : ∃ J1, J1 = (va_up J (m + 28) (va_up (va_up (J (m + 28)) ((22 + (6 * u)) + v) (nI (hmTalk (hmPairs O H k) u v + 1))) ((22 + (6 * v)) + u) (nI (hmTalk (hmPairs O H k) v u + 1)))) := ⟨_, rfl⟩
      rw [← hJ1]
      have hF1 : hmFm m J J1 := by rw [hJ1]; exact hmFm.rf.up
      have hO1 : hmMo J1 m O := hOJ.fm hF1
      have hS1 : hmMr (J1 (m + 28)) (hmLine (hmPairs O H k), hmHas (hmPairs O H k), hmHeld (hmPairs O H k), hmTalk2 (hmTalk (hmPairs O H k)) u v, hmSet (hmPairs O H k), hmTak (hmPairs O H k), hmMin (hmPairs O H k)) := by
        rw [hJ1, va_up_self]
        exact hm_mrow_talk hSJ (by omega) (by omega) huv (jsym u v)
      refine mc_tells (H := (hmLine (hmPairs O H k), hmHas (hmPairs O H k), hmHeld (hmPairs O H k), hmTalk2 (hmTalk (hmPairs O H k)) u v, hmSet (hmPairs O H k), hmTak (hmPairs O H k), hmMin (hmPairs O H k))) hm hS1 hO1 ho hu hv hbb (fun I2 hF2 hS2 => ?_)
      simp only [Option.toList, List.nil_append]
      refine Ex_aload_n 107 (i := 0) dX9_talks_106 rfl rfl rfl ?_
      refine Ex_iload_n 108 (i := 3) dX9_talks_107 rfl rfl rfl ?_
      refine Ex_iload_n 109 (i := 2) dX9_talks_108 rfl rfl rfl ?_
      refine Ex_iload 111 dX9_talks_109 rfl rfl ?_
      refine Ex_callV (M' := MX9_tells) 114 [.int (nI v), .int (nI u), .int (hmOb bh)] (rest := []) dX9_talks_111 lX9_331 mX9_tells rfl (xMs_0 hm) rfl (Nat.le_of_ble_eq_true rfl) (Nat.le_of_ble_eq_true rfl) rfl ?_
      refine mc_tells (H := (hmLine (hmPairs O H k), hmTell O (hmHas (hmPairs O H k)) (hmHeld (hmPairs O H k)) (hmTalk2 (hmTalk (hmPairs O H k)) u v v u) u v bh, hmHeld (hmPairs O H k), hmTalk2 (hmTalk (hmPairs O H k)) u v, hmSet (hmPairs O H k), hmTak (hmPairs O H k), hmMin (hmPairs O H k))) hm hS2 (hO1.fm hF2) ho hv hu hbb (fun I3 hF3 hS3 => ?_)
      simp only [Option.toList, List.nil_append]
      refine Ex_fgt (ls' := [some (.ref m), some (.int (nI (2 * k))), none, none, none]) (by simp [xsub]) ?_
      refine nx I3 ((hF1.tr hF2).tr hF3) ?_
      have e1 : hmTalk2 (hmTalk (hmPairs O H k)) u v v u = hmTalk (hmPairs O H k) u v + 1 := by
        unfold hmTalk2
        exact if_pos (Or.inr ⟨rfl, rfl⟩)
      have e2 : hmTalk2 (hmTalk (hmPairs O H k)) u v u v = hmTalk (hmPairs O H k) u v + 1 := by
        unfold hmTalk2
        exact if_pos (Or.inl ⟨rfl, rfl⟩)
      rw [e1] at hS3
      have hS4 : hmMr (I3 (m + 28)) (hmLine (hmPairs O H k), hmTell O (hmTell O (hmHas (hmPairs O H k)) (hmHeld (hmPairs O H k)) (hmTalk (hmPairs O H k) u v + 1) u v bh) (hmHeld (hmPairs O H k)) (hmTalk2 (hmTalk (hmPairs O H k)) u v u v) v u bh, hmHeld (hmPairs O H k), hmTalk2 (hmTalk (hmPairs O H k)) u v, hmSet (hmPairs O H k), hmTak (hmPairs O H k), hmMin (hmPairs O H k)) := hS3
      rw [e2] at hS4
      exact hS4
    refine Ex_iload_n 3 (i := 1) dX9_talks_2 rfl rfl rfl ?_
    refine Ex_iconst 4 (v := 1) dX9_talks_3 (by decide) rfl ?_
    refine Ex_iadd 5 dX9_talks_4 rfl ?_
    refine Ex_aload_n 6 (i := 0) dX9_talks_5 rfl rfl rfl ?_
    refine Ex_getR 9 dX9_talks_6 fX9_93 (xMs_0 hm) rfl (xMr_39 hm) rfl ?_
    refine Ex_iconst 10 (v := 1) dX9_talks_9 (by decide) rfl ?_
    refine Ex_aI 11 1 (J (m + 28) 1) dX9_talks_10 (xMs_28 hm) rfl (by decide) (by decide) rfl rfl ?_
    rw [jlen, nI_1]
    refine Ex_icmp_ge 14 120 dX9_talks_11 (by decide) rfl (fun c1 => absurd c1 (nI_ge (by omega) (by omega))) (fun c1 => ?_)
    refine Ex_aload_n 15 (i := 0) dX9_talks_14 rfl rfl rfl ?_
    refine Ex_getR 18 dX9_talks_15 fX9_93 (xMs_0 hm) rfl (xMr_39 hm) rfl ?_
    refine Ex_iconst 19 (v := 4) dX9_talks_18 (by decide) rfl ?_
    refine Ex_iload_n 20 (i := 1) dX9_talks_19 rfl rfl rfl ?_
    refine Ex_iadd 21 dX9_talks_20 rfl ?_
    refine Ex_aI 22 (4 + (2 * k)) (J (m + 28) (4 + (2 * k))) dX9_talks_21 (xMs_28 hm) (hm_ad rfl rfl) (by omega) (by decide) rfl rfl ?_
    rw [hl1]
    refine Ex_istore_n 23 (i := 2) (ls' := [some (.ref m), some (.int (nI (2 * k))), some (.int (nI u)), none, none]) dX9_talks_22 rfl (Nat.le_of_ble_eq_true rfl) rfl rfl rfl ?_
    refine Ex_aload_n 24 (i := 0) dX9_talks_23 rfl rfl rfl ?_
    refine Ex_getR 27 dX9_talks_24 fX9_93 (xMs_0 hm) rfl (xMr_39 hm) rfl ?_
    refine Ex_iconst 28 (v := 4) dX9_talks_27 (by decide) rfl ?_
    refine Ex_iload_n 29 (i := 1) dX9_talks_28 rfl rfl rfl ?_
    refine Ex_iadd 30 dX9_talks_29 rfl ?_
    refine Ex_iconst 31 (v := 1) dX9_talks_30 (by decide) rfl ?_
    refine Ex_iadd 32 dX9_talks_31 rfl ?_
    refine Ex_aI 33 ((4 + (2 * k)) + 1) (J (m + 28) ((4 + (2 * k)) + 1)) dX9_talks_32 (xMs_28 hm) (hm_ad (hm_ad rfl rfl) rfl) (by omega) (by decide) rfl rfl ?_
    rw [hl2]
    refine Ex_istore_n 34 (i := 3) (ls' := [some (.ref m), some (.int (nI (2 * k))), some (.int (nI u)), some (.int (nI v)), none]) dX9_talks_33 rfl (Nat.le_of_ble_eq_true rfl) rfl rfl rfl ?_
    refine Ex_iload_n 35 (i := 1) dX9_talks_34 rfl rfl rfl ?_
    refine Ex_iconst 36 (v := 2) dX9_talks_35 (by decide) rfl ?_
    refine Ex_iadd 37 dX9_talks_36 rfl ?_
    refine Ex_aload_n 38 (i := 0) dX9_talks_37 rfl rfl rfl ?_
    refine Ex_getR 41 dX9_talks_38 fX9_93 (xMs_0 hm) rfl (xMr_39 hm) rfl ?_
    refine Ex_iconst 42 (v := 1) dX9_talks_41 (by decide) rfl ?_
    refine Ex_aI 43 1 (J (m + 28) 1) dX9_talks_42 (xMs_28 hm) rfl (by decide) (by decide) rfl rfl ?_
    rw [jlen, show nI (2 * k) + 2 = nI (2 * k + 2) from nI_add _ 2]
    refine Ex_icmp_ge 46 59 dX9_talks_43 (by decide) rfl (fun c2 => ?_) (fun c2 => ?_)
    · refine Ex_iconst 60 (v := (-1)) dX9_talks_59 (by decide) rfl ?_
      refine Ex_istore 62 (ls' := [some (.ref m), some (.int (nI (2 * k))), some (.int (nI u)), some (.int (nI v)), some (.int (-1))]) dX9_talks_60 (Nat.le_of_ble_eq_true rfl) rfl rfl rfl ?_
      have hp2 : ¬ 2 * k + 2 < (hmLine H).length := fun z => absurd c2 (nI_ge z (by omega))
      have hb0 : bh = none := by rw [← hbe]; exact List.getElem?_eq_none (by omega)
      subst hb0
      exact t62
    · have hp2 : 2 * k + 2 < (hmLine H).length := by
        by_cases hz : 2 * k + 2 < (hmLine H).length
        · exact hz
        · exact absurd (nI_le (by omega) (by omega)) c2
      refine Ex_aload_n 47 (i := 0) dX9_talks_46 rfl rfl rfl ?_
      refine Ex_getR 50 dX9_talks_47 fX9_93 (xMs_0 hm) rfl (xMr_39 hm) rfl ?_
      refine Ex_iconst 51 (v := 4) dX9_talks_50 (by decide) rfl ?_
      refine Ex_iload_n 52 (i := 1) dX9_talks_51 rfl rfl rfl ?_
      refine Ex_iadd 53 dX9_talks_52 rfl ?_
      refine Ex_iconst 54 (v := 2) dX9_talks_53 (by decide) rfl ?_
      refine Ex_iadd 55 dX9_talks_54 rfl ?_
      refine Ex_aI 56 ((4 + (2 * k)) + 2) (J (m + 28) ((4 + (2 * k)) + 2)) dX9_talks_55 (xMs_28 hm) (hm_ad (hm_ad rfl rfl) rfl) (by omega) (by decide) rfl rfl ?_
      refine Ex_goto 60 dX9_talks_56 (by decide) ?_
      refine Ex_istore 62 (ls' := [some (.ref m), some (.int (nI (2 * k))), some (.int (nI u)), some (.int (nI v)), some (.int (J (m + 28) ((4 + (2 * k)) + 2)))]) dX9_talks_60 (Nat.le_of_ble_eq_true rfl) rfl rfl rfl ?_
      obtain ⟨b, hb1⟩ : ∃ b, bh = some b := ⟨(hmLine H)[2 * k + 2], by rw [← hbe]; exact List.getElem?_eq_getElem hp2⟩
      have hb2 : J (m + 28) (4 + 2 * k + 2) = nI b := by
        rw [show 4 + 2 * k + 2 = 4 + (2 * k + 2) by omega, jline (2 * k + 2) hp2, List.getD_eq_getElem?_getD, hbe, hb1]
        rfl
      rw [hb2]
      subst hb1
      exact t62
set_option maxHeartbeats 4000000 in
theorem mc_talks {d : Nat} {sh : xSh} {R : xR} {L : xL} {I : xI} {Q : xQ} {m : Nat} {H : hmH} {O : hmO} (hm : xModel sh R m) (hS : hmMr (I (m + 28)) H) (hO : hmMo I m O) (ho : hmOok O) (hok : hmOk O H) (hQ : ∀ I', hmFm m I I' → hmMr (I' (m + 28)) (hmPairs O H ((hmLine H).length / 2)) → Q none 0 sh R L I') : Ex (d + 5) 0 0 MX9_talks 0 sh R L I 0 [some (.ref m), none, none, none, none] [] Q := by
  refine Ex_iconst 1 (v := 0) dX9_talks_0 (by decide) rfl ?_
  refine Ex_istore_n 2 (i := 1) (ls' := [some (.ref m), some (.int 0), none, none, none]) dX9_talks_1 rfl (Nat.le_of_ble_eq_true rfl) rfl rfl rfl ?_
  exact mc_talks_loop hm hS hO ho hok hQ ((hmLine H).length / 2) 0 I (by omega) hmFm.rf hS
