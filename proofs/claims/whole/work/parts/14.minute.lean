theorem xDesk_law {sh : xSh} {R : xR} {a : Nat} (h : xDesk sh R a) : xLaw sh R (a + 6) := ⟨h.2.2.2.2.2.2.1, h.2.2.2.2.2.2.2.1, h.2.2.2.2.2.2.2.2.1, h.2.2.2.2.2.2.2.2.2.2.2.2.2.2.2.1, h.2.2.2.2.2.2.2.2.2.2.2.2.2.2.2.2⟩
theorem hm_ki {k : Nat} (hk : k < 4) (j : Nat) (hj : j < 4) : (nI k = nI j ↔ k = j) := nI_eq (by omega) (by omega)
set_option maxHeartbeats 4000000 in
theorem c_heard_62 {d : Nat} {sh : xSh} {R : xR} {L : xL} {I : xI} {Q : xQ} {a dk : Nat} {H : hmH} {O : hmO} (hh : xHall sh R a) (hdk : xDesk sh R dk) (hdis : dk + 9 ≤ a ∨ a + 5 ≤ dk) (hH : hmR I a H) (hO : hmD I dk O) (ho : hmOok O) (hs : ∀ w, w < 6 → hmS10 (hmHas H w)) {fr to tm : Nat} {bh : Option Nat} (hfr : fr < hmN O) (hto : to < hmN O) (hbh : ∀ b, bh = some b → b < 6) (hQ : ∀ I', (∀ x, x ≠ dk + 8 → I' x = I x) → Q (some (.int (hmHeard O (hmHas H) (hmHeld H) tm fr to bh))) 0 sh R L I') : Ex (d + 1) 0 0 MX1_heard 0 sh R L I 62 [some (.ref a), some (.ref dk), some (.int (nI fr)), some (.int (nI to)), some (.int (hmOb bh)), some (.int (nI tm)), some (.int (hmSaid O (hmHas H) fr to bh)), none, none, none] [] Q := by
  obtain ⟨h6, hlen, hset, htak, hmin, hline, hhas, hheld, htalk⟩ := id hH
  obtain ⟨on, otk, ow, olen, olaw⟩ := id hO
  obtain ⟨o6, ot1, ot2, oo, oll, owf⟩ := id ho
  refine Ex_iload 64 dX1_heard_62 rfl rfl ?_
  refine Ex_aload_n 65 (i := 0) dX1_heard_64 rfl rfl rfl ?_
  refine Ex_getR 68 dX1_heard_65 fX1_9 hh.1 rfl hh.2.2.2.2.2.1 rfl ?_
  refine Ex_iload_n 69 (i := 3) dX1_heard_68 rfl rfl rfl ?_
  refine Ex_aI 70 to (I (a + 1) to) dX1_heard_69 hh.2.1 rfl (by omega) (by decide) rfl rfl ?_
  rw [hhas to (by omega)]
  refine Ex_iconst 71 (v := (-1)) dX1_heard_70 (by decide) rfl ?_
  refine Ex_ixor 72 dX1_heard_71 rfl ?_
  refine Ex_iand 73 dX1_heard_72 rfl ?_
  refine Ex_istore 75 (ls' := [some (.ref a), some (.ref dk), some (.int (nI fr)), some (.int (nI to)), some (.int (hmOb bh)), some (.int (nI tm)), some (.int (hmSaid O (hmHas H) fr to bh)), some (.int ((hmSaid O (hmHas H) fr to bh) &&& ((hmHas H to) ^^^ (-1)))), none, none]) dX1_heard_73 (Nat.le_of_ble_eq_true rfl) rfl rfl rfl ?_
  refine Ex_iload 77 dX1_heard_75 rfl rfl ?_
  refine Ex_if_eq 80 90 dX1_heard_77 (by decide) rfl (fun c1 => ?_) (fun c1 => ?_)
  · refine Ex_iconst 91 (v := 0) dX1_heard_90 (by decide) rfl ?_
    refine Ex_iret dX1_heard_91 rfl rfl (Or.inl rfl) ?_
    have e : hmHeard O (hmHas H) (hmHeld H) tm fr to bh = 0 := by
      unfold hmHeard
      rw [if_pos (Or.inl c1)]
    rw [← e]
    exact hQ I (fun _ _ => rfl)
  · refine Ex_aload_n 81 (i := 1) dX1_heard_80 rfl rfl rfl ?_
    refine Ex_getR 84 dX1_heard_81 fX1_89 hdk.1 rfl hdk.2.2.2.2.2.2.2.2.2.2.1 rfl ?_
    refine Ex_iload_n 85 (i := 3) dX1_heard_84 rfl rfl rfl ?_
    refine Ex_aI 86 to (I (dk + 2) to) dX1_heard_85 hdk.2.2.1 rfl (by omega) (by decide) rfl rfl ?_
    rw [(ow to hto).1]
    refine Ex_iconst 87 (v := 3) dX1_heard_86 (by decide) rfl ?_
    refine Ex_icmp_ne 90 92 dX1_heard_87 (by decide) rfl (fun c2 => ?_) (fun c2 => ?_)
    · refine Ex_aload_n 93 (i := 0) dX1_heard_92 rfl rfl rfl ?_
      refine Ex_getR 96 dX1_heard_93 fX1_9 hh.1 rfl hh.2.2.2.2.2.1 rfl ?_
      refine Ex_iload_n 97 (i := 3) dX1_heard_96 rfl rfl rfl ?_
      refine Ex_aI 98 to (I (a + 1) to) dX1_heard_97 hh.2.1 rfl (by omega) (by decide) rfl rfl ?_
      rw [hhas to (by omega)]
      refine Ex_callS (M' := MJ6_bitCount_0f7a4) 101 [.int (hmHas H to)] (rest := []) dX1_heard_98 lX1_51 mJ6_bitCount_0f7a4 rfl rfl (Nat.le_of_ble_eq_true rfl) (Nat.le_of_ble_eq_true rfl) rfl ?_
      refine c_bitCountS (hs to (by omega)) ?_
      simp only [Option.toList, List.cons_append, List.nil_append]
      refine Ex_istore 103 (ls' := [some (.ref a), some (.ref dk), some (.int (nI fr)), some (.int (nI to)), some (.int (hmOb bh)), some (.int (nI tm)), some (.int (hmSaid O (hmHas H) fr to bh)), some (.int ((hmSaid O (hmHas H) fr to bh) &&& ((hmHas H to) ^^^ (-1)))), some (.int (hmCnt (hmHas H to))), none]) dX1_heard_101 (Nat.le_of_ble_eq_true rfl) rfl rfl rfl ?_
      refine Ex_aload_n 104 (i := 0) dX1_heard_103 rfl rfl rfl ?_
      refine Ex_getR 107 dX1_heard_104 fX1_9 hh.1 rfl hh.2.2.2.2.2.1 rfl ?_
      refine Ex_iload_n 108 (i := 2) dX1_heard_107 rfl rfl rfl ?_
      refine Ex_aI 109 fr (I (a + 1) fr) dX1_heard_108 hh.2.1 rfl (by omega) (by decide) rfl rfl ?_
      rw [hhas fr (by omega)]
      refine Ex_callS (M' := MJ6_bitCount_0f7a4) 112 [.int (hmHas H fr)] (rest := []) dX1_heard_109 lX1_51 mJ6_bitCount_0f7a4 rfl rfl (Nat.le_of_ble_eq_true rfl) (Nat.le_of_ble_eq_true rfl) rfl ?_
      refine c_bitCountS (hs fr (by omega)) ?_
      simp only [Option.toList, List.cons_append, List.nil_append]
      refine Ex_istore 114 (ls' := [some (.ref a), some (.ref dk), some (.int (nI fr)), some (.int (nI to)), some (.int (hmOb bh)), some (.int (nI tm)), some (.int (hmSaid O (hmHas H) fr to bh)), some (.int ((hmSaid O (hmHas H) fr to bh) &&& ((hmHas H to) ^^^ (-1)))), some (.int (hmCnt (hmHas H to))), some (.int (hmCnt (hmHas H fr)))]) dX1_heard_112 (Nat.le_of_ble_eq_true rfl) rfl rfl rfl ?_
      refine Ex_aload_n 115 (i := 1) dX1_heard_114 rfl rfl rfl ?_
      refine Ex_getR 118 dX1_heard_115 fX1_95 hdk.1 rfl hdk.2.2.2.2.2.2.2.2.2.2.2.2.2.2.1 rfl ?_
      refine Ex_aload_n 119 (i := 0) dX1_heard_118 rfl rfl rfl ?_
      refine Ex_getR 122 dX1_heard_119 fX1_15 hh.1 rfl hh.2.2.2.2.2.2.1 rfl ?_
      refine Ex_iload_n 123 (i := 3) dX1_heard_122 rfl rfl rfl ?_
      refine Ex_aI 124 to (I (a + 2) to) dX1_heard_123 hh.2.2.1 rfl (by omega) (by decide) rfl rfl ?_
      rw [hheld to (by omega)]
      refine Ex_iload 126 dX1_heard_124 rfl rfl ?_
      refine Ex_iload 128 dX1_heard_126 rfl rfl ?_
      refine Ex_iload 130 dX1_heard_128 rfl rfl ?_
      refine Ex_callV (M' := MX2_valueOf) 133 [.int (nI (hmHeld H to)), .int (nI tm), .int (hmCnt (hmHas H to)), .int (hmCnt (hmHas H fr))] (rest := []) dX1_heard_130 lX1_99 mX2_valueOf rfl hdk.2.2.2.2.2.2.1 rfl (Nat.le_of_ble_eq_true rfl) (Nat.le_of_ble_eq_true rfl) rfl ?_
      refine c_valueOf (c := hmLw O) (xDesk_law hdk) olen olaw oll (fun I' hF => ?_) owf
      simp only [Option.toList, List.cons_append, List.nil_append]
      change Ex _ _ _ _ _ _ _ _ _ _ _ (.int (hmLaw O (hmHas H) (hmHeld H) tm fr to) :: _) _
      refine Ex_if_eq 136 141 dX1_heard_133 (by decide) rfl (fun c3 => ?_) (fun c3 => ?_)
      · refine Ex_iconst 142 (v := 0) dX1_heard_141 (by decide) rfl ?_
        refine Ex_iret dX1_heard_142 rfl rfl (Or.inl rfl) ?_
        have e : hmHeard O (hmHas H) (hmHeld H) tm fr to bh = 0 := by
          unfold hmHeard
          rw [if_pos c3]
          split <;> rfl
        rw [← e]
        exact hQ I' (fun x hx => hF x hx)
      · refine Ex_iload 138 dX1_heard_136 rfl rfl ?_
        refine Ex_goto 142 dX1_heard_138 (by decide) ?_
        refine Ex_iret dX1_heard_142 rfl rfl (Or.inl rfl) ?_
        have h3 : ¬ hmKi O to = 3 := fun q => c2 ((hm_ki (oo to hto).1 3 (by decide)).mpr q)
        have e : hmHeard O (hmHas H) (hmHeld H) tm fr to bh = hmSaid O (hmHas H) fr to bh &&& (hmHas H to ^^^ -1) := by
          unfold hmHeard
          rw [if_neg (fun q => q.elim c1 h3), if_neg c3]
        rw [← e]
        exact hQ I' (fun x hx => hF x hx)
    · refine Ex_iconst 91 (v := 0) dX1_heard_90 (by decide) rfl ?_
      refine Ex_iret dX1_heard_91 rfl rfl (Or.inl rfl) ?_
      have h3 : hmKi O to = 3 := (hm_ki (oo to hto).1 3 (by decide)).mp c2
      have e : hmHeard O (hmHas H) (hmHeld H) tm fr to bh = 0 := by
        unfold hmHeard
        rw [if_pos (Or.inr h3)]
      rw [← e]
      exact hQ I (fun _ _ => rfl)
theorem hm_ob {b : Nat} (h : b < 6) : ¬ nI b = -1 := by
  intro q
  have h2 := congrArg Int32.toInt q
  rw [nI_toInt (by omega)] at h2
  have h3 : (-1 : Int32).toInt = -1 := by decide
  omega
set_option maxHeartbeats 4000000 in
theorem c_heard {d : Nat} {sh : xSh} {R : xR} {L : xL} {I : xI} {Q : xQ} {a dk : Nat} {H : hmH} {O : hmO} (hh : xHall sh R a) (hdk : xDesk sh R dk) (hdis : dk + 9 ≤ a ∨ a + 5 ≤ dk) (hH : hmR I a H) (hO : hmD I dk O) (ho : hmOok O) (hs : ∀ w, w < 6 → hmS10 (hmHas H w)) {fr to tm : Nat} {bh : Option Nat} (hfr : fr < hmN O) (hto : to < hmN O) (hbh : ∀ b, bh = some b → b < 6) (hQ : ∀ I', (∀ x, x ≠ dk + 8 → I' x = I x) → Q (some (.int (hmHeard O (hmHas H) (hmHeld H) tm fr to bh))) 0 sh R L I') : Ex (d + 1) 0 0 MX1_heard 0 sh R L I 0 [some (.ref a), some (.ref dk), some (.int (nI fr)), some (.int (nI to)), some (.int (hmOb bh)), some (.int (nI tm)), none, none, none, none] [] Q := by
  obtain ⟨h6, hlen, hset, htak, hmin, hline, hhas, hheld, htalk⟩ := id hH
  obtain ⟨on, otk, ow, olen, olaw⟩ := id hO
  obtain ⟨o6, ot1, ot2, oo, oll, owf⟩ := id ho
  refine Ex_aload_n 1 (i := 0) dX1_heard_0 rfl rfl rfl ?_
  refine Ex_getR 4 dX1_heard_1 fX1_9 hh.1 rfl hh.2.2.2.2.2.1 rfl ?_
  refine Ex_iload_n 5 (i := 2) dX1_heard_4 rfl rfl rfl ?_
  refine Ex_aI 6 fr (I (a + 1) fr) dX1_heard_5 hh.2.1 rfl (by omega) (by decide) rfl rfl ?_
  rw [hhas fr (by omega)]
  refine Ex_istore 8 (ls' := [some (.ref a), some (.ref dk), some (.int (nI fr)), some (.int (nI to)), some (.int (hmOb bh)), some (.int (nI tm)), some (.int (hmHas H fr)), none, none, none]) dX1_heard_6 (Nat.le_of_ble_eq_true rfl) rfl rfl rfl ?_
  refine Ex_aload_n 9 (i := 1) dX1_heard_8 rfl rfl rfl ?_
  refine Ex_getR 12 dX1_heard_9 fX1_89 hdk.1 rfl hdk.2.2.2.2.2.2.2.2.2.2.1 rfl ?_
  refine Ex_iload_n 13 (i := 2) dX1_heard_12 rfl rfl rfl ?_
  refine Ex_aI 14 fr (I (dk + 2) fr) dX1_heard_13 hdk.2.2.1 rfl (by omega) (by decide) rfl rfl ?_
  rw [(ow fr hfr).1]
  refine Ex_iconst 15 (v := 1) dX1_heard_14 (by decide) rfl ?_
  refine Ex_icmp_ne 18 34 dX1_heard_15 (by decide) rfl (fun c1 => ?_) (fun c1 => ?_)
  · refine Ex_aload_n 35 (i := 1) dX1_heard_34 rfl rfl rfl ?_
    refine Ex_getR 38 dX1_heard_35 fX1_89 hdk.1 rfl hdk.2.2.2.2.2.2.2.2.2.2.1 rfl ?_
    refine Ex_iload_n 39 (i := 2) dX1_heard_38 rfl rfl rfl ?_
    refine Ex_aI 40 fr (I (dk + 2) fr) dX1_heard_39 hdk.2.2.1 rfl (by omega) (by decide) rfl rfl ?_
    rw [(ow fr hfr).1]
    refine Ex_iconst 41 (v := 2) dX1_heard_40 (by decide) rfl ?_
    refine Ex_icmp_ne 44 62 dX1_heard_41 (by decide) rfl (fun c2 => ?_) (fun c2 => ?_)
    · have hk2 : ¬ hmKi O fr = 2 := fun q => c2 ((hm_ki (oo fr hfr).1 2 (by decide)).mpr q)
      have hk1 : ¬ hmKi O fr = 1 := fun q => c1 ((hm_ki (oo fr hfr).1 1 (by decide)).mpr q)
      have e : hmSaid O (hmHas H) fr to bh = hmHas H fr := by
        unfold hmSaid
        rw [if_neg hk1, if_neg hk2]
      rw [← e]
      exact c_heard_62 hh hdk hdis hH hO ho hs hfr hto hbh hQ
    · refine Ex_iload 46 dX1_heard_44 rfl rfl ?_
      refine Ex_iconst 47 (v := (-1)) dX1_heard_46 (by decide) rfl ?_
      refine Ex_icmp_eq 50 62 dX1_heard_47 (by decide) rfl (fun c3 => ?_) (fun c3 => ?_)
      · have hk1 : ¬ hmKi O fr = 1 := fun q => c1 ((hm_ki (oo fr hfr).1 1 (by decide)).mpr q)
        have hb0 : bh = none := by
          cases bh with
          | none => rfl
          | some b => exact absurd c3 (hm_ob (hbh b rfl))
        have e : hmSaid O (hmHas H) fr to bh = hmHas H fr := by
          subst hb0
          unfold hmSaid
          rw [if_neg hk1]
          split <;> rfl
        rw [← e]
        exact c_heard_62 hh hdk hdis hH hO ho hs hfr hto hbh hQ
      · obtain ⟨b, rfl⟩ : ∃ b, bh = some b := by
          cases bh with
          | none => exact absurd rfl c3
          | some b => exact ⟨b, rfl⟩
        have hb6 := hbh b rfl
        simp only [hmOb]
        refine Ex_iload 52 dX1_heard_50 rfl rfl ?_
        refine Ex_aload_n 53 (i := 0) dX1_heard_52 rfl rfl rfl ?_
        refine Ex_getR 56 dX1_heard_53 fX1_9 hh.1 rfl hh.2.2.2.2.2.1 rfl ?_
        refine Ex_iload 58 dX1_heard_56 rfl rfl ?_
        refine Ex_aI 59 b (I (a + 1) b) dX1_heard_58 hh.2.1 rfl (by omega) (by decide) rfl rfl ?_
        rw [hhas b (by omega)]
        refine Ex_ior 60 dX1_heard_59 rfl ?_
        refine Ex_istore 62 (ls' := [some (.ref a), some (.ref dk), some (.int (nI fr)), some (.int (nI to)), some (.int (nI b)), some (.int (nI tm)), some (.int ((hmHas H fr) ||| (hmHas H b))), none, none, none]) dX1_heard_60 (Nat.le_of_ble_eq_true rfl) rfl rfl rfl ?_
        have hk2 : hmKi O fr = 2 := (hm_ki (oo fr hfr).1 2 (by decide)).mp c2
        have hk1 : ¬ hmKi O fr = 1 := by omega
        have e : hmSaid O (hmHas H) fr to (some b) = hmHas H fr ||| hmHas H b := by
          unfold hmSaid
          rw [if_neg hk1, if_pos hk2]
        rw [← e]
        exact c_heard_62 hh hdk hdis hH hO ho hs hfr hto hbh hQ
  · refine Ex_iload 20 dX1_heard_18 rfl rfl ?_
    refine Ex_iconst 21 (v := 1) dX1_heard_20 (by decide) rfl ?_
    refine Ex_aload_n 22 (i := 1) dX1_heard_21 rfl rfl rfl ?_
    refine Ex_getR 25 dX1_heard_22 fX1_92 hdk.1 rfl hdk.2.2.2.2.2.2.2.2.2.2.2.1 rfl ?_
    refine Ex_iload_n 26 (i := 3) dX1_heard_25 rfl rfl rfl ?_
    refine Ex_aI 27 to (I (dk + 3) to) dX1_heard_26 hdk.2.2.2.1 rfl (by omega) (by decide) rfl rfl ?_
    rw [(ow to hto).2.1]
    refine Ex_ishl 28 dX1_heard_27 rfl ?_
    refine Ex_iand 29 dX1_heard_28 rfl ?_
    refine Ex_istore 31 (ls' := [some (.ref a), some (.ref dk), some (.int (nI fr)), some (.int (nI to)), some (.int (hmOb bh)), some (.int (nI tm)), some (.int ((hmHas H fr) &&& (1 <<< ((nI (hmTr O to)) &&& 31)))), none, none, none]) dX1_heard_29 (Nat.le_of_ble_eq_true rfl) rfl rfl rfl ?_
    refine Ex_goto 62 dX1_heard_31 (by decide) ?_
    have hk1 : hmKi O fr = 1 := (hm_ki (oo fr hfr).1 1 (by decide)).mp c1
    have e : hmSaid O (hmHas H) fr to bh = hmHas H fr &&& (1 <<< (nI (hmTr O to) &&& 31)) := by
      unfold hmSaid
      rw [if_pos hk1]
      rfl
    rw [← e]
    exact c_heard_62 hh hdk hdis hH hO ho hs hfr hto hbh hQ
