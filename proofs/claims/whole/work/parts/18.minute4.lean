theorem hm_inc2 (k : Nat) : nI (2 * k) + Int32.ofInt 2 = nI (2 * (k + 1)) := nI_add (2 * k) 2
theorem hmFd.tr {a dk : Nat} {I J K : xI} (h1 : hmFd a dk I J) (h2 : hmFd a dk J K) : hmFd a dk I K := fun x hx hx2 => (h2 x hx hx2).trans (h1 x hx hx2)
theorem hmFd.of {a dk : Nat} {I J : xI} (h : ∀ x, ¬ (a ≤ x ∧ x < a + 5) → J x = I x) : hmFd a dk I J := fun x hx _ => h x hx
theorem hmFd.rf {a dk : Nat} {I : xI} : hmFd a dk I I := fun _ _ _ => rfl
theorem hmD.fd {a dk : Nat} {I J : xI} {O : hmO} (h : hmD I dk O) (hf : hmFd a dk I J) (hd : dk + 9 ≤ a ∨ a + 5 ≤ dk) : hmD J dk O := h.kept (fun x h1 h2 => hf x (by omega) (by omega))
set_option maxHeartbeats 4000000 in
theorem c_pass_32 {d : Nat} {sh : xSh} {R : xR} {L : xL} {I : xI} {Q : xQ} {a dk : Nat} {H : hmH} {O : hmO} (hh : xHall sh R a) (hdk : xDesk sh R dk) (hdis : dk + 9 ≤ a ∨ a + 5 ≤ dk) (hH : hmR I a H) (hO : hmD I dk O) (ho : hmOok O) (hok : hmOk O H) {tk : Nat} {v3 : Int32} (htk : 1 ≤ tk) (htk2 : tk ≤ 20) (hmn : hmMin H < 1000000) (hQ : ∀ I', hmFd a dk I I' → hmR I' a (hmLast O tk (hmTick (hmHold O (hmSettle O H)))) → ∀ {v : Int32}, v = hmSet (hmLast O tk (hmTick (hmHold O (hmSettle O H)))) &&& (v3 ^^^ -1) → Q (some (.int v)) 0 sh R L I') : Ex (d + 3) 0 0 MX1_passMinute 0 sh R L I 32 [some (.ref a), some (.ref dk), some (.int (nI tk)), some (.int v3), none] [] Q := by
  obtain ⟨h6, hlen, hset, htak, hmin, hline, hhas, hheld, htalk⟩ := id hH
  obtain ⟨on, otk, ow, olen, olaw⟩ := id hO
  obtain ⟨o6, ot1, ot2, oo, oll, owf⟩ := id ho
  refine Ex_aload_n 33 (i := 0) dX1_passMinute_32 rfl rfl rfl ?_
  refine Ex_aload_n 34 (i := 1) dX1_passMinute_33 rfl rfl rfl ?_
  refine Ex_callV (M' := MX1_settleWhoKnow) 37 [.ref dk] (rest := []) dX1_passMinute_34 lX1_75 mX1_settleWhoKnow rfl hh.1 rfl (Nat.le_of_ble_eq_true rfl) (Nat.le_of_ble_eq_true rfl) rfl ?_
  refine c_settleWhoKnow hh hdk hdis hH hO ho hok (fun I1 hF1 hR1 => ?_)
  simp only [Option.toList, List.nil_append]
  have hO1 : hmD I1 dk O := hO.fd (.of hF1) hdis
  have hok1 := hmOk_settle hok o6
  refine Ex_aload_n 38 (i := 0) dX1_passMinute_37 rfl rfl rfl ?_
  refine Ex_aload_n 39 (i := 1) dX1_passMinute_38 rfl rfl rfl ?_
  refine Ex_callV (M' := MX1_holdLonger) 42 [.ref dk] (rest := []) dX1_passMinute_39 lX1_79 mX1_holdLonger rfl hh.1 rfl (Nat.le_of_ble_eq_true rfl) (Nat.le_of_ble_eq_true rfl) rfl ?_
  refine c_holdLonger hh hdk hdis hR1 hO1 ho hok1 (fun I2 hF2 hR2 => ?_)
  simp only [Option.toList, List.nil_append]
  have hO2 : hmD I2 dk O := hO1.fd (.of hF2) hdis
  have hok2 := hmOk_hold hok1
  obtain ⟨r6, rlen, rset, rtak, rmin, rline, rhas, rheld, rtalk⟩ := id hR2
  have hm2 : hmMin (hmHold O (hmSettle O H)) = hmMin H := rfl
  rw [hm2] at rmin
  refine Ex_aload_n 43 (i := 0) dX1_passMinute_42 rfl rfl rfl ?_
  refine Ex_dup 44 dX1_passMinute_43 rfl rfl ?_
  refine Ex_gI 47 (I2 a 7) dX1_passMinute_44 fX1_42 hh.1 rfl rfl rfl ?_
  rw [rmin]
  refine Ex_iconst 48 (v := 1) dX1_passMinute_47 (by decide) rfl ?_
  refine Ex_iadd 49 dX1_passMinute_48 rfl ?_
  rw [nI_1]
  refine Ex_pI 52 (I2 a) (va_up I2 a (va_up (I2 a) 7 (nI (hmMin H + 1)))) dX1_passMinute_49 fX1_42 rfl hh.1 rfl (fun _ => rfl) rfl rfl rfl rfl ?_
  have hR3 : hmR (va_up I2 a (va_up (I2 a) 7 (nI (hmMin H + 1)))) a (hmTick (hmHold O (hmSettle O H))) := hmR_mk (va_up_self _ _ _) (va_up_ne _ _ (by omega)) (va_up_ne _ _ (by omega)) (va_up_ne _ _ (by omega)) (va_up_ne _ _ (by omega)) ⟨r6, rlen, rset, rtak, rfl, rline, rhas, rheld, rtalk⟩
  have hF3' : ∀ x, ¬ (a ≤ x ∧ x < a + 5) → (va_up I2 a (va_up (I2 a) 7 (nI (hmMin H + 1)))) x = I2 x := fun x hx => va_up_ne _ _ (by omega)
  have hO3 : hmD (va_up I2 a (va_up (I2 a) 7 (nI (hmMin H + 1)))) dk O := hO2.fd (.of hF3') hdis
  refine Ex_iload_n 53 (i := 2) dX1_passMinute_52 rfl rfl rfl ?_
  refine Ex_if_le 56 83 dX1_passMinute_53 (by decide) rfl (fun c1 => absurd c1 (nI_nle (by omega) (by omega))) (fun c1 => ?_)
  refine Ex_aload_n 57 (i := 0) dX1_passMinute_56 rfl rfl rfl ?_
  refine Ex_gI 60 (nI (hmMin H + 1)) dX1_passMinute_57 fX1_42 hh.1 rfl (congrFun (va_up_self _ _ _) _) rfl ?_
  refine Ex_iload_n 61 (i := 2) dX1_passMinute_60 rfl rfl rfl ?_
  refine Ex_irem 62 dX1_passMinute_61 (nI_ne0 (by omega) (by omega)) rfl ?_
  rw [pk_rem (a := hmMin H + 1) (by omega) (by omega) (by omega)]
  refine Ex_if_ne 65 83 dX1_passMinute_62 (by decide) rfl (fun c2 => ?_) (fun c2 => ?_)
  · refine Ex_aload_n 84 (i := 0) dX1_passMinute_83 rfl rfl rfl ?_
    refine Ex_gI 87 (I2 a 5) dX1_passMinute_84 fX1_36 hh.1 rfl (congrFun (va_up_self _ _ _) _) rfl ?_
    refine Ex_iload_n 88 (i := 3) dX1_passMinute_87 rfl rfl rfl ?_
    refine Ex_iconst 89 (v := (-1)) dX1_passMinute_88 (by decide) rfl ?_
    refine Ex_ixor 90 dX1_passMinute_89 rfl ?_
    refine Ex_iand 91 dX1_passMinute_90 rfl ?_
    refine Ex_iret dX1_passMinute_91 rfl rfl (Or.inl rfl) ?_
    have hne : ¬ (hmMin H + 1) % tk = 0 := fun q => c2 (by rw [q]; decide)
    have e : hmLast O tk (hmTick (hmHold O (hmSettle O H))) = hmTick (hmHold O (hmSettle O H)) := by
      unfold hmLast
      split
      · rfl
      next w r hl => exact if_neg hne
    refine hQ _ (((hmFd.of hF1).tr (.of hF2)).tr (.of hF3')) ?_ ?_
    · rw [e]; exact hR3
    · rw [e]; show I2 a 5 &&& _ = _; rw [rset]; rfl
  · refine Ex_aload_n 66 (i := 0) dX1_passMinute_65 rfl rfl rfl ?_
    refine Ex_gI 69 (I2 a 4) dX1_passMinute_66 fX1_33 hh.1 rfl (congrFun (va_up_self _ _ _) _) rfl ?_
    refine Ex_if_le 72 83 dX1_passMinute_69 (by decide) rfl (fun c3 => ?_) (fun c3 => ?_)
    · refine Ex_aload_n 84 (i := 0) dX1_passMinute_83 rfl rfl rfl ?_
      refine Ex_gI 87 (I2 a 5) dX1_passMinute_84 fX1_36 hh.1 rfl (congrFun (va_up_self _ _ _) _) rfl ?_
      refine Ex_iload_n 88 (i := 3) dX1_passMinute_87 rfl rfl rfl ?_
      refine Ex_iconst 89 (v := (-1)) dX1_passMinute_88 (by decide) rfl ?_
      refine Ex_ixor 90 dX1_passMinute_89 rfl ?_
      refine Ex_iand 91 dX1_passMinute_90 rfl ?_
      refine Ex_iret dX1_passMinute_91 rfl rfl (Or.inl rfl) ?_
      have hl0 : hmLine (hmHold O (hmSettle O H)) = [] := by
        have h1 : nI (hmLine (hmHold O (hmSettle O H))).length ≤ 0 := by rw [← rlen]; exact c3
        exact List.eq_nil_of_length_eq_zero (hm_le0 (by omega) h1)
      have e : hmLast O tk (hmTick (hmHold O (hmSettle O H))) = hmTick (hmHold O (hmSettle O H)) := by
        unfold hmLast
        split
        · rfl
        next w r hl =>
          have hl2 : hmLine (hmHold O (hmSettle O H)) = w :: r := hl
          rw [hl0] at hl2
          cases hl2
      refine hQ _ (((hmFd.of hF1).tr (.of hF2)).tr (.of hF3')) ?_ ?_
      · rw [e]; exact hR3
      · rw [e]; show I2 a 5 &&& _ = _; rw [rset]; rfl
    · refine Ex_aload_n 73 (i := 0) dX1_passMinute_72 rfl rfl rfl ?_
      refine Ex_aload_n 74 (i := 1) dX1_passMinute_73 rfl rfl rfl ?_
      refine Ex_aload_n 75 (i := 0) dX1_passMinute_74 rfl rfl rfl ?_
      refine Ex_getR 78 dX1_passMinute_75 fX1_18 hh.1 rfl hh.2.2.2.2.2.2.2.1 rfl ?_
      refine Ex_iconst 79 (v := 0) dX1_passMinute_78 (by decide) rfl ?_
      refine Ex_aI 80 0 (I2 (a + 3) 0) dX1_passMinute_79 hh.2.2.2.1 rfl (by decide) (by decide) (congrFun (va_up_ne _ _ (by omega)) _) rfl ?_
      refine Ex_callV (M' := MX1_takeUp) 83 [.ref dk, .int (I2 (a + 3) 0)] (rest := []) dX1_passMinute_80 lX1_82 mX1_takeUp rfl hh.1 rfl (Nat.le_of_ble_eq_true rfl) (Nat.le_of_ble_eq_true rfl) rfl ?_
      obtain ⟨w, r, hlr⟩ : ∃ w r, hmLine (hmHold O (hmSettle O H)) = w :: r := by
        cases hl : hmLine (hmHold O (hmSettle O H)) with
        | nil => rw [hl] at rlen; exact absurd (by rw [rlen]; decide) c3
        | cons w r => exact ⟨w, r, rfl⟩
      have hw0 : I2 (a + 3) 0 = nI w := by rw [rline 0 (by rw [hlr]; simp), hlr]; rfl
      rw [hw0]
      have hwm : w ∈ hmLine (hmTick (hmHold O (hmSettle O H))) := by
        show w ∈ hmLine (hmHold O (hmSettle O H))
        rw [hlr]; exact List.mem_cons_self
      refine c_takeUp hh hdk hdis hR3 hO3 ho (hmOk_tick hok2) hwm (fun I3 hF3 hR4 => ?_)
      simp only [Option.toList, List.nil_append]
      refine Ex_aload_n 84 (i := 0) dX1_passMinute_83 rfl rfl rfl ?_
      refine Ex_gI 87 (I3 a 5) dX1_passMinute_84 fX1_36 hh.1 rfl rfl rfl ?_
      refine Ex_iload_n 88 (i := 3) dX1_passMinute_87 rfl rfl rfl ?_
      refine Ex_iconst 89 (v := (-1)) dX1_passMinute_88 (by decide) rfl ?_
      refine Ex_ixor 90 dX1_passMinute_89 rfl ?_
      refine Ex_iand 91 dX1_passMinute_90 rfl ?_
      refine Ex_iret dX1_passMinute_91 rfl rfl (Or.inl rfl) ?_
      have hz : (hmMin H + 1) % tk = 0 := by
        by_cases h0 : (hmMin H + 1) % tk = 0
        · exact h0
        · have := Nat.mod_lt (hmMin H + 1) (show tk > 0 by omega)
          exact absurd c2 (nI_ne0 (by omega) (by omega))
      have e : hmLast O tk (hmTick (hmHold O (hmSettle O H))) = hmTake O (hmTick (hmHold O (hmSettle O H))) w := by
        have h0 : hmLine (hmTick (hmHold O (hmSettle O H))) = w :: r := hlr
        have h1 : hmMin (hmTick (hmHold O (hmSettle O H))) % tk = 0 := hz
        simp [hmLast, h0, h1]
      refine hQ _ ((((hmFd.of hF1).tr (.of hF2)).tr (.of hF3')).tr (.of hF3)) ?_ ?_
      · rw [e]; exact hR4
      · rw [e, ← hR4.2.2.1]
set_option maxHeartbeats 4000000 in
theorem c_pass_loop {d : Nat} {sh : xSh} {R : xR} {L : xL} {I : xI} {Q : xQ} {a dk : Nat} {H : hmH} {O : hmO} (hh : xHall sh R a) (hdk : xDesk sh R dk) (hdis : dk + 9 ≤ a ∨ a + 5 ≤ dk) (hH : hmR I a H) (hO : hmD I dk O) (ho : hmOok O) (hok : hmOk O H) {tk : Nat} (htk : 1 ≤ tk) (htk2 : tk ≤ 20) (hmn : hmMin H < 1000000) (hQ : ∀ I', hmFd a dk I I' → hmR I' a (hmMinute O tk H) → Q (some (.int (hmSet (hmMinute O tk H) &&& (hmSet H ^^^ -1)))) 0 sh R L I') : ∀ (n k : Nat) (J : xI), n + k = (hmLine H).length / 2 → hmFd a dk I J → hmR J a (hmPairs O H k) → Ex (d + 3) 0 0 MX1_passMinute 0 sh R L J 8 [some (.ref a), some (.ref dk), some (.int (nI tk)), some (.int (hmSet H)), some (.int (nI (2 * k)))] [] Q := by
  obtain ⟨h6, hlen, hset, htak, hmin, hline, hhas, hheld, htalk⟩ := id hH
  intro n
  induction n with
  | zero =>
    intro k J hn hFd hR
    have hokJ := hmOk_pairs hok ho.1 k (by omega)
    have hOJ : hmD J dk O := hO.fd hFd hdis
    have jlen : J a 4 = nI (hmLine H).length := by have := hR.2.1; rwa [hmPairs_line] at this
    refine Ex_iload 10 dX1_passMinute_8 rfl rfl ?_
    refine Ex_iconst 11 (v := 1) dX1_passMinute_10 (by decide) rfl ?_
    refine Ex_iadd 12 dX1_passMinute_11 rfl ?_
    refine Ex_aload_n 13 (i := 0) dX1_passMinute_12 rfl rfl rfl ?_
    refine Ex_gI 16 (J a 4) dX1_passMinute_13 fX1_33 hh.1 rfl rfl rfl ?_
    rw [nI_1, jlen]
    refine Ex_icmp_ge 19 32 dX1_passMinute_16 (by decide) rfl (fun c1 => ?_) (fun c1 => absurd c1 (fun q => q (nI_le (by omega) (by omega))))
    refine Ex_fgt (ls' := [some (.ref a), some (.ref dk), some (.int (nI tk)), some (.int (hmSet H)), none]) (by simp [xsub]) ?_
    have hk : k = (hmLine H).length / 2 := by omega
    subst hk
    refine c_pass_32 hh hdk hdis hR hOJ ho hokJ htk htk2 (by rw [hmPairs_min]; exact hmn) (fun I' hF' hR' v hv => ?_)
    rw [hv]
    exact hQ I' (hFd.tr hF') hR'
  | succ n ih =>
    intro k J hn hFd hR
    have hokJ := hmOk_pairs hok ho.1 k (by omega)
    have hOJ : hmD J dk O := hO.fd hFd hdis
    have jlen : J a 4 = nI (hmLine H).length := by have := hR.2.1; rwa [hmPairs_line] at this
    refine Ex_iload 10 dX1_passMinute_8 rfl rfl ?_
    refine Ex_iconst 11 (v := 1) dX1_passMinute_10 (by decide) rfl ?_
    refine Ex_iadd 12 dX1_passMinute_11 rfl ?_
    refine Ex_aload_n 13 (i := 0) dX1_passMinute_12 rfl rfl rfl ?_
    refine Ex_gI 16 (J a 4) dX1_passMinute_13 fX1_33 hh.1 rfl rfl rfl ?_
    rw [nI_1, jlen]
    refine Ex_icmp_ge 19 32 dX1_passMinute_16 (by decide) rfl (fun c1 => absurd c1 (nI_ge (by omega) (by omega))) (fun c1 => ?_)
    refine Ex_aload_n 20 (i := 0) dX1_passMinute_19 rfl rfl rfl ?_
    refine Ex_aload_n 21 (i := 1) dX1_passMinute_20 rfl rfl rfl ?_
    refine Ex_iload 23 dX1_passMinute_21 rfl rfl ?_
    refine Ex_callV (M' := MX1_putThrough) 26 [.ref dk, .int (nI (2 * k))] (rest := []) dX1_passMinute_23 lX1_71 mX1_putThrough rfl hh.1 rfl (Nat.le_of_ble_eq_true rfl) (Nat.le_of_ble_eq_true rfl) rfl ?_
    refine c_putThrough hh hdk hdis hR hOJ ho hokJ (by rw [hmPairs_line]; omega) (fun J' hF' hR' => ?_)
    simp only [Option.toList, List.nil_append]
    refine Ex_iinc 29 (v := (nI (2 * (k + 1)))) (ls' := [some (.ref a), some (.ref dk), some (.int (nI tk)), some (.int (hmSet H)), some (.int (nI (2 * (k + 1))))]) dX1_passMinute_26 rfl (hm_inc2 k) (Nat.le_of_ble_eq_true rfl) rfl rfl rfl ?_
    refine Ex_goto 8 dX1_passMinute_29 (by decide) ?_
    refine ih (k + 1) J' (by omega) (hFd.tr hF') ?_
    rw [hmPairs_line] at hR'
    exact hR'
set_option maxHeartbeats 4000000 in
theorem c_passMinute {d : Nat} {sh : xSh} {R : xR} {L : xL} {I : xI} {Q : xQ} {a dk : Nat} {H : hmH} {O : hmO} (hh : xHall sh R a) (hdk : xDesk sh R dk) (hdis : dk + 9 ≤ a ∨ a + 5 ≤ dk) (hH : hmR I a H) (hO : hmD I dk O) (ho : hmOok O) (hok : hmOk O H) {tk : Nat} (htk : 1 ≤ tk) (htk2 : tk ≤ 20) (hmn : hmMin H < 1000000) (hQ : ∀ I', hmFd a dk I I' → hmR I' a (hmMinute O tk H) → Q (some (.int (hmSet (hmMinute O tk H) &&& (hmSet H ^^^ -1)))) 0 sh R L I') : Ex (d + 3) 0 0 MX1_passMinute 0 sh R L I 0 [some (.ref a), some (.ref dk), some (.int (nI tk)), none, none] [] Q := by
  obtain ⟨h6, hlen, hset, htak, hmin, hline, hhas, hheld, htalk⟩ := id hH
  refine Ex_aload_n 1 (i := 0) dX1_passMinute_0 rfl rfl rfl ?_
  refine Ex_gI 4 (I a 5) dX1_passMinute_1 fX1_36 hh.1 rfl rfl rfl ?_
  rw [hset]
  refine Ex_istore_n 5 (i := 3) (ls' := [some (.ref a), some (.ref dk), some (.int (nI tk)), some (.int (hmSet H)), none]) dX1_passMinute_4 rfl (Nat.le_of_ble_eq_true rfl) rfl rfl rfl ?_
  refine Ex_iconst 6 (v := 0) dX1_passMinute_5 (by decide) rfl ?_
  refine Ex_istore 8 (ls' := [some (.ref a), some (.ref dk), some (.int (nI tk)), some (.int (hmSet H)), some (.int 0)]) dX1_passMinute_6 (Nat.le_of_ble_eq_true rfl) rfl rfl rfl ?_
  exact c_pass_loop hh hdk hdis hH hO ho hok htk htk2 hmn hQ ((hmLine H).length / 2) 0 I (by omega) .rf hH
/-- minutes till nobody is on the line, at most n -/
def hmOut (O : hmO) : Nat → hmH → Nat × hmH
  | 0, H => (0, H)
  | n + 1, H => if hmLine H = [] then (0, H) else ((hmOut O n (hmMinute O (hmTk O) H)).1 + 1, (hmOut O n (hmMinute O (hmTk O) H)).2)
theorem hmMinute_min (O : hmO) (tk : Nat) (H : hmH) : hmMin (hmMinute O tk H) = hmMin H + 1 := by
  have h1 : hmMin (hmTick (hmHold O (hmSettle O (hmPairs O H ((hmLine H).length / 2))))) = hmMin H + 1 := by
    show hmMin (hmPairs O H ((hmLine H).length / 2)) + 1 = _
    rw [hmPairs_min]
  unfold hmMinute hmLast
  split
  · exact h1
  · split
    · exact h1
    · exact h1
theorem hmOut_ok {O : hmO} (ho : hmOok O) : ∀ (n : Nat) (H : hmH), hmOk O H → hmOk O (hmOut O n H).2 ∧ hmMin (hmOut O n H).2 ≤ hmMin H + n ∧ (hmOut O n H).1 ≤ n := by
  intro n
  induction n with
  | zero => intro H h; exact ⟨h, Nat.le_refl _, Nat.le_refl _⟩
  | succ n ih =>
    intro H h
    unfold hmOut
    split
    · exact ⟨h, by simp only; omega, Nat.zero_le _⟩
    · obtain ⟨h1, h2, h3⟩ := ih _ (hmOk_minute (tk := hmTk O) h ho)
      rw [hmMinute_min] at h2
      exact ⟨h1, by simp only; omega, by simp only; omega⟩
set_option maxHeartbeats 4000000 in
theorem c_runOut_loop {d : Nat} {sh : xSh} {R : xR} {L : xL} {I : xI} {Q : xQ} {a dk : Nat} {H0 : hmH} {O : hmO} (hh : xHall sh R a) (hdk : xDesk sh R dk) (hdis : dk + 9 ≤ a ∨ a + 5 ≤ dk) (hO : hmD I dk O) (ho : hmOok O) (hQ : ∀ I', hmFd a dk I I' → hmR I' a (hmOut O 30 H0).2 → Q (some (.int (nI (hmOut O 30 H0).1))) 0 sh R L I') : ∀ (n k : Nat) (J : xI) (H : hmH), n + k = 30 → hmMin H < 900000 + k → hmFd a dk I J → hmR J a H → hmOk O H → (hmOut O 30 H0).1 = k + (hmOut O n H).1 → (hmOut O 30 H0).2 = (hmOut O n H).2 → Ex (d + 4) 0 0 MX1_runOut 0 sh R L J 2 [some (.ref a), some (.ref dk), some (.int (nI k))] [] Q := by
  obtain ⟨on, otk, ow, olen, olaw⟩ := id hO
  obtain ⟨o6, ot1, ot2, oo, oll, owf⟩ := id ho
  intro n
  induction n with
  | zero =>
    intro k J H hn hmn hFd hR hokJ e1 e2
    have hOJ : hmD J dk O := hO.fd hFd hdis
    have jlen := hR.2.1
    have j6 := hR.1
    refine Ex_aload_n 3 (i := 0) dX1_runOut_2 rfl rfl rfl ?_
    refine Ex_gI 6 (J a 4) dX1_runOut_3 fX1_33 hh.1 rfl rfl rfl ?_
    rw [jlen]
    refine Ex_if_le 9 31 dX1_runOut_6 (by decide) rfl (fun c1 => ?_) (fun c1 => ?_)
    · refine Ex_iload_n 32 (i := 2) dX1_runOut_31 rfl rfl rfl ?_
      refine Ex_iret dX1_runOut_32 rfl rfl (Or.inl rfl) ?_
      rw [show k = (hmOut O 30 H0).1 by rw [e1]; rfl]
      refine hQ J hFd ?_
      rw [e2]
      exact hR
    · refine Ex_iload_n 10 (i := 2) dX1_runOut_9 rfl rfl rfl ?_
      refine Ex_bipush 12 (v := 30) dX1_runOut_10 (by decide) rfl ?_
      refine Ex_icmp_ge 15 31 dX1_runOut_12 (by decide) rfl (fun c2 => ?_) (fun c2 => absurd c2 (fun q => q (nI_le (a := 30) (by omega) (by omega))))
      refine Ex_iload_n 32 (i := 2) dX1_runOut_31 rfl rfl rfl ?_
      refine Ex_iret dX1_runOut_32 rfl rfl (Or.inl rfl) ?_
      rw [show k = (hmOut O 30 H0).1 by rw [e1]; rfl]
      refine hQ J hFd ?_
      rw [e2]
      exact hR
  | succ n ih =>
    intro k J H hn hmn hFd hR hokJ e1 e2
    have hOJ : hmD J dk O := hO.fd hFd hdis
    have jlen := hR.2.1
    have j6 := hR.1
    refine Ex_aload_n 3 (i := 0) dX1_runOut_2 rfl rfl rfl ?_
    refine Ex_gI 6 (J a 4) dX1_runOut_3 fX1_33 hh.1 rfl rfl rfl ?_
    rw [jlen]
    refine Ex_if_le 9 31 dX1_runOut_6 (by decide) rfl (fun c1 => ?_) (fun c1 => ?_)
    · refine Ex_iload_n 32 (i := 2) dX1_runOut_31 rfl rfl rfl ?_
      refine Ex_iret dX1_runOut_32 rfl rfl (Or.inl rfl) ?_
      have hl0 := List.eq_nil_of_length_eq_zero (hm_le0 (by omega) c1)
      have e3 : hmOut O (n + 1) H = (0, H) := by simp [hmOut, hl0]
      rw [e3] at e1 e2
      rw [show k = (hmOut O 30 H0).1 by rw [e1]; rfl]
      refine hQ J hFd ?_
      rw [e2]
      exact hR
    · refine Ex_iload_n 10 (i := 2) dX1_runOut_9 rfl rfl rfl ?_
      refine Ex_bipush 12 (v := 30) dX1_runOut_10 (by decide) rfl ?_
      refine Ex_icmp_ge 15 31 dX1_runOut_12 (by decide) rfl (fun c2 => absurd c2 (nI_ge (b := 30) (by omega) (by decide))) (fun c2 => ?_)
      refine Ex_aload_n 16 (i := 0) dX1_runOut_15 rfl rfl rfl ?_
      refine Ex_aload_n 17 (i := 1) dX1_runOut_16 rfl rfl rfl ?_
      refine Ex_aload_n 18 (i := 1) dX1_runOut_17 rfl rfl rfl ?_
      refine Ex_gI 21 (J dk 7) dX1_runOut_18 fX1_64 hdk.1 rfl rfl rfl ?_
      rw [hOJ.2.1]
      refine Ex_callV (M' := MX1_passMinute) 24 [.ref dk, .int (nI (hmTk O))] (rest := []) dX1_runOut_21 lX1_67 mX1_passMinute rfl hh.1 rfl (Nat.le_of_ble_eq_true rfl) (Nat.le_of_ble_eq_true rfl) rfl ?_
      refine c_passMinute hh hdk hdis hR hOJ ho hokJ ot1 ot2 (by omega) (fun J' hF' hR' => ?_)
      simp only [Option.toList, List.cons_append, List.nil_append]
      refine Ex_pop 25 dX1_runOut_24 rfl rfl ?_
      refine Ex_iinc 28 (v := (nI (k + 1))) (ls' := [some (.ref a), some (.ref dk), some (.int (nI (k + 1)))]) dX1_runOut_25 rfl (xinc _) (Nat.le_of_ble_eq_true rfl) rfl rfl rfl ?_
      refine Ex_goto 2 dX1_runOut_28 (by decide) ?_
      have hl0 : ¬ hmLine H = [] := fun q => absurd (show nI (hmLine H).length ≤ 0 by rw [q]; decide) c1
      have e3 : hmOut O (n + 1) H = ((hmOut O n (hmMinute O (hmTk O) H)).1 + 1, (hmOut O n (hmMinute O (hmTk O) H)).2) := by simp [hmOut, hl0]
      rw [e3] at e1 e2
      exact ih (k + 1) J' _ (by omega) (by rw [hmMinute_min]; omega) (hFd.tr hF') hR' (hmOk_minute hokJ ho) (by rw [e1]; simp only; omega) e2
set_option maxHeartbeats 4000000 in
theorem c_runOut {d : Nat} {sh : xSh} {R : xR} {L : xL} {I : xI} {Q : xQ} {a dk : Nat} {H0 : hmH} {O : hmO} (hh : xHall sh R a) (hdk : xDesk sh R dk) (hdis : dk + 9 ≤ a ∨ a + 5 ≤ dk) (hO : hmD I dk O) (ho : hmOok O) (hH : hmR I a H0) (hok : hmOk O H0) (hmn : hmMin H0 < 900000) (hQ : ∀ I', hmFd a dk I I' → hmR I' a (hmOut O 30 H0).2 → Q (some (.int (nI (hmOut O 30 H0).1))) 0 sh R L I') : Ex (d + 4) 0 0 MX1_runOut 0 sh R L I 0 [some (.ref a), some (.ref dk), none] [] Q := by
  refine Ex_iconst 1 (v := 0) dX1_runOut_0 (by decide) rfl ?_
  refine Ex_istore_n 2 (i := 2) (ls' := [some (.ref a), some (.ref dk), some (.int 0)]) dX1_runOut_1 rfl (Nat.le_of_ble_eq_true rfl) rfl rfl rfl ?_
  exact c_runOut_loop hh hdk hdis hO ho hQ 30 0 I H0 rfl (by omega) .rf hH hok (by omega) rfl
set_option maxHeartbeats 4000000 in
theorem c_begin_2 {d : Nat} {sh : xSh} {R : xR} {L : xL} {I : xI} {Q : xQ} {a dk : Nat} {O : hmO} (hh : xHall sh R a) (hdk : xDesk sh R dk) (hdis : dk + 9 ≤ a ∨ a + 5 ≤ dk) (hO : hmD I dk O) (hN : hmN O ≤ 6) (hQ : ∀ I', (∀ x, ¬ (a ≤ x ∧ x < a + 5) → I' x = I x) → hmR I' a (hmBegin O) → Q none 0 sh R L I') : ∀ (n i : Nat) (J : xI) (r1 r2 r4 : Nat → Int32), n + i = 6 → J (a + 1) = r1 → J (a + 2) = r2 → J (a + 4) = r4 → (∀ x, ¬ (a ≤ x ∧ x < a + 5) → J x = I x) → (∀ w, w < i → r1 w = if w < hmN O then hmKn O w else 0) → (∀ w, w < i → r2 w = 0) → (∀ w, w < 36 → r4 w = 0) → Ex d 0 0 MX1_begin 0 sh R L J 26 [some (.ref a), some (.ref dk), some (.int (nI i))] [] Q := by
  obtain ⟨on, otk, ow, olen, olaw⟩ := id hO
  intro n
  induction n with
  | zero =>
    intro i J r1 r2 r4 hn hJ1 hJ2 hJ4 hFr g1 g2 g4
    refine Ex_iload_n 27 (i := 2) dX1_begin_26 rfl rfl rfl ?_
    refine Ex_bipush 29 (v := 6) dX1_begin_27 (by decide) rfl ?_
    refine Ex_icmp_ge 32 69 dX1_begin_29 (by decide) rfl (fun c1 => ?_) (fun c1 => absurd c1 (fun q => q (nI_le (a := 6) (by omega) (by omega))))
    refine Ex_aload_n 70 (i := 0) dX1_begin_69 rfl rfl rfl ?_
    refine Ex_iconst 71 (v := 0) dX1_begin_70 (by decide) rfl ?_
    refine Ex_pI 74 (J a) (va_up J a (va_up (J a) 4 0)) dX1_begin_71 fX1_33 rfl hh.1 rfl (fun _ => rfl) rfl rfl rfl rfl ?_
    refine Ex_aload_n 75 (i := 0) dX1_begin_74 rfl rfl rfl ?_
    refine Ex_iconst 76 (v := 0) dX1_begin_75 (by decide) rfl ?_
    refine Ex_pI 79 (va_up (J a) 4 0) (va_up J a (va_up (va_up (J a) 4 0) 5 0)) dX1_begin_76 fX1_36 rfl hh.1 rfl (fun _ => rfl) (va_up_self _ _ _) rfl (va_up_up _ _ _ _) rfl ?_
    refine Ex_aload_n 80 (i := 0) dX1_begin_79 rfl rfl rfl ?_
    refine Ex_iconst 81 (v := 0) dX1_begin_80 (by decide) rfl ?_
    refine Ex_pI 84 (va_up (va_up (J a) 4 0) 5 0) (va_up J a (va_up (va_up (va_up (J a) 4 0) 5 0) 6 0)) dX1_begin_81 fX1_39 rfl hh.1 rfl (fun _ => rfl) (va_up_self _ _ _) rfl (va_up_up _ _ _ _) rfl ?_
    refine Ex_aload_n 85 (i := 0) dX1_begin_84 rfl rfl rfl ?_
    refine Ex_iconst 86 (v := 0) dX1_begin_85 (by decide) rfl ?_
    refine Ex_pI 89 (va_up (va_up (va_up (J a) 4 0) 5 0) 6 0) (va_up J a (va_up (va_up (va_up (va_up (J a) 4 0) 5 0) 6 0) 7 0)) dX1_begin_86 fX1_42 rfl hh.1 rfl (fun _ => rfl) (va_up_self _ _ _) rfl (va_up_up _ _ _ _) rfl ?_
    refine Ex_ret0 dX1_begin_89 rfl (Or.inl rfl) ?_
    refine hQ _ (fun x hx => by rw [va_up_ne _ _ (by omega)]; exact hFr x hx) (hmR_mk (va_up_self _ _ _) ((va_up_ne _ _ (by omega)).trans hJ1) ((va_up_ne _ _ (by omega)).trans hJ2) (va_up_ne _ _ (by omega)) ((va_up_ne _ _ (by omega)).trans hJ4) ?_)
    exact ⟨by show ([] : List Nat).length ≤ 6; simp, rfl, rfl, rfl, rfl, fun i hi => absurd hi (by show ¬ i < ([] : List Nat).length; simp), fun w hw => g1 w (by omega), fun w hw => by rw [g2 w (by omega)]; rfl, fun x hx y hy => by rw [g4 _ (by omega)]; rfl⟩
  | succ n ih =>
    intro i J r1 r2 r4 hn hJ1 hJ2 hJ4 hFr g1 g2 g4
    refine Ex_iload_n 27 (i := 2) dX1_begin_26 rfl rfl rfl ?_
    refine Ex_bipush 29 (v := 6) dX1_begin_27 (by decide) rfl ?_
    refine Ex_icmp_ge 32 69 dX1_begin_29 (by decide) rfl (fun c1 => absurd c1 (nI_ge (b := 6) (by omega) (by decide))) (fun c1 => ?_)
    refine Ex_aload_n 33 (i := 0) dX1_begin_32 rfl rfl rfl ?_
    refine Ex_getR 36 dX1_begin_33 fX1_9 hh.1 rfl hh.2.2.2.2.2.1 rfl ?_
    refine Ex_iload_n 37 (i := 2) dX1_begin_36 rfl rfl rfl ?_
    refine Ex_iload_n 38 (i := 2) dX1_begin_37 rfl rfl rfl ?_
    refine Ex_aload_n 39 (i := 1) dX1_begin_38 rfl rfl rfl ?_
    refine Ex_gI 42 (I dk 6) dX1_begin_39 fX1_24 hdk.1 rfl (congrFun (hFr _ (by omega)) _) rfl ?_
    rw [on]
    refine Ex_icmp_ge 45 54 dX1_begin_42 (by decide) rfl (fun c2 => ?_) (fun c2 => ?_)
    · refine Ex_iconst 55 (v := 0) dX1_begin_54 (by decide) rfl ?_
      refine Ex_sI 56 i r1 (va_up J (a + 1) (va_up r1 i 0)) dX1_begin_55 hh.2.1 rfl (by omega) (by decide) hJ1 rfl rfl ?_
      refine Ex_aload_n 57 (i := 0) dX1_begin_56 rfl rfl rfl ?_
      refine Ex_getR 60 dX1_begin_57 fX1_15 hh.1 rfl hh.2.2.2.2.2.2.1 rfl ?_
      refine Ex_iload_n 61 (i := 2) dX1_begin_60 rfl rfl rfl ?_
      refine Ex_iconst 62 (v := 0) dX1_begin_61 (by decide) rfl ?_
      refine Ex_sI 63 i r2 (va_up (va_up J (a + 1) (va_up r1 i 0)) (a + 2) (va_up r2 i 0)) dX1_begin_62 hh.2.2.1 rfl (by omega) (by decide) ((va_up_ne _ _ (by omega)).trans hJ2) rfl rfl ?_
      refine Ex_iinc 66 (v := (nI (i + 1))) (ls' := [some (.ref a), some (.ref dk), some (.int (nI (i + 1)))]) dX1_begin_63 rfl (xinc _) (Nat.le_of_ble_eq_true rfl) rfl rfl rfl ?_
      refine Ex_goto 26 dX1_begin_66 (by decide) ?_
      have hiN : ¬ i < hmN O := fun h => absurd c2 (nI_ge h (by omega))
      refine ih (i + 1) _ _ _ _ (by omega) ((va_up_ne _ _ (by omega)).trans (va_up_self _ _ _)) (va_up_self _ _ _) ((va_up_ne _ _ (by omega)).trans ((va_up_ne _ _ (by omega)).trans hJ4)) (fun x hx => by rw [va_up_ne _ _ (by omega), va_up_ne _ _ (by omega)]; exact hFr x hx) (fun w hw => ?_) (fun w hw => ?_) g4
      · by_cases e : w = i
        · subst e; rw [va_up_self, if_neg hiN]
        · rw [va_up_ne _ _ e]; exact g1 w (by omega)
      · by_cases e : w = i
        · subst e; rw [va_up_self]
        · rw [va_up_ne _ _ e]; exact g2 w (by omega)
    · have hiN : i < hmN O := by
        by_cases h : i < hmN O
        · exact h
        · exact absurd (nI_le (by omega) (by omega)) c2
      refine Ex_aload_n 46 (i := 1) dX1_begin_45 rfl rfl rfl ?_
      refine Ex_getR 49 dX1_begin_46 fX1_30 hdk.1 rfl hdk.2.2.2.2.2.2.2.2.2.2.2.2.1 rfl ?_
      refine Ex_iload_n 50 (i := 2) dX1_begin_49 rfl rfl rfl ?_
      refine Ex_aI 51 i (I (dk + 4) i) dX1_begin_50 hdk.2.2.2.2.1 rfl (by omega) (by decide) (congrFun (hFr _ (by omega)) _) rfl ?_
      rw [(ow i hiN).2.2.1]
      refine Ex_goto 55 dX1_begin_51 (by decide) ?_
      refine Ex_sI 56 i r1 (va_up J (a + 1) (va_up r1 i (hmKn O i))) dX1_begin_55 hh.2.1 rfl (by omega) (by decide) hJ1 rfl rfl ?_
      refine Ex_aload_n 57 (i := 0) dX1_begin_56 rfl rfl rfl ?_
      refine Ex_getR 60 dX1_begin_57 fX1_15 hh.1 rfl hh.2.2.2.2.2.2.1 rfl ?_
      refine Ex_iload_n 61 (i := 2) dX1_begin_60 rfl rfl rfl ?_
      refine Ex_iconst 62 (v := 0) dX1_begin_61 (by decide) rfl ?_
      refine Ex_sI 63 i r2 (va_up (va_up J (a + 1) (va_up r1 i (hmKn O i))) (a + 2) (va_up r2 i 0)) dX1_begin_62 hh.2.2.1 rfl (by omega) (by decide) ((va_up_ne _ _ (by omega)).trans hJ2) rfl rfl ?_
      refine Ex_iinc 66 (v := (nI (i + 1))) (ls' := [some (.ref a), some (.ref dk), some (.int (nI (i + 1)))]) dX1_begin_63 rfl (xinc _) (Nat.le_of_ble_eq_true rfl) rfl rfl rfl ?_
      refine Ex_goto 26 dX1_begin_66 (by decide) ?_
      refine ih (i + 1) _ _ _ _ (by omega) ((va_up_ne _ _ (by omega)).trans (va_up_self _ _ _)) (va_up_self _ _ _) ((va_up_ne _ _ (by omega)).trans ((va_up_ne _ _ (by omega)).trans hJ4)) (fun x hx => by rw [va_up_ne _ _ (by omega), va_up_ne _ _ (by omega)]; exact hFr x hx) (fun w hw => ?_) (fun w hw => ?_) g4
      · by_cases e : w = i
        · subst e; rw [va_up_self, if_pos hiN]
        · rw [va_up_ne _ _ e]; exact g1 w (by omega)
      · by_cases e : w = i
        · subst e; rw [va_up_self]
        · rw [va_up_ne _ _ e]; exact g2 w (by omega)
set_option maxHeartbeats 4000000 in
theorem c_begin_1 {d : Nat} {sh : xSh} {R : xR} {L : xL} {I : xI} {Q : xQ} {a dk : Nat} {O : hmO} (hh : xHall sh R a) (hdk : xDesk sh R dk) (hdis : dk + 9 ≤ a ∨ a + 5 ≤ dk) (hO : hmD I dk O) (hN : hmN O ≤ 6) (hQ : ∀ I', (∀ x, ¬ (a ≤ x ∧ x < a + 5) → I' x = I x) → hmR I' a (hmBegin O) → Q none 0 sh R L I') : ∀ (n i : Nat) (r4 : Nat → Int32), n + i = 36 → (∀ w, w < i → r4 w = 0) → Ex d 0 0 MX1_begin 0 sh R L (va_up I (a + 4) r4) 2 [some (.ref a), some (.ref dk), some (.int (nI i))] [] Q := by
  intro n
  induction n with
  | zero =>
    intro i r4 hn g4
    refine Ex_iload_n 3 (i := 2) dX1_begin_2 rfl rfl rfl ?_
    refine Ex_aload_n 4 (i := 0) dX1_begin_3 rfl rfl rfl ?_
    refine Ex_getR 7 dX1_begin_4 fX1_21 hh.1 rfl hh.2.2.2.2.2.2.2.2 rfl ?_
    refine Ex_alen 8 0 dX1_begin_7 hh.2.2.2.2.1 (fun _ => rfl) rfl ?_
    refine Ex_icmp_ge 11 24 dX1_begin_8 (by decide) rfl (fun c1 => ?_) (fun c1 => absurd c1 (fun q => q (nI_le (a := 36) (by omega) (by omega))))
    refine Ex_iconst 25 (v := 0) dX1_begin_24 (by decide) rfl ?_
    refine Ex_istore_n 26 (i := 2) (ls' := [some (.ref a), some (.ref dk), some (.int 0)]) dX1_begin_25 rfl (Nat.le_of_ble_eq_true rfl) rfl rfl rfl ?_
    exact c_begin_2 hh hdk hdis hO hN hQ 6 0 _ _ _ _ rfl rfl rfl (va_up_self _ _ _) (fun x hx => va_up_ne _ _ (by omega)) (fun w hw => absurd hw (by omega)) (fun w hw => absurd hw (by omega)) (fun w hw => g4 w (by omega))
  | succ n ih =>
    intro i r4 hn g4
    refine Ex_iload_n 3 (i := 2) dX1_begin_2 rfl rfl rfl ?_
    refine Ex_aload_n 4 (i := 0) dX1_begin_3 rfl rfl rfl ?_
    refine Ex_getR 7 dX1_begin_4 fX1_21 hh.1 rfl hh.2.2.2.2.2.2.2.2 rfl ?_
    refine Ex_alen 8 0 dX1_begin_7 hh.2.2.2.2.1 (fun _ => rfl) rfl ?_
    refine Ex_icmp_ge 11 24 dX1_begin_8 (by decide) rfl (fun c1 => absurd c1 (nI_ge (b := 36) (by omega) (by decide))) (fun c1 => ?_)
    refine Ex_aload_n 12 (i := 0) dX1_begin_11 rfl rfl rfl ?_
    refine Ex_getR 15 dX1_begin_12 fX1_21 hh.1 rfl hh.2.2.2.2.2.2.2.2 rfl ?_
    refine Ex_iload_n 16 (i := 2) dX1_begin_15 rfl rfl rfl ?_
    refine Ex_iconst 17 (v := 0) dX1_begin_16 (by decide) rfl ?_
    refine Ex_sI 18 i r4 (va_up I (a + 4) (va_up r4 i 0)) dX1_begin_17 hh.2.2.2.2.1 rfl (by omega) (by decide) (va_up_self _ _ _) (va_up_up _ _ _ _) rfl ?_
    refine Ex_iinc 21 (v := (nI (i + 1))) (ls' := [some (.ref a), some (.ref dk), some (.int (nI (i + 1)))]) dX1_begin_18 rfl (xinc _) (Nat.le_of_ble_eq_true rfl) rfl rfl rfl ?_
    refine Ex_goto 2 dX1_begin_21 (by decide) ?_
    refine ih (i + 1) _ (by omega) (fun w hw => ?_)
    by_cases e : w = i
    · subst e; rw [va_up_self]
    · rw [va_up_ne _ _ e]; exact g4 w (by omega)
set_option maxHeartbeats 4000000 in
theorem c_begin {d : Nat} {sh : xSh} {R : xR} {L : xL} {I : xI} {Q : xQ} {a dk : Nat} {O : hmO} (hh : xHall sh R a) (hdk : xDesk sh R dk) (hdis : dk + 9 ≤ a ∨ a + 5 ≤ dk) (hO : hmD I dk O) (hN : hmN O ≤ 6) (hQ : ∀ I', (∀ x, ¬ (a ≤ x ∧ x < a + 5) → I' x = I x) → hmR I' a (hmBegin O) → Q none 0 sh R L I') : Ex d 0 0 MX1_begin 0 sh R L I 0 [some (.ref a), some (.ref dk), none] [] Q := by
  refine Ex_iconst 1 (v := 0) dX1_begin_0 (by decide) rfl ?_
  refine Ex_istore_n 2 (i := 2) (ls' := [some (.ref a), some (.ref dk), some (.int 0)]) dX1_begin_1 rfl (Nat.le_of_ble_eq_true rfl) rfl rfl rfl ?_
  refine Ex_I (va_up_id I (a + 4)).symm ?_
  exact c_begin_1 hh hdk hdis hO hN hQ 36 0 _ rfl (fun w hw => absurd hw (by omega))
