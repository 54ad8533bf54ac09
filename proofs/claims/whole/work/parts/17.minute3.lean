theorem hm_take1 {l : List Nat} {i : Nat} (h : i < l.length) : l.take (i + 1) = l.take i ++ [l.getD i 0] := by
  rw [List.take_succ_eq_append_getElem h]
  simp [h]
theorem hm_notin {l : List Nat} {i : Nat} (hn : l.Nodup) (h : i < l.length) : l.getD i 0 ∉ l.take i := by
  intro q
  obtain ⟨j, hj, he⟩ := List.getElem_of_mem q
  have hj2 : j < i := by
    have : j < (l.take i).length := hj
    simp at this
    omega
  have e1 : l[j] = l[i] := by
    rw [List.getElem_take] at he
    rw [he]
    simp [h]
  have := (List.getElem_inj hn).mp e1
  omega
set_option maxHeartbeats 4000000 in
theorem c_settle_loop {d : Nat} {sh : xSh} {R : xR} {L : xL} {I : xI} {Q : xQ} {a dk : Nat} {H : hmH} {O : hmO} (hh : xHall sh R a) (hdk : xDesk sh R dk) (hdis : dk + 9 ≤ a ∨ a + 5 ≤ dk) (hH : hmR I a H) (hO : hmD I dk O) (ho : hmOok O) (hok : hmOk O H) (hQ : ∀ I', (∀ x, ¬ (a ≤ x ∧ x < a + 5) → I' x = I x) → hmR I' a (hmSettle O H) → Q none 0 sh R L I') : ∀ (n i : Nat) (J : xI) (r0 r2 r3 : Nat → Int32), n + i = (hmLine H).length → J a = r0 → J (a + 1) = I (a + 1) → J (a + 2) = r2 → J (a + 3) = r3 → J (a + 4) = I (a + 4) → (∀ x, ¬ (a ≤ x ∧ x < a + 5) → J x = I x) → r0 4 = nI (hmLine H).length → r0 5 = (((hmLine H).take i).filter (hmHelped O (hmHas H))).foldl (fun s w => s ||| hmOne w) (hmSet H) → r0 6 = hmTak H → r0 7 = nI (hmMin H) → (∀ w, w < 6 → r2 w = nI (if w ∈ (hmLine H).take i ∧ hmHelped O (hmHas H) w = true then 0 else hmHeld H w)) → (∀ j, j < (((hmLine H).take i).filter (fun w => !hmHelped O (hmHas H) w)).length → r3 j = nI ((((hmLine H).take i).filter (fun w => !hmHelped O (hmHas H) w)).getD j 0)) → (∀ j, i ≤ j → j < (hmLine H).length → r3 j = nI ((hmLine H).getD j 0)) → Ex d 0 0 MX1_settleWhoKnow 0 sh R L J 4 [some (.ref a), some (.ref dk), some (.int (nI (((hmLine H).take i).filter (fun w => !hmHelped O (hmHas H) w)).length)), some (.int (nI i)), none] [] Q := by
  obtain ⟨h6, hlen, hset, htak, hmin, hline, hhas, hheld, htalk⟩ := id hH
  obtain ⟨on, otk, ow, olen, olaw⟩ := id hO
  obtain ⟨o6, ot1, ot2, oo, oll, owf⟩ := id ho
  obtain ⟨hnd, hlN, hs10, hs6, ht6, hhh, hhz, hnb, hsym⟩ := id hok
  intro n
  induction n with
  | zero =>
    intro i J r0 r2 r3 hn hJ0 hJ1 hJ2 hJ3 hJ4 hFr g0 g1 g2 g3 g4 g5 g6
    have hi : (hmLine H).length ≤ i := by omega
    rw [List.take_of_length_le hi] at g1 g4 g5
    refine Ex_iload_n 5 (i := 3) dX1_settleWhoKnow_4 rfl rfl rfl ?_
    refine Ex_aload_n 6 (i := 0) dX1_settleWhoKnow_5 rfl rfl rfl ?_
    refine Ex_gI 9 (r0 4) dX1_settleWhoKnow_6 fX1_33 hh.1 rfl (congrFun hJ0 _) rfl ?_
    rw [g0]
    refine Ex_icmp_ge 12 82 dX1_settleWhoKnow_9 (by decide) rfl (fun c1 => ?_) (fun c1 => absurd c1 (fun q => q (nI_le (by omega) (by omega))))
    rw [List.take_of_length_le hi]
    refine Ex_aload_n 83 (i := 0) dX1_settleWhoKnow_82 rfl rfl rfl ?_
    refine Ex_iload_n 84 (i := 2) dX1_settleWhoKnow_83 rfl rfl rfl ?_
    refine Ex_pI 87 r0 (va_up J a (va_up r0 4 (nI ((hmLine H).filter (fun w => !hmHelped O (hmHas H) w)).length))) dX1_settleWhoKnow_84 fX1_33 rfl hh.1 rfl (fun _ => rfl) hJ0 rfl rfl rfl ?_
    refine Ex_ret0 dX1_settleWhoKnow_87 rfl (Or.inl rfl) ?_
    refine hQ _ (fun x hx => by rw [va_up_ne _ _ (by omega)]; exact hFr x hx) (hmR_mk (va_up_self _ _ _) ((va_up_ne _ _ (by omega)).trans hJ1) ((va_up_ne _ _ (by omega)).trans hJ2) ((va_up_ne _ _ (by omega)).trans hJ3) ((va_up_ne _ _ (by omega)).trans hJ4) ?_)
    have hkl : ((hmLine H).filter (fun w => !hmHelped O (hmHas H) w)).length ≤ (hmLine H).length := List.length_filter_le _ _
    refine ⟨?_, rfl, g1, g2, g3, g5, hhas, g4, htalk⟩
    show ((hmLine H).filter (fun w => !hmHelped O (hmHas H) w)).length ≤ 6
    omega
  | succ n ih =>
    intro i J r0 r2 r3 hn hJ0 hJ1 hJ2 hJ3 hJ4 hFr g0 g1 g2 g3 g4 g5 g6
    have hi : i < (hmLine H).length := by omega
    have hkl : (((hmLine H).take i).filter (fun w => !hmHelped O (hmHas H) w)).length ≤ i := Nat.le_trans (List.length_filter_le _ _) (by rw [List.length_take]; omega)
    obtain ⟨u, hue⟩ : ∃ u, (hmLine H).getD i 0 = u := ⟨_, rfl⟩
    have hu : u < hmN O := by rw [← hue]; exact hlN _ (hm_getD_mem hi)
    have hl1 : r3 i = nI u := by rw [g6 i (Nat.le_refl _) hi, hue]
    have ht1 : (hmLine H).take (i + 1) = (hmLine H).take i ++ [u] := by rw [hm_take1 hi, hue]
    have hnu : u ∉ (hmLine H).take i := by rw [← hue]; exact hm_notin hnd hi
    refine Ex_iload_n 5 (i := 3) dX1_settleWhoKnow_4 rfl rfl rfl ?_
    refine Ex_aload_n 6 (i := 0) dX1_settleWhoKnow_5 rfl rfl rfl ?_
    refine Ex_gI 9 (r0 4) dX1_settleWhoKnow_6 fX1_33 hh.1 rfl (congrFun hJ0 _) rfl ?_
    rw [g0]
    refine Ex_icmp_ge 12 82 dX1_settleWhoKnow_9 (by decide) rfl (fun c1 => absurd c1 (nI_ge (by omega) (by omega))) (fun c1 => ?_)
    refine Ex_aload_n 13 (i := 0) dX1_settleWhoKnow_12 rfl rfl rfl ?_
    refine Ex_getR 16 dX1_settleWhoKnow_13 fX1_18 hh.1 rfl hh.2.2.2.2.2.2.2.1 rfl ?_
    refine Ex_iload_n 17 (i := 3) dX1_settleWhoKnow_16 rfl rfl rfl ?_
    refine Ex_aI 18 i (r3 i) dX1_settleWhoKnow_17 hh.2.2.2.1 rfl (by omega) (by decide) (congrFun hJ3 _) rfl ?_
    rw [hl1]
    refine Ex_istore 20 (ls' := [some (.ref a), some (.ref dk), some (.int (nI (((hmLine H).take i).filter (fun w => !hmHelped O (hmHas H) w)).length)), some (.int (nI i)), some (.int (nI u))]) dX1_settleWhoKnow_18 (Nat.le_of_ble_eq_true rfl) rfl rfl rfl ?_
    refine Ex_aload_n 21 (i := 0) dX1_settleWhoKnow_20 rfl rfl rfl ?_
    refine Ex_getR 24 dX1_settleWhoKnow_21 fX1_9 hh.1 rfl hh.2.2.2.2.2.1 rfl ?_
    refine Ex_iload 26 dX1_settleWhoKnow_24 rfl rfl ?_
    refine Ex_aI 27 u (I (a + 1) u) dX1_settleWhoKnow_26 hh.2.1 rfl (by omega) (by decide) (congrFun hJ1 _) rfl ?_
    rw [hhas u (by omega)]
    refine Ex_aload_n 28 (i := 1) dX1_settleWhoKnow_27 rfl rfl rfl ?_
    refine Ex_getR 31 dX1_settleWhoKnow_28 fX1_92 hdk.1 rfl hdk.2.2.2.2.2.2.2.2.2.2.2.1 rfl ?_
    refine Ex_iload 33 dX1_settleWhoKnow_31 rfl rfl ?_
    refine Ex_aI 34 u (I (dk + 3) u) dX1_settleWhoKnow_33 hdk.2.2.2.1 rfl (by omega) (by decide) (congrFun (hFr _ (by omega)) _) rfl ?_
    rw [(ow u hu).2.1]
    refine Ex_ishr 35 dX1_settleWhoKnow_34 rfl ?_
    refine Ex_iconst 36 (v := 1) dX1_settleWhoKnow_35 (by decide) rfl ?_
    refine Ex_iand 37 dX1_settleWhoKnow_36 rfl ?_
    refine Ex_iconst 38 (v := 1) dX1_settleWhoKnow_37 (by decide) rfl ?_
    refine Ex_icmp_ne 41 65 dX1_settleWhoKnow_38 (by decide) rfl (fun c2 => ?_) (fun c2 => ?_)
    · refine Ex_aload_n 66 (i := 0) dX1_settleWhoKnow_65 rfl rfl rfl ?_
      refine Ex_getR 69 dX1_settleWhoKnow_66 fX1_18 hh.1 rfl hh.2.2.2.2.2.2.2.1 rfl ?_
      refine Ex_iload_n 70 (i := 2) dX1_settleWhoKnow_69 rfl rfl rfl ?_
      refine Ex_iload 72 dX1_settleWhoKnow_70 rfl rfl ?_
      refine Ex_sI 73 ((((hmLine H).take i).filter (fun w => !hmHelped O (hmHas H) w)).length) r3 (va_up J (a + 3) (va_up r3 ((((hmLine H).take i).filter (fun w => !hmHelped O (hmHas H) w)).length) (nI u))) dX1_settleWhoKnow_72 hh.2.2.2.1 rfl (by omega) (by decide) hJ3 rfl rfl ?_
      refine Ex_iinc 76 (v := (nI ((((hmLine H).take i).filter (fun w => !hmHelped O (hmHas H) w)).length + 1))) (ls' := [some (.ref a), some (.ref dk), some (.int (nI ((((hmLine H).take i).filter (fun w => !hmHelped O (hmHas H) w)).length + 1))), some (.int (nI i)), some (.int (nI u))]) dX1_settleWhoKnow_73 rfl (xinc _) (Nat.le_of_ble_eq_true rfl) rfl rfl rfl ?_
      refine Ex_iinc 79 (v := (nI (i + 1))) (ls' := [some (.ref a), some (.ref dk), some (.int (nI ((((hmLine H).take i).filter (fun w => !hmHelped O (hmHas H) w)).length + 1))), some (.int (nI (i + 1))), some (.int (nI u))]) dX1_settleWhoKnow_76 rfl (xinc _) (Nat.le_of_ble_eq_true rfl) rfl rfl rfl ?_
      refine Ex_goto 4 dX1_settleWhoKnow_79 (by decide) ?_
      refine Ex_fgt (ls' := [some (.ref a), some (.ref dk), some (.int (nI ((((hmLine H).take i).filter (fun w => !hmHelped O (hmHas H) w)).length + 1))), some (.int (nI (i + 1))), none]) (by simp [xsub]) ?_
      have hp : hmHelped O (hmHas H) u = false := by
        cases hb : hmHelped O (hmHas H) u with
        | false => rfl
        | true => exact absurd (hmBit_1.mp hb) c2
      have e1 : ((hmLine H).take (i + 1)).filter (fun w => !hmHelped O (hmHas H) w) = (((hmLine H).take i).filter (fun w => !hmHelped O (hmHas H) w)) ++ [u] := by rw [ht1, List.filter_append]; simp [hp]
      have e2 : ((hmLine H).take (i + 1)).filter (hmHelped O (hmHas H)) = ((hmLine H).take i).filter (hmHelped O (hmHas H)) := by rw [ht1, List.filter_append]; simp [hp]
      have e3 : nI (((((hmLine H).take i).filter (fun w => !hmHelped O (hmHas H) w))).length + 1) = nI (((hmLine H).take (i + 1)).filter (fun w => !hmHelped O (hmHas H) w)).length := by rw [e1]; simp
      rw [e3]
      refine ih (i + 1) _ _ _ _ (by omega) ((va_up_ne _ _ (by omega)).trans hJ0) ((va_up_ne _ _ (by omega)).trans hJ1) ((va_up_ne _ _ (by omega)).trans hJ2) (va_up_self _ _ _) ((va_up_ne _ _ (by omega)).trans hJ4) (fun x hx => by rw [va_up_ne _ _ (by omega)]; exact hFr x hx) g0 (by rw [e2]; exact g1) g2 g3 (fun w hw => ?_) (fun j hj => ?_) (fun j hj1 hj2 => ?_)
      · rw [g4 w hw, ht1]
        by_cases hwu : w = u
        · subst hwu
          simp [hp]
        · simp [hwu]
      · rw [e1] at hj ⊢
        by_cases hjk : j = ((((hmLine H).take i).filter (fun w => !hmHelped O (hmHas H) w))).length
        · subst hjk
          rw [va_up_self]
          simp
        · have hj2 : j < ((((hmLine H).take i).filter (fun w => !hmHelped O (hmHas H) w))).length := by simp at hj; omega
          rw [va_up_ne _ _ hjk, g5 j hj2]
          simp [List.getElem?_append_left hj2]
      · rw [va_up_ne _ _ (by omega)]
        exact g6 j (by omega) hj2
    · refine Ex_aload_n 42 (i := 0) dX1_settleWhoKnow_41 rfl rfl rfl ?_
      refine Ex_dup 43 dX1_settleWhoKnow_42 rfl rfl ?_
      refine Ex_gI 46 (r0 5) dX1_settleWhoKnow_43 fX1_36 hh.1 rfl (congrFun hJ0 _) rfl ?_
      refine Ex_iconst 47 (v := 1) dX1_settleWhoKnow_46 (by decide) rfl ?_
      refine Ex_iload 49 dX1_settleWhoKnow_47 rfl rfl ?_
      refine Ex_ishl 50 dX1_settleWhoKnow_49 rfl ?_
      refine Ex_ior 51 dX1_settleWhoKnow_50 rfl ?_
      refine Ex_pI 54 r0 (va_up J a (va_up r0 5 ((r0 5) ||| (1 <<< ((nI u) &&& 31))))) dX1_settleWhoKnow_51 fX1_36 rfl hh.1 rfl (fun _ => rfl) hJ0 rfl rfl rfl ?_
      refine Ex_aload_n 55 (i := 0) dX1_settleWhoKnow_54 rfl rfl rfl ?_
      refine Ex_getR 58 dX1_settleWhoKnow_55 fX1_15 hh.1 rfl hh.2.2.2.2.2.2.1 rfl ?_
      refine Ex_iload 60 dX1_settleWhoKnow_58 rfl rfl ?_
      refine Ex_iconst 61 (v := 0) dX1_settleWhoKnow_60 (by decide) rfl ?_
      refine Ex_sI 62 u r2 (va_up (va_up J a (va_up r0 5 ((r0 5) ||| (1 <<< ((nI u) &&& 31))))) (a + 2) (va_up r2 u 0)) dX1_settleWhoKnow_61 hh.2.2.1 rfl (by omega) (by decide) ((va_up_ne _ _ (by omega)).trans hJ2) rfl rfl ?_
      refine Ex_goto 76 dX1_settleWhoKnow_62 (by decide) ?_
      refine Ex_iinc 79 (v := (nI (i + 1))) (ls' := [some (.ref a), some (.ref dk), some (.int (nI (((hmLine H).take i).filter (fun w => !hmHelped O (hmHas H) w)).length)), some (.int (nI (i + 1))), some (.int (nI u))]) dX1_settleWhoKnow_76 rfl (xinc _) (Nat.le_of_ble_eq_true rfl) rfl rfl rfl ?_
      refine Ex_goto 4 dX1_settleWhoKnow_79 (by decide) ?_
      refine Ex_fgt (ls' := [some (.ref a), some (.ref dk), some (.int (nI (((hmLine H).take i).filter (fun w => !hmHelped O (hmHas H) w)).length)), some (.int (nI (i + 1))), none]) (by simp [xsub]) ?_
      have hp : hmHelped O (hmHas H) u = true := hmBit_1.mpr c2
      have e1 : ((hmLine H).take (i + 1)).filter (fun w => !hmHelped O (hmHas H) w) = (((hmLine H).take i).filter (fun w => !hmHelped O (hmHas H) w)) := by rw [ht1, List.filter_append]; simp [hp]
      have e2 : ((hmLine H).take (i + 1)).filter (hmHelped O (hmHas H)) = ((hmLine H).take i).filter (hmHelped O (hmHas H)) ++ [u] := by rw [ht1, List.filter_append]; simp [hp]
      have e3 : nI ((((hmLine H).take i).filter (fun w => !hmHelped O (hmHas H) w))).length = nI (((hmLine H).take (i + 1)).filter (fun w => !hmHelped O (hmHas H) w)).length := by rw [e1]
      rw [e3]
      refine ih (i + 1) _ _ _ _ (by omega) ((va_up_ne _ _ (by omega)).trans (va_up_self _ _ _)) ((va_up_ne _ _ (by omega)).trans ((va_up_ne _ _ (by omega)).trans hJ1)) (va_up_self _ _ _) ((va_up_ne _ _ (by omega)).trans ((va_up_ne _ _ (by omega)).trans hJ3)) ((va_up_ne _ _ (by omega)).trans ((va_up_ne _ _ (by omega)).trans hJ4)) (fun x hx => by rw [va_up_ne _ _ (by omega), va_up_ne _ _ (by omega)]; exact hFr x hx) g0 ?_ g2 g3 (fun w hw => ?_) (fun j hj => ?_) (fun j hj1 hj2 => g6 j (by omega) hj2)
      · rw [e2, List.foldl_append]
        show r0 5 ||| _ = _
        rw [g1]
        rfl
      · rw [ht1]
        by_cases hwu : w = u
        · subst hwu
          rw [va_up_self]
          simp [hp]
          rfl
        · rw [va_up_ne _ _ hwu, g4 w hw]
          simp [hwu]
      · rw [e1] at hj ⊢
        exact g5 j hj
set_option maxHeartbeats 4000000 in
theorem c_settleWhoKnow {d : Nat} {sh : xSh} {R : xR} {L : xL} {I : xI} {Q : xQ} {a dk : Nat} {H : hmH} {O : hmO} (hh : xHall sh R a) (hdk : xDesk sh R dk) (hdis : dk + 9 ≤ a ∨ a + 5 ≤ dk) (hH : hmR I a H) (hO : hmD I dk O) (ho : hmOok O) (hok : hmOk O H) (hQ : ∀ I', (∀ x, ¬ (a ≤ x ∧ x < a + 5) → I' x = I x) → hmR I' a (hmSettle O H) → Q none 0 sh R L I') : Ex d 0 0 MX1_settleWhoKnow 0 sh R L I 0 [some (.ref a), some (.ref dk), none, none, none] [] Q := by
  obtain ⟨h6, hlen, hset, htak, hmin, hline, hhas, hheld, htalk⟩ := id hH
  refine Ex_iconst 1 (v := 0) dX1_settleWhoKnow_0 (by decide) rfl ?_
  refine Ex_istore_n 2 (i := 2) (ls' := [some (.ref a), some (.ref dk), some (.int 0), none, none]) dX1_settleWhoKnow_1 rfl (Nat.le_of_ble_eq_true rfl) rfl rfl rfl ?_
  refine Ex_iconst 3 (v := 0) dX1_settleWhoKnow_2 (by decide) rfl ?_
  refine Ex_istore_n 4 (i := 3) (ls' := [some (.ref a), some (.ref dk), some (.int 0), some (.int 0), none]) dX1_settleWhoKnow_3 rfl (Nat.le_of_ble_eq_true rfl) rfl rfl rfl ?_
  exact c_settle_loop hh hdk hdis hH hO ho hok hQ (hmLine H).length 0 I _ _ _ (by omega) rfl rfl rfl rfl rfl (fun _ _ => rfl) hlen hset htak hmin (fun w hw => by simpa using hheld w hw) (fun j hj => absurd hj (by simp)) (fun j _ hj => hline j hj)
set_option maxHeartbeats 4000000 in
theorem c_hold_loop {d : Nat} {sh : xSh} {R : xR} {L : xL} {I : xI} {Q : xQ} {a dk : Nat} {H : hmH} {O : hmO} (hh : xHall sh R a) (hdk : xDesk sh R dk) (hdis : dk + 9 ≤ a ∨ a + 5 ≤ dk) (hH : hmR I a H) (hO : hmD I dk O) (ho : hmOok O) (hok : hmOk O H) (hQ : ∀ I', (∀ x, ¬ (a ≤ x ∧ x < a + 5) → I' x = I x) → hmR I' a (hmHold O H) → Q none 0 sh R L I') : ∀ (n i : Nat) (J : xI) (r0 r2 r3 : Nat → Int32), n + i = (hmLine H).length → J a = r0 → J (a + 1) = I (a + 1) → J (a + 2) = r2 → J (a + 3) = r3 → J (a + 4) = I (a + 4) → (∀ x, ¬ (a ≤ x ∧ x < a + 5) → J x = I x) → r0 4 = nI (hmLine H).length → r0 5 = hmSet H → r0 6 = hmTak H → r0 7 = nI (hmMin H) → (∀ w, w < 6 → r2 w = nI (if w ∈ (hmLine H).take i then (if hmStays O (hmHeld H) w = true then hmHeld H w + 1 else 0) else hmHeld H w)) → (∀ j, j < (((hmLine H).take i).filter (hmStays O (hmHeld H))).length → r3 j = nI ((((hmLine H).take i).filter (hmStays O (hmHeld H))).getD j 0)) → (∀ j, i ≤ j → j < (hmLine H).length → r3 j = nI ((hmLine H).getD j 0)) → Ex d 0 0 MX1_holdLonger 0 sh R L J 4 [some (.ref a), some (.ref dk), some (.int (nI (((hmLine H).take i).filter (hmStays O (hmHeld H))).length)), some (.int (nI i)), none] [] Q := by
  obtain ⟨h6, hlen, hset, htak, hmin, hline, hhas, hheld, htalk⟩ := id hH
  obtain ⟨on, otk, ow, olen, olaw⟩ := id hO
  obtain ⟨o6, ot1, ot2, oo, oll, owf⟩ := id ho
  obtain ⟨hnd, hlN, hs10, hs6, ht6, hhh, hhz, hnb, hsym⟩ := id hok
  intro n
  induction n with
  | zero =>
    intro i J r0 r2 r3 hn hJ0 hJ1 hJ2 hJ3 hJ4 hFr g0 g1 g2 g3 g4 g5 g6
    have hi : (hmLine H).length ≤ i := by omega
    rw [List.take_of_length_le hi] at g4 g5
    refine Ex_iload_n 5 (i := 3) dX1_holdLonger_4 rfl rfl rfl ?_
    refine Ex_aload_n 6 (i := 0) dX1_holdLonger_5 rfl rfl rfl ?_
    refine Ex_gI 9 (r0 4) dX1_holdLonger_6 fX1_33 hh.1 rfl (congrFun hJ0 _) rfl ?_
    rw [g0]
    refine Ex_icmp_ge 12 76 dX1_holdLonger_9 (by decide) rfl (fun c1 => ?_) (fun c1 => absurd c1 (fun q => q (nI_le (by omega) (by omega))))
    rw [List.take_of_length_le hi]
    refine Ex_aload_n 77 (i := 0) dX1_holdLonger_76 rfl rfl rfl ?_
    refine Ex_iload_n 78 (i := 2) dX1_holdLonger_77 rfl rfl rfl ?_
    refine Ex_pI 81 r0 (va_up J a (va_up r0 4 (nI ((hmLine H).filter (hmStays O (hmHeld H))).length))) dX1_holdLonger_78 fX1_33 rfl hh.1 rfl (fun _ => rfl) hJ0 rfl rfl rfl ?_
    refine Ex_ret0 dX1_holdLonger_81 rfl (Or.inl rfl) ?_
    refine hQ _ (fun x hx => by rw [va_up_ne _ _ (by omega)]; exact hFr x hx) (hmR_mk (va_up_self _ _ _) ((va_up_ne _ _ (by omega)).trans hJ1) ((va_up_ne _ _ (by omega)).trans hJ2) ((va_up_ne _ _ (by omega)).trans hJ3) ((va_up_ne _ _ (by omega)).trans hJ4) ?_)
    have hkl : ((hmLine H).filter (hmStays O (hmHeld H))).length ≤ (hmLine H).length := List.length_filter_le _ _
    refine ⟨?_, rfl, g1, g2, g3, g5, hhas, g4, htalk⟩
    show ((hmLine H).filter (hmStays O (hmHeld H))).length ≤ 6
    omega
  | succ n ih =>
    intro i J r0 r2 r3 hn hJ0 hJ1 hJ2 hJ3 hJ4 hFr g0 g1 g2 g3 g4 g5 g6
    have hi : i < (hmLine H).length := by omega
    have hkl : (((hmLine H).take i).filter (hmStays O (hmHeld H))).length ≤ i := Nat.le_trans (List.length_filter_le _ _) (by rw [List.length_take]; omega)
    obtain ⟨u, hue⟩ : ∃ u, (hmLine H).getD i 0 = u := ⟨_, rfl⟩
    have hum : u ∈ hmLine H := by rw [← hue]; exact hm_getD_mem hi
    have hu : u < hmN O := hlN _ hum
    have hl1 : r3 i = nI u := by rw [g6 i (Nat.le_refl _) hi, hue]
    have ht1 : (hmLine H).take (i + 1) = (hmLine H).take i ++ [u] := by rw [hm_take1 hi, hue]
    have hnu : u ∉ (hmLine H).take i := by rw [← hue]; exact hm_notin hnd hi
    have hr2 : r2 u = nI (hmHeld H u) := by rw [g4 u (by omega), if_neg hnu]
    have hhu := hhh u hum
    have hho := (oo u hu).2.2.2.2
    refine Ex_iload_n 5 (i := 3) dX1_holdLonger_4 rfl rfl rfl ?_
    refine Ex_aload_n 6 (i := 0) dX1_holdLonger_5 rfl rfl rfl ?_
    refine Ex_gI 9 (r0 4) dX1_holdLonger_6 fX1_33 hh.1 rfl (congrFun hJ0 _) rfl ?_
    rw [g0]
    refine Ex_icmp_ge 12 76 dX1_holdLonger_9 (by decide) rfl (fun c1 => absurd c1 (nI_ge (by omega) (by omega))) (fun c1 => ?_)
    refine Ex_aload_n 13 (i := 0) dX1_holdLonger_12 rfl rfl rfl ?_
    refine Ex_getR 16 dX1_holdLonger_13 fX1_18 hh.1 rfl hh.2.2.2.2.2.2.2.1 rfl ?_
    refine Ex_iload_n 17 (i := 3) dX1_holdLonger_16 rfl rfl rfl ?_
    refine Ex_aI 18 i (r3 i) dX1_holdLonger_17 hh.2.2.2.1 rfl (by omega) (by decide) (congrFun hJ3 _) rfl ?_
    rw [hl1]
    refine Ex_istore 20 (ls' := [some (.ref a), some (.ref dk), some (.int (nI (((hmLine H).take i).filter (hmStays O (hmHeld H))).length)), some (.int (nI i)), some (.int (nI u))]) dX1_holdLonger_18 (Nat.le_of_ble_eq_true rfl) rfl rfl rfl ?_
    refine Ex_aload_n 21 (i := 0) dX1_holdLonger_20 rfl rfl rfl ?_
    refine Ex_getR 24 dX1_holdLonger_21 fX1_15 hh.1 rfl hh.2.2.2.2.2.2.1 rfl ?_
    refine Ex_iload 26 dX1_holdLonger_24 rfl rfl ?_
    refine Ex_dup2 27 dX1_holdLonger_26 rfl rfl rfl ?_
    refine Ex_aI 28 u (r2 u) dX1_holdLonger_27 hh.2.2.1 rfl (by omega) (by decide) (congrFun hJ2 _) rfl ?_
    rw [hr2]
    refine Ex_iconst 29 (v := 1) dX1_holdLonger_28 (by decide) rfl ?_
    refine Ex_iadd 30 dX1_holdLonger_29 rfl ?_
    rw [nI_1]
    refine Ex_sI 31 u r2 (va_up J (a + 2) (va_up r2 u (nI (hmHeld H u + 1)))) dX1_holdLonger_30 hh.2.2.1 rfl (by omega) (by decide) hJ2 rfl rfl ?_
    refine Ex_aload_n 32 (i := 0) dX1_holdLonger_31 rfl rfl rfl ?_
    refine Ex_getR 35 dX1_holdLonger_32 fX1_15 hh.1 rfl hh.2.2.2.2.2.2.1 rfl ?_
    refine Ex_iload 37 dX1_holdLonger_35 rfl rfl ?_
    refine Ex_aI 38 u ((va_up r2 u (nI (hmHeld H u + 1))) u) dX1_holdLonger_37 hh.2.2.1 rfl (by omega) (by decide) (congrFun (va_up_self _ _ _) _) rfl ?_
    rw [va_up_self]
    refine Ex_aload_n 39 (i := 1) dX1_holdLonger_38 rfl rfl rfl ?_
    refine Ex_getR 42 dX1_holdLonger_39 fX1_105 hdk.1 rfl hdk.2.2.2.2.2.2.2.2.2.2.2.2.2.1 rfl ?_
    refine Ex_iload 44 dX1_holdLonger_42 rfl rfl ?_
    refine Ex_aI 45 u (I (dk + 5) u) dX1_holdLonger_44 hdk.2.2.2.2.2.1 rfl (by omega) (by decide) (congrFun ((va_up_ne _ _ (by omega)).trans (hFr _ (by omega))) _) rfl ?_
    rw [(ow u hu).2.2.2]
    refine Ex_icmp_lt 48 59 dX1_holdLonger_45 (by decide) rfl (fun c2 => ?_) (fun c2 => ?_)
    · refine Ex_aload_n 60 (i := 0) dX1_holdLonger_59 rfl rfl rfl ?_
      refine Ex_getR 63 dX1_holdLonger_60 fX1_18 hh.1 rfl hh.2.2.2.2.2.2.2.1 rfl ?_
      refine Ex_iload_n 64 (i := 2) dX1_holdLonger_63 rfl rfl rfl ?_
      refine Ex_iload 66 dX1_holdLonger_64 rfl rfl ?_
      refine Ex_sI 67 ((((hmLine H).take i).filter (hmStays O (hmHeld H))).length) r3 (va_up (va_up J (a + 2) (va_up r2 u (nI (hmHeld H u + 1)))) (a + 3) (va_up r3 ((((hmLine H).take i).filter (hmStays O (hmHeld H))).length) (nI u))) dX1_holdLonger_66 hh.2.2.2.1 rfl (by omega) (by decide) ((va_up_ne _ _ (by omega)).trans hJ3) rfl rfl ?_
      refine Ex_iinc 70 (v := (nI ((((hmLine H).take i).filter (hmStays O (hmHeld H))).length + 1))) (ls' := [some (.ref a), some (.ref dk), some (.int (nI ((((hmLine H).take i).filter (hmStays O (hmHeld H))).length + 1))), some (.int (nI i)), some (.int (nI u))]) dX1_holdLonger_67 rfl (xinc _) (Nat.le_of_ble_eq_true rfl) rfl rfl rfl ?_
      refine Ex_iinc 73 (v := (nI (i + 1))) (ls' := [some (.ref a), some (.ref dk), some (.int (nI ((((hmLine H).take i).filter (hmStays O (hmHeld H))).length + 1))), some (.int (nI (i + 1))), some (.int (nI u))]) dX1_holdLonger_70 rfl (xinc _) (Nat.le_of_ble_eq_true rfl) rfl rfl rfl ?_
      refine Ex_goto 4 dX1_holdLonger_73 (by decide) ?_
      refine Ex_fgt (ls' := [some (.ref a), some (.ref dk), some (.int (nI ((((hmLine H).take i).filter (hmStays O (hmHeld H))).length + 1))), some (.int (nI (i + 1))), none]) (by simp [xsub]) ?_
      have hp : hmStays O (hmHeld H) u = true := by
        have h1 := (nI_ltI (by omega) (by omega)).mp c2
        simpa [hmStays] using h1
      have e1 : ((hmLine H).take (i + 1)).filter (hmStays O (hmHeld H)) = (((hmLine H).take i).filter (hmStays O (hmHeld H))) ++ [u] := by rw [ht1, List.filter_append]; simp [hp]
      have e3 : nI (((((hmLine H).take i).filter (hmStays O (hmHeld H)))).length + 1) = nI (((hmLine H).take (i + 1)).filter (hmStays O (hmHeld H))).length := by rw [e1]; simp
      rw [e3]
      refine ih (i + 1) _ _ _ _ (by omega) ((va_up_ne _ _ (by omega)).trans ((va_up_ne _ _ (by omega)).trans hJ0)) ((va_up_ne _ _ (by omega)).trans ((va_up_ne _ _ (by omega)).trans hJ1)) ((va_up_ne _ _ (by omega)).trans (va_up_self _ _ _)) (va_up_self _ _ _) ((va_up_ne _ _ (by omega)).trans ((va_up_ne _ _ (by omega)).trans hJ4)) (fun x hx => by rw [va_up_ne _ _ (by omega), va_up_ne _ _ (by omega)]; exact hFr x hx) g0 g1 g2 g3 (fun w hw => ?_) (fun j hj => ?_) (fun j hj1 hj2 => ?_)
      · rw [ht1]
        by_cases hwu : w = u
        · subst hwu
          rw [va_up_self]
          simp [hp]
        · rw [va_up_ne _ _ hwu, g4 w hw]
          simp [hwu]
      · rw [e1] at hj ⊢
        by_cases hjk : j = ((((hmLine H).take i).filter (hmStays O (hmHeld H)))).length
        · subst hjk
          rw [va_up_self]
          simp
        · have hj2 : j < ((((hmLine H).take i).filter (hmStays O (hmHeld H)))).length := by simp at hj; omega
          rw [va_up_ne _ _ hjk, g5 j hj2]
          simp [List.getElem?_append_left hj2]
      · rw [va_up_ne _ _ (by omega)]
        exact g6 j (by omega) hj2
    · refine Ex_aload_n 49 (i := 0) dX1_holdLonger_48 rfl rfl rfl ?_
      refine Ex_getR 52 dX1_holdLonger_49 fX1_15 hh.1 rfl hh.2.2.2.2.2.2.1 rfl ?_
      refine Ex_iload 54 dX1_holdLonger_52 rfl rfl ?_
      refine Ex_iconst 55 (v := 0) dX1_holdLonger_54 (by decide) rfl ?_
      refine Ex_sI 56 u (va_up r2 u (nI (hmHeld H u + 1))) (va_up J (a + 2) (va_up (va_up r2 u (nI (hmHeld H u + 1))) u 0)) dX1_holdLonger_55 hh.2.2.1 rfl (by omega) (by decide) (va_up_self _ _ _) (va_up_up _ _ _ _) rfl ?_
      refine Ex_goto 70 dX1_holdLonger_56 (by decide) ?_
      refine Ex_iinc 73 (v := (nI (i + 1))) (ls' := [some (.ref a), some (.ref dk), some (.int (nI (((hmLine H).take i).filter (hmStays O (hmHeld H))).length)), some (.int (nI (i + 1))), some (.int (nI u))]) dX1_holdLonger_70 rfl (xinc _) (Nat.le_of_ble_eq_true rfl) rfl rfl rfl ?_
      refine Ex_goto 4 dX1_holdLonger_73 (by decide) ?_
      refine Ex_fgt (ls' := [some (.ref a), some (.ref dk), some (.int (nI (((hmLine H).take i).filter (hmStays O (hmHeld H))).length)), some (.int (nI (i + 1))), none]) (by simp [xsub]) ?_
      have hp : hmStays O (hmHeld H) u = false := by
        cases hb : hmStays O (hmHeld H) u with
        | false => rfl
        | true =>
          have h1 : hmHeld H u + 1 < hmHo O u := by simpa [hmStays] using hb
          exact absurd (nI_lt h1 (by omega)) c2
      have e1 : ((hmLine H).take (i + 1)).filter (hmStays O (hmHeld H)) = (((hmLine H).take i).filter (hmStays O (hmHeld H))) := by rw [ht1, List.filter_append]; simp [hp]
      have e3 : nI ((((hmLine H).take i).filter (hmStays O (hmHeld H)))).length = nI (((hmLine H).take (i + 1)).filter (hmStays O (hmHeld H))).length := by rw [e1]
      rw [e3]
      refine ih (i + 1) _ _ _ _ (by omega) ((va_up_ne _ _ (by omega)).trans hJ0) ((va_up_ne _ _ (by omega)).trans hJ1) (va_up_self _ _ _) ((va_up_ne _ _ (by omega)).trans hJ3) ((va_up_ne _ _ (by omega)).trans hJ4) (fun x hx => by rw [va_up_ne _ _ (by omega)]; exact hFr x hx) g0 g1 g2 g3 (fun w hw => ?_) (fun j hj => ?_) (fun j hj1 hj2 => g6 j (by omega) hj2)
      · rw [ht1]
        by_cases hwu : w = u
        · subst hwu
          rw [va_up_self]
          simp [hp]
          rfl
        · rw [va_up_ne _ _ hwu, va_up_ne _ _ hwu, g4 w hw]
          simp [hwu]
      · rw [e1] at hj ⊢
        exact g5 j hj
set_option maxHeartbeats 4000000 in
theorem c_holdLonger {d : Nat} {sh : xSh} {R : xR} {L : xL} {I : xI} {Q : xQ} {a dk : Nat} {H : hmH} {O : hmO} (hh : xHall sh R a) (hdk : xDesk sh R dk) (hdis : dk + 9 ≤ a ∨ a + 5 ≤ dk) (hH : hmR I a H) (hO : hmD I dk O) (ho : hmOok O) (hok : hmOk O H) (hQ : ∀ I', (∀ x, ¬ (a ≤ x ∧ x < a + 5) → I' x = I x) → hmR I' a (hmHold O H) → Q none 0 sh R L I') : Ex d 0 0 MX1_holdLonger 0 sh R L I 0 [some (.ref a), some (.ref dk), none, none, none] [] Q := by
  obtain ⟨h6, hlen, hset, htak, hmin, hline, hhas, hheld, htalk⟩ := id hH
  refine Ex_iconst 1 (v := 0) dX1_holdLonger_0 (by decide) rfl ?_
  refine Ex_istore_n 2 (i := 2) (ls' := [some (.ref a), some (.ref dk), some (.int 0), none, none]) dX1_holdLonger_1 rfl (Nat.le_of_ble_eq_true rfl) rfl rfl rfl ?_
  refine Ex_iconst 3 (v := 0) dX1_holdLonger_2 (by decide) rfl ?_
  refine Ex_istore_n 4 (i := 3) (ls' := [some (.ref a), some (.ref dk), some (.int 0), some (.int 0), none]) dX1_holdLonger_3 rfl (Nat.le_of_ble_eq_true rfl) rfl rfl rfl ?_
  exact c_hold_loop hh hdk hdis hH hO ho hok hQ (hmLine H).length 0 I _ _ _ (by omega) rfl rfl rfl rfl rfl (fun _ _ => rfl) hlen hset htak hmin (fun w hw => by simpa using hheld w hw) (fun j hj => absurd hj (by simp)) (fun j _ hj => hline j hj)
set_option maxHeartbeats 4000000 in
theorem c_takeUp {d : Nat} {sh : xSh} {R : xR} {L : xL} {I : xI} {Q : xQ} {w : Nat} {a dk : Nat} {H : hmH} {O : hmO} (hh : xHall sh R a) (hdk : xDesk sh R dk) (hdis : dk + 9 ≤ a ∨ a + 5 ≤ dk) (hH : hmR I a H) (hO : hmD I dk O) (ho : hmOok O) (hok : hmOk O H) (hw : w ∈ hmLine H) (hQ : ∀ I', (∀ x, ¬ (a ≤ x ∧ x < a + 5) → I' x = I x) → hmR I' a (hmTake O H w) → Q none 0 sh R L I') : Ex (d + 2) 0 0 MX1_takeUp 0 sh R L I 0 [some (.ref a), some (.ref dk), some (.int (nI w))] [] Q := by
  obtain ⟨h6, hlen, hset, htak, hmin, hline, hhas, hheld, htalk⟩ := id hH
  obtain ⟨on, otk, ow, olen, olaw⟩ := id hO
  obtain ⟨o6, ot1, ot2, oo, oll, owf⟩ := id ho
  obtain ⟨hnd, hlN, hs10, hs6, ht6, hhh, hhz, hnb, hsym⟩ := id hok
  have hwN := hlN w hw
  refine Ex_aload_n 1 (i := 0) dX1_takeUp_0 rfl rfl rfl ?_
  refine Ex_getR 4 dX1_takeUp_1 fX1_9 hh.1 rfl hh.2.2.2.2.2.1 rfl ?_
  refine Ex_iload_n 5 (i := 2) dX1_takeUp_4 rfl rfl rfl ?_
  refine Ex_dup2 6 dX1_takeUp_5 rfl rfl rfl ?_
  refine Ex_aI 7 w (I (a + 1) w) dX1_takeUp_6 hh.2.1 rfl (by omega) (by decide) rfl rfl ?_
  rw [hhas w (by omega)]
  refine Ex_iconst 8 (v := 1) dX1_takeUp_7 (by decide) rfl ?_
  refine Ex_aload_n 9 (i := 1) dX1_takeUp_8 rfl rfl rfl ?_
  refine Ex_getR 12 dX1_takeUp_9 fX1_92 hdk.1 rfl hdk.2.2.2.2.2.2.2.2.2.2.2.1 rfl ?_
  refine Ex_iload_n 13 (i := 2) dX1_takeUp_12 rfl rfl rfl ?_
  refine Ex_aI 14 w (I (dk + 3) w) dX1_takeUp_13 hdk.2.2.2.1 rfl (by omega) (by decide) rfl rfl ?_
  rw [(ow w hwN).2.1]
  refine Ex_ishl 15 dX1_takeUp_14 rfl ?_
  refine Ex_ior 16 dX1_takeUp_15 rfl ?_
  refine Ex_sI 17 w (I (a + 1)) (va_up I (a + 1) (va_up (I (a + 1)) w ((hmHas H w) ||| (1 <<< ((nI (hmTr O w)) &&& 31))))) dX1_takeUp_16 hh.2.1 rfl (by omega) (by decide) rfl rfl rfl ?_
  refine Ex_aload_n 18 (i := 0) dX1_takeUp_17 rfl rfl rfl ?_
  refine Ex_dup 19 dX1_takeUp_18 rfl rfl ?_
  refine Ex_gI 22 (I a 5) dX1_takeUp_19 fX1_36 hh.1 rfl (congrFun (va_up_ne _ _ (by omega)) _) rfl ?_
  refine Ex_iconst 23 (v := 1) dX1_takeUp_22 (by decide) rfl ?_
  refine Ex_iload_n 24 (i := 2) dX1_takeUp_23 rfl rfl rfl ?_
  refine Ex_ishl 25 dX1_takeUp_24 rfl ?_
  refine Ex_ior 26 dX1_takeUp_25 rfl ?_
  refine Ex_pI 29 (I a) (va_up (va_up I (a + 1) (va_up (I (a + 1)) w ((hmHas H w) ||| (1 <<< ((nI (hmTr O w)) &&& 31))))) a (va_up (I a) 5 ((I a 5) ||| (1 <<< ((nI w) &&& 31))))) dX1_takeUp_26 fX1_36 rfl hh.1 rfl (fun _ => rfl) (va_up_ne _ _ (by omega)) rfl rfl rfl ?_
  refine Ex_aload_n 30 (i := 0) dX1_takeUp_29 rfl rfl rfl ?_
  refine Ex_dup 31 dX1_takeUp_30 rfl rfl ?_
  refine Ex_gI 34 (I a 6) dX1_takeUp_31 fX1_39 hh.1 rfl (congrFun (va_up_self _ _ _) _) rfl ?_
  refine Ex_iconst 35 (v := 1) dX1_takeUp_34 (by decide) rfl ?_
  refine Ex_iload_n 36 (i := 2) dX1_takeUp_35 rfl rfl rfl ?_
  refine Ex_ishl 37 dX1_takeUp_36 rfl ?_
  refine Ex_ior 38 dX1_takeUp_37 rfl ?_
  refine Ex_pI 41 (va_up (I a) 5 ((I a 5) ||| (1 <<< ((nI w) &&& 31)))) (va_up (va_up I (a + 1) (va_up (I (a + 1)) w ((hmHas H w) ||| (1 <<< ((nI (hmTr O w)) &&& 31))))) a (va_up (va_up (I a) 5 ((I a 5) ||| (1 <<< ((nI w) &&& 31)))) 6 ((I a 6) ||| (1 <<< ((nI w) &&& 31))))) dX1_takeUp_38 fX1_39 rfl hh.1 rfl (fun _ => rfl) (va_up_self _ _ _) rfl (va_up_up _ _ _ _) rfl ?_
  refine Ex_aload_n 42 (i := 0) dX1_takeUp_41 rfl rfl rfl ?_
  refine Ex_iload_n 43 (i := 2) dX1_takeUp_42 rfl rfl rfl ?_
  refine Ex_callV (M' := MX1_leave) 46 [.int (nI w)] (rest := []) dX1_takeUp_43 lX1_108 mX1_leave rfl hh.1 rfl (Nat.le_of_ble_eq_true rfl) (Nat.le_of_ble_eq_true rfl) rfl ?_
  obtain ⟨J, hJ⟩ : ∃ J, J = (va_up (va_up I (a + 1) (va_up (I (a + 1)) w ((hmHas H w) ||| (1 <<< ((nI (hmTr O w)) &&& 31))))) a (va_up (va_up (I a) 5 ((I a 5) ||| (1 <<< ((nI w) &&& 31)))) 6 ((I a 6) ||| (1 <<< ((nI w) &&& 31))))) := ⟨_, rfl⟩
  rw [← hJ]
  have hH1 : hmR J a (hmLine H, va_up (hmHas H) w (hmHas H w ||| hmOne (hmTr O w)), hmHeld H, hmTalk H, hmSet H ||| hmOne w, hmTak H ||| hmOne w, hmMin H) := by
    rw [hJ]
    refine hmR_mk (va_up_self _ _ _) ((va_up_ne _ _ (by omega)).trans (va_up_self _ _ _)) ((va_up_ne _ _ (by omega)).trans (va_up_ne _ _ (by omega))) ((va_up_ne _ _ (by omega)).trans (va_up_ne _ _ (by omega))) ((va_up_ne _ _ (by omega)).trans (va_up_ne _ _ (by omega))) ?_
    refine ⟨h6, hlen, by show I a 5 ||| _ = _; rw [hset]; rfl, by show I a 6 ||| _ = _; rw [htak]; rfl, hmin, hline, fun x hx => ?_, hheld, htalk⟩
    show va_up (I (a + 1)) w _ x = va_up (hmHas H) w _ x
    by_cases e : x = w
    · subst e
      rw [va_up_self, va_up_self]
      rfl
    · rw [va_up_ne _ _ e, va_up_ne _ _ e]
      exact hhas x hx
  have hFJ : ∀ x, ¬ (a ≤ x ∧ x < a + 5) → J x = I x := fun x hx => by rw [hJ, va_up_ne _ _ (by omega), va_up_ne _ _ (by omega)]
  refine c_leave hh hH1 (by omega) (fun x hx => by have := hlN x hx; omega) (fun I' hF' hR' => ?_)
  simp only [Option.toList, List.nil_append]
  refine Ex_ret0 dX1_takeUp_46 rfl (Or.inl rfl) ?_
  refine hQ I' (fun x hx => (hF' x hx).trans (hFJ x hx)) ?_
  have e : hmLeave (hmLine H, va_up (hmHas H) w (hmHas H w ||| hmOne (hmTr O w)), hmHeld H, hmTalk H, hmSet H ||| hmOne w, hmTak H ||| hmOne w, hmMin H) w = hmTake O H w := by
    unfold hmLeave
    exact if_pos hw
  rw [e] at hR'
  exact hR'
