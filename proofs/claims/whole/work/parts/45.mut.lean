/-! changes by hand -/
theorem hm_rg0 (e : Nat) (he : e < 16) : hmRg ((e + 1) % 16) 0 = e := by
  unfold hmRg
  omega
theorem hm_rg1 (e j : Nat) (he : e < 16) (hj : j < 15) : hmRg ((e + 1) % 16) (j + 1) = hmRg e j := by
  unfold hmRg
  omega
theorem hm_rgne (e j : Nat) (he : e < 16) (hj : j < 15) : hmRg e j ≠ e := by
  unfold hmRg
  omega
theorem hm_rglt (e j : Nat) : hmRg e j < 16 := Nat.mod_lt _ (by omega)
theorem hm_rg2 (e j : Nat) (he : e < 16) (hj : j < 15) : hmRg ((e + 15) % 16) j = hmRg e (j + 1) := by
  unfold hmRg
  omega
theorem hm_rem16 : ∀ e, e < 16 → nI e + 1 - (nI e + 1) / 16 * 16 = nI ((e + 1) % 16) := by decide +kernel
theorem hm_min16 : ∀ k, k < 17 → (if 16 < nI k + 1 then 16 else nI k + 1) = nI (min (k + 1) 16) := by decide +kernel
theorem hm_und16 : ∀ e, e < 16 → nI e + 16 - 1 - (nI e + 16 - 1) / 16 * 16 = nI ((e + 15) % 16) := by decide +kernel
theorem hmPast.kept {I I' : xI} {h e : Nat} {P : List hmH} (hp : hmPast I h e P) (h0 : I' h 8 = I h 8 ∧ I' h 9 = I h 9) (hf : ∀ x, h + 49 ≤ x → x < h + 129 → I' x = I x) : hmPast I' h e P := by
  obtain ⟨p1, p2, p3, p4, p5⟩ := hp
  refine ⟨p1, p2, by rw [h0.1]; exact p3, by rw [h0.2]; exact p4, fun j H hj => (p5 j H hj).kept (fun x a b => hf x (by omega) ?_)⟩
  have := hm_rglt e j
  omega
/-- what keeping the past changes -/
def hmKf (h : Nat) (I I' : xI) : Prop := (∀ x, x ≠ h → x ≠ h + 42 → ¬ (h + 49 ≤ x ∧ x < h + 129) → I' x = I x) ∧ (∀ k, k ≠ 8 → k ≠ 9 → I' h k = I h k) ∧ I' (h + 42) 4 = 0
/-- what a change by hand changes -/
def hmKm (h dk : Nat) (I I' : xI) : Prop := (∀ x, x ≠ h → x ≠ h + 42 → ¬ (h + 49 ≤ x ∧ x < h + 129) → ¬ (h + 30 ≤ x ∧ x < h + 35) → x ≠ dk + 8 → I' x = I x) ∧ (∀ k, k ≠ 8 → k ≠ 9 → I' h k = I h k) ∧ I' (h + 42) 4 = 0
theorem hmKf.then {h dk : Nat} {I J K : xI} (h1 : hmKf h I J) (hd : (dk = h + 4 ∨ dk = h + 13)) (h2 : hmFd (h + 30) dk J K) : hmKm h dk I K := by
  refine ⟨fun x a b c e f => (h2 x (by omega) f).trans (h1.1 x a b c), fun k a b => ?_, ?_⟩
  · rw [h2 h (by omega) (by omega)]
    exact h1.2.1 k a b
  · rw [h2 (h + 42) (by omega) (by omega)]
    exact h1.2.2
theorem hmPast.thn {h dk e : Nat} {I J : xI} {P : List hmH} (hp : hmPast I h e P) (hd : (dk = h + 4 ∨ dk = h + 13)) (h2 : hmFd (h + 30) dk I J) : hmPast J h e P := hp.kept ⟨by rw [h2 h (by omega) (by omega)], by rw [h2 h (by omega) (by omega)]⟩ (fun x a b => h2 x (by omega) (by omega))
set_option maxHeartbeats 4000000 in
theorem c_keepPast {d : Nat} {sh : xSh} {R : xR} {L : xL} {I : xI} {Q : xQ} {h dk dd pl pd : Nat} {H : hmH} (hx : xHM sh R h dk dd pl pd) (hH : hmR I (h + 30) H) {e : Nat} {P : List hmH} (hP : hmPast I h e P) (hQ : ∀ I', hmKf h I I' → (hmPast I' h ((e + 1) % 16) ((H :: P).take 16)) → Q none 0 sh R L I') : Ex (d + 2) 0 0 MX8_keepPast 0 sh R L I 0 [some (.ref h)] [] Q := by
  obtain ⟨p1, p2, p3, p4, p5⟩ := id hP
  obtain ⟨pa, hpa⟩ : ∃ pa, pa = h + 49 + 5 * e := ⟨_, rfl⟩
  have hpH : xHall sh R pa := by rw [hpa]; exact (xH_25 hx e p2).2
  have hra : R (h + 40) e = some pa := by rw [hpa]; exact (xH_25 hx e p2).1
  refine Ex_aload_n 1 (i := 0) dX8_keepPast_0 rfl rfl rfl ?_
  refine Ex_getR 4 dX8_keepPast_1 fX8_46 (xH_0 hx) rfl (xH_8 hx) rfl ?_
  refine Ex_aload_n 5 (i := 0) dX8_keepPast_4 rfl rfl rfl ?_
  refine Ex_gI 8 (I h 9) dX8_keepPast_5 fX8_163 (xH_0 hx) rfl rfl rfl ?_
  rw [p4]
  refine Ex_aald 9 4 e dX8_keepPast_8 (xH_20 hx) (fun _ => rfl) rfl (by omega) (by decide) hra rfl ?_
  refine Ex_aload_n 10 (i := 0) dX8_keepPast_9 rfl rfl rfl ?_
  refine Ex_getR 13 dX8_keepPast_10 fX8_39 (xH_0 hx) rfl (xH_6 hx) rfl ?_
  refine Ex_callV (M' := MX1_copyFrom) 16 [.ref (h + 30)] (rest := []) dX8_keepPast_13 lX8_166 mX1_copyFrom rfl hpH.1 rfl (Nat.le_of_ble_eq_true rfl) (Nat.le_of_ble_eq_true rfl) rfl ?_
  refine c_copyFrom hpH (xH_18 hx) (by omega) hH (fun I0 hF0 hH0 => ?_)
  have f0 : ∀ x, ¬ (h + 49 ≤ x ∧ x < h + 129) → I0 x = I x := fun x a => hF0 x (fun q => a (by unfold hmIn at q; omega))
  simp only [Option.toList, List.nil_append, List.cons_append]
  refine Ex_aload_n 17 (i := 0) dX8_keepPast_16 rfl rfl rfl ?_
  refine Ex_aload_n 18 (i := 0) dX8_keepPast_17 rfl rfl rfl ?_
  refine Ex_gI 21 (I h 9) dX8_keepPast_18 fX8_163 (xH_0 hx) rfl (congrFun (f0 _ (by omega)) _) rfl ?_
  rw [p4]
  refine Ex_iconst 22 (v := 1) dX8_keepPast_21 (by decide) rfl ?_
  refine Ex_iadd 23 dX8_keepPast_22 rfl ?_
  refine Ex_bipush 25 (v := 16) dX8_keepPast_23 (by decide) rfl ?_
  refine Ex_irem 26 dX8_keepPast_25 (by decide) rfl ?_
  rw [hm_rem16 e p2]
  refine Ex_pI 29 (I h) (va_up I0 h (va_up (I h) 9 (nI ((e + 1) % 16)))) dX8_keepPast_26 fX8_163 rfl (xH_0 hx) rfl (fun _ => rfl) (f0 _ (by omega)) rfl rfl rfl ?_
  refine Ex_aload_n 30 (i := 0) dX8_keepPast_29 rfl rfl rfl ?_
  refine Ex_aload_n 31 (i := 0) dX8_keepPast_30 rfl rfl rfl ?_
  refine Ex_gI 34 (I h 8) dX8_keepPast_31 fX8_160 (xH_0 hx) rfl (congrFun (va_up_self _ _ _) _) rfl ?_
  rw [p3]
  refine Ex_iconst 35 (v := 1) dX8_keepPast_34 (by decide) rfl ?_
  refine Ex_iadd 36 dX8_keepPast_35 rfl ?_
  refine Ex_bipush 38 (v := 16) dX8_keepPast_36 (by decide) rfl ?_
  refine Ex_min 41 dX8_keepPast_38 lmX8_293 (Nat.le_of_ble_eq_true rfl) rfl ?_
  rw [hm_min16 P.length (by omega)]
  refine Ex_pI 44 (va_up (I h) 9 (nI ((e + 1) % 16))) (va_up I0 h (va_up (va_up (I h) 9 (nI ((e + 1) % 16))) 8 (nI (min (P.length + 1) 16)))) dX8_keepPast_41 fX8_160 rfl (xH_0 hx) rfl (fun _ => rfl) (va_up_self _ _ _) rfl (va_up_up _ _ _ _) rfl ?_
  refine Ex_aload_n 45 (i := 0) dX8_keepPast_44 rfl rfl rfl ?_
  refine Ex_getR 48 dX8_keepPast_45 fX8_59 (xH_0 hx) rfl (xH_10 hx) rfl ?_
  refine Ex_iconst 49 (v := 0) dX8_keepPast_48 (by decide) rfl ?_
  refine Ex_pI 52 (I (h + 42)) (va_up (va_up I0 h (va_up (va_up (I h) 9 (nI ((e + 1) % 16))) 8 (nI (min (P.length + 1) 16)))) (h + 42) (va_up (I (h + 42)) 4 0)) dX8_keepPast_49 fX8_170 rfl (xH_22 hx).1 rfl (fun _ => rfl) ((va_up_ne _ _ (by omega)).trans (f0 _ (by omega))) rfl rfl rfl ?_
  refine Ex_ret0 dX8_keepPast_52 rfl (Or.inl rfl) ?_
  refine hQ _ ⟨fun x a b c => ?_, fun k a b => ?_, ?_⟩ ⟨?_, Nat.mod_lt _ (by omega), ?_, ?_, fun j G hj => ?_⟩
  · rw [va_up_ne _ _ b, va_up_ne _ _ a]
    exact f0 x c
  · rw [va_up_ne _ _ (by omega), va_up_self, va_up_ne _ _ a, va_up_ne _ _ b]
  · rw [va_up_self, va_up_self]
  · rw [List.length_take]
    omega
  · rw [va_up_ne _ _ (by omega), va_up_self, va_up_self, List.length_take, List.length_cons, Nat.min_comm]
  · rw [va_up_ne _ _ (by omega), va_up_self, va_up_ne _ _ (by omega), va_up_self]
  · have hj16 : j < 16 := by
      have h1 := (List.getElem?_eq_some_iff.mp hj).1
      rw [List.length_take] at h1
      omega
    rw [List.getElem?_take_of_lt hj16] at hj
    have hrl := hm_rglt ((e + 1) % 16) j
    refine hmR.kept (I := I0) ?_ (fun x a b => by rw [va_up_ne _ _ (by omega), va_up_ne _ _ (by omega)])
    cases j with
    | zero =>
      rw [hm_rg0 e p2, ← hpa]
      have h2 : H = G := by simpa using hj
      rw [← h2]
      exact hH0
    | succ j =>
      rw [hm_rg1 e j p2 (by omega)]
      have hne := hm_rgne e j p2 (by omega)
      have hrl2 := hm_rglt e j
      refine (p5 j G (by simpa using hj)).kept (fun x a b => hF0 x (fun q => ?_))
      unfold hmIn at q
      omega
def hmRingOk (O : hmO) (H : hmH) (v : Int32) : Bool := hmCal (hmN O) v && hmCanRing H (hmIx v)
set_option maxHeartbeats 4000000 in
theorem c_ring {d : Nat} {sh : xSh} {R : xR} {L : xL} {I : xI} {Q : xQ} {h dk dd pl pd : Nat} {O : hmO} {H : hmH} (hx : xHM sh R h dk dd pl pd) (hO : hmD I dk O) (ho : hmOok O) (hH : hmR I (h + 30) H) (hok : hmOk O H) {e : Nat} {P : List hmH} (hP : hmPast I h e P) {qv : Int32} (hno : hmRingOk O H qv = false → Q (some (.int (-1))) 0 sh R L I) (hyes : hmRingOk O H qv = true → ∀ I', hmKm h dk I I' → hmR I' (h + 30) (hmCome H (hmIx qv)) → (hmPast I' h ((e + 1) % 16) ((H :: P).take 16)) → Q (some (.int (nI (hmLine H).length))) 0 sh R L I') : Ex (d + 3) 0 0 MX8_ring 0 sh R L I 0 [some (.ref h), some (.int qv)] [] Q := by
  obtain ⟨h6, hlen, hset, htak, hmin, hline, hhas, hheld, htalk⟩ := id hH
  obtain ⟨on, otk, ow, olen, olaw⟩ := id hO
  obtain ⟨o6, ot1, ot2, oo, oll, owf⟩ := id ho
  have hdd := xH_27 hx
  have hlN := hok.2.1
  refine Ex_aload_n 1 (i := 0) dX8_ring_0 rfl rfl rfl ?_
  refine Ex_iload_n 2 (i := 1) dX8_ring_1 rfl rfl rfl ?_
  refine Ex_callV (M' := MX8_isCaller) 5 [.int qv] (rest := []) dX8_ring_2 lX8_96 mX8_isCaller rfl (xH_0 hx) rfl (Nat.le_of_ble_eq_true rfl) (Nat.le_of_ble_eq_true rfl) rfl ?_
  refine c_isCaller hx hO ho hH hok ?_
  simp only [Option.toList, List.cons_append, List.nil_append]
  refine Ex_if_eq 8 19 dX8_ring_5 (by decide) rfl (fun c1 => ?_) (fun c1 => ?_)
  · refine Ex_iconst 20 (v := (-1)) dX8_ring_19 (by decide) rfl ?_
    refine Ex_iret dX8_ring_20 rfl rfl (Or.inl rfl) ?_
    exact hno (by simp [hmRingOk, hmB_eq c1])
  · have hct : hmCal (hmN O) qv = true := by
      cases hb : hmCal (hmN O) qv with
      | true => rfl
      | false => exact absurd ((hmB_0 _).mpr hb) c1
    obtain ⟨w, hw, rfl⟩ := hmCal_of hct
    have hix : hmIx (nI w) = w := hmIx_nI (by omega)
    refine Ex_aload_n 9 (i := 0) dX8_ring_8 rfl rfl rfl ?_
    refine Ex_getR 12 dX8_ring_9 fX8_39 (xH_0 hx) rfl (xH_6 hx) rfl ?_
    refine Ex_iload_n 13 (i := 1) dX8_ring_12 rfl rfl rfl ?_
    refine Ex_callV (M' := MX1_canRing) 16 [.int (nI w)] (rest := []) dX8_ring_13 lX8_133 mX1_canRing rfl (xH_18 hx).1 rfl (Nat.le_of_ble_eq_true rfl) (Nat.le_of_ble_eq_true rfl) rfl ?_
    refine c_canRing (xH_18 hx) hH (by omega) (fun x hx => by have := hlN x hx; omega) ?_
    simp only [Option.toList, List.cons_append, List.nil_append]
    refine Ex_if_ne 19 21 dX8_ring_16 (by decide) rfl (fun c2 => ?_) (fun c2 => ?_)
    · refine Ex_aload_n 22 (i := 0) dX8_ring_21 rfl rfl rfl ?_
      refine Ex_callV (M' := MX8_keepPast) 25 [] (rest := []) dX8_ring_22 lX8_136 mX8_keepPast rfl (xH_0 hx) rfl (Nat.le_of_ble_eq_true rfl) (Nat.le_of_ble_eq_true rfl) rfl ?_
      refine c_keepPast hx hH hP (fun I1 hK hP1 => ?_)
      have hH1 : hmR I1 (h + 30) H := hH.kept (fun x a b => hK.1 x (by omega) (by omega) (by omega))
      have hO1 : hmD I1 dk O := hO.kept (fun x a b => hK.1 x (by omega) (by omega) (by omega))
      have hdk2 : dk = h + 4 ∨ dk = h + 13 := by omega
      simp only [Option.toList, List.nil_append, List.cons_append]
      refine Ex_aload_n 26 (i := 0) dX8_ring_25 rfl rfl rfl ?_
      refine Ex_getR 29 dX8_ring_26 fX8_39 (xH_0 hx) rfl (xH_6 hx) rfl ?_
      refine Ex_iload_n 30 (i := 1) dX8_ring_29 rfl rfl rfl ?_
      refine Ex_callV (M' := MX1_comeToEnd) 33 [.int (nI w)] (rest := []) dX8_ring_30 lX8_139 mX1_comeToEnd rfl (xH_18 hx).1 rfl (Nat.le_of_ble_eq_true rfl) (Nat.le_of_ble_eq_true rfl) rfl ?_
      have hcan := hmB_ne c2
      have hni : w ∉ hmLine H := by
        have h2 : hmBit (hmSet H) w = false ∧ w ∉ hmLine H := by simpa [hmCanRing] using hcan
        exact h2.2
      have hroom := hmOk_room hok ho hw hni
      refine c_comeToEnd (xH_18 hx) hH1 (by omega) hroom (fun I2 hF2 hH2 => ?_)
      have hF : hmFd (h + 30) dk I1 I2 := hmFd.of hF2
      have hKm := hK.then hdk2 hF
      have hP2 := hP1.thn hdk2 hF
      simp only [Option.toList, List.nil_append, List.cons_append]
      refine Ex_aload_n 34 (i := 0) dX8_ring_33 rfl rfl rfl ?_
      refine Ex_getR 37 dX8_ring_34 fX8_39 (xH_0 hx) rfl (xH_6 hx) rfl ?_
      refine Ex_gI 40 (I2 (h + 30) 4) dX8_ring_37 fX8_129 (xH_18 hx).1 rfl rfl rfl ?_
      refine Ex_iconst 41 (v := 1) dX8_ring_40 (by decide) rfl ?_
      have h41 : I2 (h + 30) 4 - 1 = nI (hmLine H).length := by
        rw [hH2.2.1]
        show nI (hmLine H ++ [w]).length - 1 = _
        rw [List.length_append]
        exact (hm_nIsub (a := (hmLine H).length + 1) (b := 1) (by omega) (by omega)).trans (by rw [Nat.add_sub_cancel])
      refine Ex_isub 42 dX8_ring_41 rfl ?_
      rw [h41]
      refine Ex_iret dX8_ring_42 rfl rfl (Or.inl rfl) ?_
      have hok2 : hmRingOk O H (nI w) = true := by simp [hmRingOk, hct, hix, hcan]
      have hq := hyes hok2
      rw [hix] at hq
      exact hq I2 hKm hH2 hP2
    · refine Ex_iconst 20 (v := (-1)) dX8_ring_19 (by decide) rfl ?_
      refine Ex_iret dX8_ring_20 rfl rfl (Or.inl rfl) ?_
      exact hno (by simp [hmRingOk, hix, hmB_eq c2])
set_option maxHeartbeats 4000000 in
theorem c_off {d : Nat} {sh : xSh} {R : xR} {L : xL} {I : xI} {Q : xQ} {h dk dd pl pd : Nat} {O : hmO} {H : hmH} (hx : xHM sh R h dk dd pl pd) (hO : hmD I dk O) (ho : hmOok O) (hH : hmR I (h + 30) H) (hok : hmOk O H) {e : Nat} {P : List hmH} (hP : hmPast I h e P) {qv : Int32} (hno : hmOn (hmN O) H qv = false → Q (some (.int 0)) 0 sh R L I) (hyes : hmOn (hmN O) H qv = true → ∀ I', hmKm h dk I I' → hmR I' (h + 30) (hmLeave H (hmIx qv)) → (hmPast I' h ((e + 1) % 16) ((H :: P).take 16)) → Q (some (.int 1)) 0 sh R L I') : Ex (d + 3) 0 0 MX8_off 0 sh R L I 0 [some (.ref h), some (.int qv)] [] Q := by
  obtain ⟨h6, hlen, hset, htak, hmin, hline, hhas, hheld, htalk⟩ := id hH
  obtain ⟨on, otk, ow, olen, olaw⟩ := id hO
  obtain ⟨o6, ot1, ot2, oo, oll, owf⟩ := id ho
  have hdd := xH_27 hx
  have hlN := hok.2.1
  refine Ex_aload_n 1 (i := 0) dX8_off_0 rfl rfl rfl ?_
  refine Ex_iload_n 2 (i := 1) dX8_off_1 rfl rfl rfl ?_
  refine Ex_callV (M' := MX8_isOnLine) 5 [.int qv] (rest := []) dX8_off_2 lX8_143 mX8_isOnLine rfl (xH_0 hx) rfl (Nat.le_of_ble_eq_true rfl) (Nat.le_of_ble_eq_true rfl) rfl ?_
  refine c_isOnLine hx hO ho hH hok ?_
  simp only [Option.toList, List.cons_append, List.nil_append]
  refine Ex_if_ne 8 10 dX8_off_5 (by decide) rfl (fun c1 => ?_) (fun c1 => ?_)
  · have hon := hmB_ne c1
    obtain ⟨w, hw, hwm, rfl⟩ := hmOn_of o6 hon
    have hix : hmIx (nI w) = w := hmIx_nI (by omega)
    refine Ex_aload_n 11 (i := 0) dX8_off_10 rfl rfl rfl ?_
    refine Ex_callV (M' := MX8_keepPast) 14 [] (rest := []) dX8_off_11 lX8_136 mX8_keepPast rfl (xH_0 hx) rfl (Nat.le_of_ble_eq_true rfl) (Nat.le_of_ble_eq_true rfl) rfl ?_
    refine c_keepPast hx hH hP (fun I1 hK hP1 => ?_)
    have hH1 : hmR I1 (h + 30) H := hH.kept (fun x a b => hK.1 x (by omega) (by omega) (by omega))
    have hO1 : hmD I1 dk O := hO.kept (fun x a b => hK.1 x (by omega) (by omega) (by omega))
    have hdk2 : dk = h + 4 ∨ dk = h + 13 := by omega
    simp only [Option.toList, List.nil_append, List.cons_append]
    refine Ex_aload_n 15 (i := 0) dX8_off_14 rfl rfl rfl ?_
    refine Ex_getR 18 dX8_off_15 fX8_39 (xH_0 hx) rfl (xH_6 hx) rfl ?_
    refine Ex_iload_n 19 (i := 1) dX8_off_18 rfl rfl rfl ?_
    refine Ex_callV (M' := MX1_leave) 22 [.int (nI w)] (rest := []) dX8_off_19 lX8_146 mX1_leave rfl (xH_18 hx).1 rfl (Nat.le_of_ble_eq_true rfl) (Nat.le_of_ble_eq_true rfl) rfl ?_
    refine c_leave (xH_18 hx) hH1 (by omega) (fun x hx => by have := hlN x hx; omega) (fun I2 hF2 hH2 => ?_)
    have hF : hmFd (h + 30) dk I1 I2 := hmFd.of hF2
    have hKm := hK.then hdk2 hF
    have hP2 := hP1.thn hdk2 hF
    simp only [Option.toList, List.nil_append, List.cons_append]
    refine Ex_iconst 23 (v := 1) dX8_off_22 (by decide) rfl ?_
    refine Ex_iret dX8_off_23 rfl (by decide) (Or.inl rfl) ?_
    have hq := hyes hon
    rw [hix] at hq
    exact hq I2 hKm hH2 hP2
  · refine Ex_iconst 9 (v := 0) dX8_off_8 (by decide) rfl ?_
    refine Ex_iret dX8_off_9 rfl (by decide) (Or.inl rfl) ?_
    exact hno (hmB_eq c1)
def hmSwapOk (O : hmO) (H : hmH) (v u : Int32) : Bool := decide (¬ v = u) && hmOn (hmN O) H v && hmOn (hmN O) H u
set_option maxHeartbeats 4000000 in
theorem c_swap {d : Nat} {sh : xSh} {R : xR} {L : xL} {I : xI} {Q : xQ} {h dk dd pl pd : Nat} {O : hmO} {H : hmH} (hx : xHM sh R h dk dd pl pd) (hO : hmD I dk O) (ho : hmOok O) (hH : hmR I (h + 30) H) (hok : hmOk O H) {e : Nat} {P : List hmH} (hP : hmPast I h e P) {qv qu : Int32} (hno : hmSwapOk O H qv qu = false → Q (some (.int 0)) 0 sh R L I) (hyes : hmSwapOk O H qv qu = true → ∀ I', hmKm h dk I I' → hmR I' (h + 30) (hmSwap H (hmIx qv) (hmIx qu)) → (hmPast I' h ((e + 1) % 16) ((H :: P).take 16)) → Q (some (.int 1)) 0 sh R L I') : Ex (d + 3) 0 0 MX8_swap 0 sh R L I 0 [some (.ref h), some (.int qv), some (.int qu)] [] Q := by
  obtain ⟨h6, hlen, hset, htak, hmin, hline, hhas, hheld, htalk⟩ := id hH
  obtain ⟨on, otk, ow, olen, olaw⟩ := id hO
  obtain ⟨o6, ot1, ot2, oo, oll, owf⟩ := id ho
  have hdd := xH_27 hx
  have hlN := hok.2.1
  refine Ex_iload_n 1 (i := 1) dX8_swap_0 rfl rfl rfl ?_
  refine Ex_iload_n 2 (i := 2) dX8_swap_1 rfl rfl rfl ?_
  refine Ex_icmp_eq 5 21 dX8_swap_2 (by decide) rfl (fun c1 => ?_) (fun c1 => ?_)
  · refine Ex_iconst 22 (v := 0) dX8_swap_21 (by decide) rfl ?_
    refine Ex_iret dX8_swap_22 rfl (by decide) (Or.inl rfl) ?_
    exact hno (by simp [hmSwapOk, c1])
  · refine Ex_aload_n 6 (i := 0) dX8_swap_5 rfl rfl rfl ?_
    refine Ex_iload_n 7 (i := 1) dX8_swap_6 rfl rfl rfl ?_
    refine Ex_callV (M' := MX8_isOnLine) 10 [.int qv] (rest := []) dX8_swap_7 lX8_143 mX8_isOnLine rfl (xH_0 hx) rfl (Nat.le_of_ble_eq_true rfl) (Nat.le_of_ble_eq_true rfl) rfl ?_
    refine c_isOnLine hx hO ho hH hok ?_
    simp only [Option.toList, List.cons_append, List.nil_append]
    refine Ex_if_eq 13 21 dX8_swap_10 (by decide) rfl (fun c2 => ?_) (fun c2 => ?_)
    · refine Ex_iconst 22 (v := 0) dX8_swap_21 (by decide) rfl ?_
      refine Ex_iret dX8_swap_22 rfl (by decide) (Or.inl rfl) ?_
      exact hno (by simp [hmSwapOk, hmB_eq c2])
    · refine Ex_aload_n 14 (i := 0) dX8_swap_13 rfl rfl rfl ?_
      refine Ex_iload_n 15 (i := 2) dX8_swap_14 rfl rfl rfl ?_
      refine Ex_callV (M' := MX8_isOnLine) 18 [.int qu] (rest := []) dX8_swap_15 lX8_143 mX8_isOnLine rfl (xH_0 hx) rfl (Nat.le_of_ble_eq_true rfl) (Nat.le_of_ble_eq_true rfl) rfl ?_
      refine c_isOnLine hx hO ho hH hok ?_
      simp only [Option.toList, List.cons_append, List.nil_append]
      refine Ex_if_ne 21 23 dX8_swap_18 (by decide) rfl (fun c3 => ?_) (fun c3 => ?_)
      · have hon1 := hmB_ne c2
        have hon2 := hmB_ne c3
        obtain ⟨w, hw, hwm, rfl⟩ := hmOn_of o6 hon1
        obtain ⟨u, hu, hum, rfl⟩ := hmOn_of o6 hon2
        have hix : hmIx (nI w) = w := hmIx_nI (by omega)
        have hiu : hmIx (nI u) = u := hmIx_nI (by omega)
        refine Ex_aload_n 24 (i := 0) dX8_swap_23 rfl rfl rfl ?_
        refine Ex_callV (M' := MX8_keepPast) 27 [] (rest := []) dX8_swap_24 lX8_136 mX8_keepPast rfl (xH_0 hx) rfl (Nat.le_of_ble_eq_true rfl) (Nat.le_of_ble_eq_true rfl) rfl ?_
        refine c_keepPast hx hH hP (fun I1 hK hP1 => ?_)
        have hH1 : hmR I1 (h + 30) H := hH.kept (fun x a b => hK.1 x (by omega) (by omega) (by omega))
        have hO1 : hmD I1 dk O := hO.kept (fun x a b => hK.1 x (by omega) (by omega) (by omega))
        have hdk2 : dk = h + 4 ∨ dk = h + 13 := by omega
        simp only [Option.toList, List.nil_append, List.cons_append]
        refine Ex_aload_n 28 (i := 0) dX8_swap_27 rfl rfl rfl ?_
        refine Ex_getR 31 dX8_swap_28 fX8_39 (xH_0 hx) rfl (xH_6 hx) rfl ?_
        refine Ex_iload_n 32 (i := 1) dX8_swap_31 rfl rfl rfl ?_
        refine Ex_iload_n 33 (i := 2) dX8_swap_32 rfl rfl rfl ?_
        refine Ex_callV (M' := MX1_changePlaces) 36 [.int (nI w), .int (nI u)] (rest := []) dX8_swap_33 lX8_149 mX1_changePlaces rfl (xH_18 hx).1 rfl (Nat.le_of_ble_eq_true rfl) (Nat.le_of_ble_eq_true rfl) rfl ?_
        refine c_changePlaces (xH_18 hx) hH1 (by omega) (by omega) (fun x hx => by have := hlN x hx; omega) hok.1 (fun I2 hF2 hH2 => ?_)
        have hF : hmFd (h + 30) dk I1 I2 := hmFd.of hF2
        have hKm := hK.then hdk2 hF
        have hP2 := hP1.thn hdk2 hF
        simp only [Option.toList, List.nil_append, List.cons_append]
        refine Ex_iconst 37 (v := 1) dX8_swap_36 (by decide) rfl ?_
        refine Ex_iret dX8_swap_37 rfl (by decide) (Or.inl rfl) ?_
        have hok2 : hmSwapOk O H (nI w) (nI u) = true := by simp [hmSwapOk, hon1, hon2, c1]
        have hq := hyes hok2
        rw [hix, hiu] at hq
        exact hq I2 hKm hH2 hP2
      · refine Ex_iconst 22 (v := 0) dX8_swap_21 (by decide) rfl ?_
        refine Ex_iret dX8_swap_22 rfl (by decide) (Or.inl rfl) ?_
        exact hno (by simp [hmSwapOk, hmB_eq c3])
set_option maxHeartbeats 4000000 in
theorem c_minute {d : Nat} {sh : xSh} {R : xR} {L : xL} {I : xI} {Q : xQ} {h dk dd pl pd : Nat} {O : hmO} {H : hmH} (hx : xHM sh R h dk dd pl pd) (hO : hmD I dk O) (ho : hmOok O) (hH : hmR I (h + 30) H) (hok : hmOk O H) {e : Nat} {P : List hmH} (hP : hmPast I h e P) (hmn : hmMin H < 800000) (hQ : ∀ I', hmKm h dk I I' → hmR I' (h + 30) (hmMinute O (hmTk O) H) → (hmPast I' h ((e + 1) % 16) ((H :: P).take 16)) → Q (some (.int (hmSet (hmMinute O (hmTk O) H) &&& (hmSet H ^^^ -1)))) 0 sh R L I') : Ex (d + 4) 0 0 MX8_minute 0 sh R L I 0 [some (.ref h)] [] Q := by
  obtain ⟨h6, hlen, hset, htak, hmin, hline, hhas, hheld, htalk⟩ := id hH
  obtain ⟨on, otk, ow, olen, olaw⟩ := id hO
  obtain ⟨o6, ot1, ot2, oo, oll, owf⟩ := id ho
  have hdd := xH_27 hx
  have hlN := hok.2.1
  refine Ex_aload_n 1 (i := 0) dX8_minute_0 rfl rfl rfl ?_
  refine Ex_callV (M' := MX8_keepPast) 4 [] (rest := []) dX8_minute_1 lX8_136 mX8_keepPast rfl (xH_0 hx) rfl (Nat.le_of_ble_eq_true rfl) (Nat.le_of_ble_eq_true rfl) rfl ?_
  refine c_keepPast hx hH hP (fun I1 hK hP1 => ?_)
  have hH1 : hmR I1 (h + 30) H := hH.kept (fun x a b => hK.1 x (by omega) (by omega) (by omega))
  have hO1 : hmD I1 dk O := hO.kept (fun x a b => hK.1 x (by omega) (by omega) (by omega))
  have hdk2 : dk = h + 4 ∨ dk = h + 13 := by omega
  simp only [Option.toList, List.nil_append, List.cons_append]
  refine Ex_aload_n 5 (i := 0) dX8_minute_4 rfl rfl rfl ?_
  refine Ex_getR 8 dX8_minute_5 fX8_39 (xH_0 hx) rfl (xH_6 hx) rfl ?_
  refine Ex_aload_n 9 (i := 0) dX8_minute_8 rfl rfl rfl ?_
  refine Ex_getR 12 dX8_minute_9 fX8_19 (xH_0 hx) rfl (xH_2 hx) rfl ?_
  refine Ex_aload_n 13 (i := 0) dX8_minute_12 rfl rfl rfl ?_
  refine Ex_getR 16 dX8_minute_13 fX8_19 (xH_0 hx) rfl (xH_2 hx) rfl ?_
  refine Ex_gI 19 (I1 dk 7) dX8_minute_16 fX8_153 (xH_14 hx).1 rfl rfl rfl ?_
  rw [hO1.2.1]
  refine Ex_callV (M' := MX1_passMinute) 22 [.ref dk, .int (nI (hmTk O))] (rest := []) dX8_minute_19 lX8_156 mX1_passMinute rfl (xH_18 hx).1 rfl (Nat.le_of_ble_eq_true rfl) (Nat.le_of_ble_eq_true rfl) rfl ?_
  refine c_passMinute (xH_18 hx) (xH_14 hx) (by omega) hH1 hO1 ho hok ot1 ot2 (by omega) (fun I2 hF hH2 => ?_)
  have hKm := hK.then hdk2 hF
  have hP2 := hP1.thn hdk2 hF
  simp only [Option.toList, List.nil_append, List.cons_append]
  refine Ex_iret dX8_minute_22 rfl rfl (Or.inl rfl) ?_
  exact hQ I2 hKm hH2 hP2
set_option maxHeartbeats 4000000 in
theorem c_undo {d : Nat} {sh : xSh} {R : xR} {L : xL} {I : xI} {Q : xQ} {h dk dd pl pd : Nat} (hx : xHM sh R h dk dd pl pd) {e : Nat} {P : List hmH} (hP : hmPast I h e P) (hno : P = [] → Q (some (.int 0)) 0 sh R L I) (hyes : ∀ G P', P = G :: P' → ∀ I', (∀ x, x ≠ h → x ≠ h + 42 → ¬ (h + 49 ≤ x ∧ x < h + 129) → ¬ (h + 30 ≤ x ∧ x < h + 35) → I' x = I x) ∧ (∀ k, k ≠ 8 → k ≠ 9 → I' h k = I h k) ∧ I' (h + 42) 4 = 0 → hmR I' (h + 30) G → hmPast I' h ((e + 15) % 16) P' → Q (some (.int 1)) 0 sh R L I') : Ex (d + 2) 0 0 MX8_undo 0 sh R L I 0 [some (.ref h)] [] Q := by
  obtain ⟨p1, p2, p3, p4, p5⟩ := id hP
  cases P with
  | nil =>
    refine Ex_aload_n 1 (i := 0) dX8_undo_0 rfl rfl rfl ?_
    refine Ex_gI 4 (I h 8) dX8_undo_1 fX8_160 (xH_0 hx) rfl rfl rfl ?_
    rw [p3]
    refine Ex_if_ne 7 9 dX8_undo_4 (by decide) rfl (fun c1 => absurd c1 (fun q => q rfl)) (fun c1 => ?_)
    refine Ex_iconst 8 (v := 0) dX8_undo_7 (by decide) rfl ?_
    refine Ex_iret dX8_undo_8 rfl (by decide) (Or.inl rfl) ?_
    exact hno rfl
  | cons G P =>
    have hln : (G :: P).length = P.length + 1 := List.length_cons
    rw [hln] at p1 p3
    obtain ⟨pa, hpa⟩ : ∃ pa, pa = h + 49 + 5 * hmRg e 0 := ⟨_, rfl⟩
    have hrl := hm_rglt e 0
    have he0 : hmRg e 0 = (e + 15) % 16 := rfl
    have hpH : xHall sh R pa := by rw [hpa]; exact (xH_25 hx _ hrl).2
    have hra : R (h + 40) ((e + 15) % 16) = some pa := by rw [hpa, ← he0]; exact (xH_25 hx _ hrl).1
    refine Ex_aload_n 1 (i := 0) dX8_undo_0 rfl rfl rfl ?_
    refine Ex_gI 4 (I h 8) dX8_undo_1 fX8_160 (xH_0 hx) rfl rfl rfl ?_
    rw [p3]
    refine Ex_if_ne 7 9 dX8_undo_4 (by decide) rfl (fun c1 => ?_) (fun c1 => absurd c1 (fun z => absurd ((nI_eq (b := 0) (by omega) (by omega)).mp z) (by omega)))
    refine Ex_aload_n 10 (i := 0) dX8_undo_9 rfl rfl rfl ?_
    refine Ex_dup 11 dX8_undo_10 rfl rfl ?_
    refine Ex_gI 14 (I h 8) dX8_undo_11 fX8_160 (xH_0 hx) rfl rfl rfl ?_
    rw [p3]
    refine Ex_iconst 15 (v := 1) dX8_undo_14 (by decide) rfl ?_
    refine Ex_isub 16 dX8_undo_15 rfl ?_
    rw [show nI (P.length + 1) - 1 = nI P.length from (hm_nIsub (a := P.length + 1) (b := 1) (by omega) (by omega)).trans (by rw [Nat.add_sub_cancel])]
    refine Ex_pI 19 (I h) (va_up I h (va_up (I h) 8 (nI P.length))) dX8_undo_16 fX8_160 rfl (xH_0 hx) rfl (fun _ => rfl) rfl rfl rfl rfl ?_
    refine Ex_aload_n 20 (i := 0) dX8_undo_19 rfl rfl rfl ?_
    refine Ex_aload_n 21 (i := 0) dX8_undo_20 rfl rfl rfl ?_
    refine Ex_gI 24 (I h 9) dX8_undo_21 fX8_163 (xH_0 hx) rfl (congrFun (va_up_self _ _ _) _) rfl ?_
    rw [p4]
    refine Ex_bipush 26 (v := 16) dX8_undo_24 (by decide) rfl ?_
    refine Ex_iadd 27 dX8_undo_26 rfl ?_
    refine Ex_iconst 28 (v := 1) dX8_undo_27 (by decide) rfl ?_
    refine Ex_isub 29 dX8_undo_28 rfl ?_
    refine Ex_bipush 31 (v := 16) dX8_undo_29 (by decide) rfl ?_
    refine Ex_irem 32 dX8_undo_31 (by decide) rfl ?_
    rw [hm_und16 e p2]
    refine Ex_pI 35 (va_up (I h) 8 (nI P.length)) (va_up I h (va_up (va_up (I h) 8 (nI P.length)) 9 (nI ((e + 15) % 16)))) dX8_undo_32 fX8_163 rfl (xH_0 hx) rfl (fun _ => rfl) (va_up_self _ _ _) rfl (va_up_up _ _ _ _) rfl ?_
    refine Ex_aload_n 36 (i := 0) dX8_undo_35 rfl rfl rfl ?_
    refine Ex_getR 39 dX8_undo_36 fX8_39 (xH_0 hx) rfl (xH_6 hx) rfl ?_
    refine Ex_aload_n 40 (i := 0) dX8_undo_39 rfl rfl rfl ?_
    refine Ex_getR 43 dX8_undo_40 fX8_46 (xH_0 hx) rfl (xH_8 hx) rfl ?_
    refine Ex_aload_n 44 (i := 0) dX8_undo_43 rfl rfl rfl ?_
    refine Ex_gI 47 (nI ((e + 15) % 16)) dX8_undo_44 fX8_163 (xH_0 hx) rfl (congrFun (va_up_self _ _ _) _) rfl ?_
    refine Ex_aald 48 4 ((e + 15) % 16) dX8_undo_47 (xH_20 hx) (fun _ => rfl) rfl (by omega) (by decide) hra rfl ?_
    refine Ex_callV (M' := MX1_copyFrom) 51 [.ref pa] (rest := []) dX8_undo_48 lX8_166 mX1_copyFrom rfl (xH_18 hx).1 rfl (Nat.le_of_ble_eq_true rfl) (Nat.le_of_ble_eq_true rfl) rfl ?_
    have hHp : hmR (va_up I h (va_up (va_up (I h) 8 (nI P.length)) 9 (nI ((e + 15) % 16)))) pa G := by
      refine hmR.kept (I := I) ?_ (fun x a b => by rw [va_up_ne _ _ (by omega)])
      rw [hpa]
      exact p5 0 G rfl
    refine c_copyFrom (xH_18 hx) hpH (by omega) hHp (fun I1 hF1 hH1 => ?_)
    have f1 : ∀ x, ¬ (h + 30 ≤ x ∧ x < h + 35) → I1 x = (va_up I h (va_up (va_up (I h) 8 (nI P.length)) 9 (nI ((e + 15) % 16)))) x := fun x a => hF1 x (fun q => a (by unfold hmIn at q; omega))
    simp only [Option.toList, List.nil_append, List.cons_append]
    refine Ex_aload_n 52 (i := 0) dX8_undo_51 rfl rfl rfl ?_
    refine Ex_getR 55 dX8_undo_52 fX8_59 (xH_0 hx) rfl (xH_10 hx) rfl ?_
    refine Ex_iconst 56 (v := 0) dX8_undo_55 (by decide) rfl ?_
    refine Ex_pI 59 (I (h + 42)) (va_up I1 (h + 42) (va_up (I (h + 42)) 4 0)) dX8_undo_56 fX8_170 rfl (xH_22 hx).1 rfl (fun _ => rfl) ((f1 _ (by omega)).trans (va_up_ne _ _ (by omega))) rfl rfl rfl ?_
    refine Ex_iconst 60 (v := 1) dX8_undo_59 (by decide) rfl ?_
    refine Ex_iret dX8_undo_60 rfl (by decide) (Or.inl rfl) ?_
    refine hyes G P rfl _ ⟨fun x a b c f => ?_, fun k a b => ?_, ?_⟩ ?_ ⟨by omega, Nat.mod_lt _ (by omega), ?_, ?_, fun j K hj => ?_⟩
    · rw [va_up_ne _ _ b, f1 x f, va_up_ne _ _ a]
    · rw [va_up_ne _ _ (by omega), f1 _ (by omega), va_up_self, va_up_ne _ _ b, va_up_ne _ _ a]
    · rw [va_up_self, va_up_self]
    · exact hH1.kept (fun x a b => by rw [va_up_ne _ _ (by omega)])
    · rw [va_up_ne _ _ (by omega), f1 _ (by omega), va_up_self, va_up_ne _ _ (by omega), va_up_self]
    · rw [va_up_ne _ _ (by omega), f1 _ (by omega), va_up_self, va_up_self]
    · have hj2 := (List.getElem?_eq_some_iff.mp hj).1
      have hrl2 := hm_rglt e (j + 1)
      rw [hm_rg2 e j p2 (by omega)]
      refine (p5 (j + 1) K (by simpa using hj)).kept (fun x a b => by rw [va_up_ne _ _ (by omega), f1 _ (by omega), va_up_ne _ _ (by omega)])
