theorem z_gt {Ln i : Nat} (h1 : Ln ≤ 3584) (h2 : i ≤ 4000) : (nI Ln - 7 < nI i ↔ Ln < i + 7) := by
  have e1 : (nI i).toInt = i := nI_toInt (by omega)
  have e2 : (nI Ln).toInt = Ln := nI_toInt (by omega)
  have e3 : (nI Ln - 7).toInt = (Ln : Int) - 7 := by
    rw [Int32.toInt_sub, e2, show (7 : Int32).toInt = 7 by decide]
    exact Int.bmod_eq_of_le (by omega) (by omega)
  rw [Int32.lt_iff_toInt_lt, e1, e3]
  omega
set_option maxHeartbeats 4000000 in
theorem law_loop {d s Ln h : Nat} {nm : String} {xs : Nat → Int32} {sh : xSh} {Q : xQ} (hLn : Ln ≤ 3584) (hso : sh (h + 207) = some (.inr (.long, 1))) (hQ1 : ∀ sh R L I, Q (some (.int 1)) 0 sh R L I) (hQ0 : ∀ r n sh R L I, Q r n sh R L I → n = 0) : ∀ (r i b : Nat), Ln < i + 7 * r + 7 → i ≤ 4000 → b + r ≤ 600 → ∀ (R : xR) (L : xL) (I : xI) (dk dd pl pd e : Nat) (Z : hmZ), zC sh R L I h dk dd pl pd e Z → zR sh R L I (h + 169) Z → zOk Z b → Ey (xLX s Ln xs) (d + 60) r (6 * r) (Mlaw nm) 0 sh R L I 23 [some (.ref s), some (.ref h), some (.ref (h + 169)), some (.ref (h + 207)), some (.int (nI i)), none, none] [] Q := by
  intro r
  induction r with
  | zero =>
    intro i b hr1 hi4 hb R L I dk dd pl pd e Z hc hr hz
    refine Ey_iload 25 dL_law_23 rfl rfl ?_
    refine Ey_aload_n 26 (i := 0) dL_law_25 rfl rfl rfl ?_
    refine Ey_slen 27 dL_law_26 rfl ?_
    refine Ey_bipush 29 (v := 7) dL_law_27 (by decide) rfl ?_
    refine Ey_isub 30 dL_law_29 rfl ?_
    refine Ey_icmp_gt 33 1310 dL_law_30 (by decide) rfl (fun c1 => ?_) (fun c1 => absurd ((z_gt hLn hi4).mpr (by omega)) c1)
    refine Ey_iconst 1311 (v := 1) dL_law_1310 (by decide) rfl ?_
    refine Ey_iret dL_law_1311 rfl rfl (Or.inl rfl) ?_
    exact hQ1 _ _ _ _
  | succ r ih =>
    intro i b hr1 hi4 hb R L I dk dd pl pd e Z hc hr hz
    rw [show r + 1 = 1 + r by omega, show 6 * (1 + r) = 6 + 6 * r by omega]
    refine Ey_iload 25 dL_law_23 rfl rfl ?_
    refine Ey_aload_n 26 (i := 0) dL_law_25 rfl rfl rfl ?_
    refine Ey_slen 27 dL_law_26 rfl ?_
    refine Ey_bipush 29 (v := 7) dL_law_27 (by decide) rfl ?_
    refine Ey_isub 30 dL_law_29 rfl ?_
    refine Ey_icmp_gt 33 1310 dL_law_30 (by decide) rfl (fun c1 => ?_) (fun c1 => ?_)
    · refine Ey_iconst 1311 (v := 1) dL_law_1310 (by decide) rfl ?_
      refine Ey_iret dL_law_1311 rfl rfl (Or.inl rfl) ?_
      exact hQ1 _ _ _ _
    · have hi : i + 7 ≤ Ln := by
        have := mt (z_gt hLn hi4).mpr c1
        omega
      have hb1 : b + 1 ≤ 600 := by omega
      have tl : ∀ (kc ks : Nat), r ≤ kc → 6 * r ≤ ks → ∀ (R' : xR) (L' : xL) (I' : xI) (dk' dd' pl' pd' e' : Nat) (Z' : hmZ), zC sh R' L' I' h dk' dd' pl' pd' e' Z' → zR sh R' L' I' (h + 169) Z' → zOk Z' (b + 1) → Ey (xLX s Ln xs) (d + 60) kc ks (Mlaw nm) 0 sh R' L' I' 1304 [some (.ref s), some (.ref h), some (.ref (h + 169)), some (.ref (h + 207)), some (.int (nI i)), none, none] [] Q := by
        intro kc ks k1 k2 R' L' I' dk' dd' pl' pd' e' Z' hc' hr' hz'
        refine Ey_iinc 1307 (v := nI (i + 7)) (ls' := [some (.ref s), some (.ref h), some (.ref (h + 169)), some (.ref (h + 207)), some (.int (nI (i + 7))), none, none]) dL_law_1304 rfl (hm_ad rfl rfl) (Nat.le_of_ble_eq_true rfl) rfl rfl rfl ?_
        refine Ey_goto 23 dL_law_1307 (by decide) ?_
        refine Ey_wid k1 k2 hQ0 ?_
        exact ih (i + 7) (b + 1) (by omega) (by omega) (by omega) R' L' I' dk' dd' pl' pd' e' Z' hc' hr' hz'
      refine Ey_aload_n 34 (i := 0) dL_law_33 rfl rfl rfl ?_
      refine Ey_iload 36 dL_law_34 rfl rfl ?_
      refine Ey_sld 37 i dL_law_36 rfl (by omega) (by omega) rfl ?_
      refine Ey_bipush 39 (v := 63) dL_law_37 (by decide) rfl ?_
      refine Ey_iand 40 dL_law_39 rfl ?_
      by_cases hsw0 : (xs i &&& 63).toInt < 0 ∨ 34 < (xs i &&& 63).toInt
      · refine Ey_tableOut 1304 dL_law_40 hsw0 (by decide) ?_
        exact tl (1 + r) (6 + 6 * r) (by omega) (by omega) R L I dk dd pl pd e Z hc hr (hz.up hb1)
      · have hsw1 : (xs i &&& 63).toInt = 0 ∨ (xs i &&& 63).toInt = 1 ∨ (xs i &&& 63).toInt = 2 ∨ (xs i &&& 63).toInt = 3 ∨ (xs i &&& 63).toInt = 4 ∨ (xs i &&& 63).toInt = 5 ∨ (xs i &&& 63).toInt = 6 ∨ (xs i &&& 63).toInt = 7 ∨ (xs i &&& 63).toInt = 8 ∨ (xs i &&& 63).toInt = 9 ∨ (xs i &&& 63).toInt = 10 ∨ (xs i &&& 63).toInt = 11 ∨ (xs i &&& 63).toInt = 12 ∨ (xs i &&& 63).toInt = 13 ∨ (xs i &&& 63).toInt = 14 ∨ (xs i &&& 63).toInt = 15 ∨ (xs i &&& 63).toInt = 16 ∨ (xs i &&& 63).toInt = 17 ∨ (xs i &&& 63).toInt = 18 ∨ (xs i &&& 63).toInt = 19 ∨ (xs i &&& 63).toInt = 20 ∨ (xs i &&& 63).toInt = 21 ∨ (xs i &&& 63).toInt = 22 ∨ (xs i &&& 63).toInt = 23 ∨ (xs i &&& 63).toInt = 24 ∨ (xs i &&& 63).toInt = 25 ∨ (xs i &&& 63).toInt = 26 ∨ (xs i &&& 63).toInt = 27 ∨ (xs i &&& 63).toInt = 28 ∨ (xs i &&& 63).toInt = 29 ∨ (xs i &&& 63).toInt = 30 ∨ (xs i &&& 63).toInt = 31 ∨ (xs i &&& 63).toInt = 32 ∨ (xs i &&& 63).toInt = 33 ∨ (xs i &&& 63).toInt = 34 := by omega
        rcases hsw1 with hsw | hsw | hsw | hsw | hsw | hsw | hsw | hsw | hsw | hsw | hsw | hsw | hsw | hsw | hsw | hsw | hsw | hsw | hsw | hsw | hsw | hsw | hsw | hsw | hsw | hsw | hsw | hsw | hsw | hsw | hsw | hsw | hsw | hsw | hsw
        · refine Ey_tableIn 196 dL_law_40 (by rw [hsw]; decide) (by rw [hsw]; decide) (off := 156) (by rw [hsw]; rfl) (by decide) ?_
          exact lc_feed hc hr hz hb1 hi hLn (tl (1 + r) (6 + 6 * r) (by omega) (by omega))
        · refine Ey_tableIn 343 dL_law_40 (by rw [hsw]; decide) (by rw [hsw]; decide) (off := 303) (by rw [hsw]; rfl) (by decide) ?_
          exact lc_office hc hr hz hb1 hi hLn (tl (1 + r) (6 + 6 * r) (by omega) (by omega))
        · refine Ey_tableIn 356 dL_law_40 (by rw [hsw]; decide) (by rw [hsw]; decide) (off := 316) (by rw [hsw]; rfl) (by decide) ?_
          exact lc_day hc hr hz hb1 hi hLn (tl (1 + r) (6 + 6 * r) (by omega) (by omega))
        · refine Ey_tableIn 369 dL_law_40 (by rw [hsw]; decide) (by rw [hsw]; decide) (off := 329) (by rw [hsw]; rfl) (by decide) ?_
          exact lc_caller hc hr hz hb1 hi hLn (tl (1 + r) (6 + 6 * r) (by omega) (by omega))
        · refine Ey_tableIn 406 dL_law_40 (by rw [hsw]; decide) (by rw [hsw]; decide) (off := 366) (by rw [hsw]; rfl) (by decide) ?_
          exact lc_met hc hr hz hb1 hi hLn (tl (1 + r) (6 + 6 * r) (by omega) (by omega))
        · refine Ey_tableIn 443 dL_law_40 (by rw [hsw]; decide) (by rw [hsw]; decide) (off := 403) (by rw [hsw]; rfl) (by decide) ?_
          exact lc_line hc hr hz hb1 hi hLn (tl (1 + r) (6 + 6 * r) (by omega) (by omega))
        · refine Ey_tableIn 468 dL_law_40 (by rw [hsw]; decide) (by rw [hsw]; decide) (off := 428) (by rw [hsw]; rfl) (by decide) ?_
          exact lc_ring hc hr hz hb1 hi hLn (tl (1 + r) (6 + 6 * r) (by omega) (by omega))
        · refine Ey_tableIn 493 dL_law_40 (by rw [hsw]; decide) (by rw [hsw]; decide) (off := 453) (by rw [hsw]; rfl) (by decide) ?_
          exact lc_off hc hr hz hb1 hi hLn (tl (1 + r) (6 + 6 * r) (by omega) (by omega))
        · refine Ey_tableIn 518 dL_law_40 (by rw [hsw]; decide) (by rw [hsw]; decide) (off := 478) (by rw [hsw]; rfl) (by decide) ?_
          exact lc_swap hc hr hz hb1 hi hLn (tl (1 + r) (6 + 6 * r) (by omega) (by omega))
        · refine Ey_tableIn 555 dL_law_40 (by rw [hsw]; decide) (by rw [hsw]; decide) (off := 515) (by rw [hsw]; rfl) (by decide) ?_
          exact lc_minute hc hr hz hb1 hi hLn (tl (1 + r) (6 + 6 * r) (by omega) (by omega))
        · refine Ey_tableIn 568 dL_law_40 (by rw [hsw]; decide) (by rw [hsw]; decide) (off := 528) (by rw [hsw]; rfl) (by decide) ?_
          exact lc_undo hc hr hz hb1 hi hLn (tl (1 + r) (6 + 6 * r) (by omega) (by omega))
        · refine Ey_tableIn 581 dL_law_40 (by rw [hsw]; decide) (by rw [hsw]; decide) (off := 541) (by rw [hsw]; rfl) (by decide) ?_
          exact lc_judged hc hr hz hb1 hi hLn (tl (1 + r) (6 + 6 * r) (by omega) (by omega))
        · refine Ey_tableIn 606 dL_law_40 (by rw [hsw]; decide) (by rw [hsw]; decide) (off := 566) (by rw [hsw]; rfl) (by decide) ?_
          exact lc_next hc hr hz hb1 hi hLn (tl (1 + r) (6 + 6 * r) (by omega) (by omega))
        · refine Ey_tableIn 631 dL_law_40 (by rw [hsw]; decide) (by rw [hsw]; decide) (off := 591) (by rw [hsw]; rfl) (by decide) ?_
          exact lc_when hc hr hz hb1 hi hLn (tl (1 + r) (6 + 6 * r) (by omega) (by omega))
        · refine Ey_tableIn 656 dL_law_40 (by rw [hsw]; decide) (by rw [hsw]; decide) (off := 616) (by rw [hsw]; rfl) (by decide) ?_
          exact lc_empty hc hr hz hb1 hi hLn (tl (1 + r) (6 + 6 * r) (by omega) (by omega))
        · refine Ey_tableIn 669 dL_law_40 (by rw [hsw]; decide) (by rw [hsw]; decide) (off := 629) (by rw [hsw]; rfl) (by decide) ?_
          exact lc_meets hc hr hz hb1 hi hLn (tl (1 + r) (6 + 6 * r) (by omega) (by omega))
        · refine Ey_tableIn 706 dL_law_40 (by rw [hsw]; decide) (by rw [hsw]; decide) (off := 666) (by rw [hsw]; rfl) (by decide) ?_
          exact lc_spread hc hr hz hb1 hi hLn (tl (1 + r) (6 + 6 * r) (by omega) (by omega))
        · refine Ey_tableIn 731 dL_law_40 (by rw [hsw]; decide) (by rw [hsw]; decide) (off := 691) (by rw [hsw]; rfl) (by decide) ?_
          exact lc_order hc hr hz hb1 hi hLn (tl (1 + r) (6 + 6 * r) (by omega) (by omega))
        · refine Ey_tableIn 756 dL_law_40 (by rw [hsw]; decide) (by rw [hsw]; decide) (off := 716) (by rw [hsw]; rfl) (by decide) ?_
          exact lc_helpers hc hr hz hb1 hi hLn (tl (1 + r) (6 + 6 * r) (by omega) (by omega))
        · refine Ey_tableIn 781 dL_law_40 (by rw [hsw]; decide) (by rw [hsw]; decide) (off := 741) (by rw [hsw]; rfl) (by decide) ?_
          exact lc_gone hc hr hz hb1 hi hLn (tl (1 + r) (6 + 6 * r) (by omega) (by omega))
        · refine Ey_tableIn 806 dL_law_40 (by rw [hsw]; decide) (by rw [hsw]; decide) (off := 766) (by rw [hsw]; rfl) (by decide) ?_
          exact lc_holders hc hr hz hb1 hi hLn (tl (1 + r) (6 + 6 * r) (by omega) (by omega))
        · refine Ey_tableIn 831 dL_law_40 (by rw [hsw]; decide) (by rw [hsw]; decide) (off := 791) (by rw [hsw]; rfl) (by decide) ?_
          exact lc_hears hc hr hz hb1 hi hLn (tl (1 + r) (6 + 6 * r) (by omega) (by omega))
        · refine Ey_tableIn 868 dL_law_40 (by rw [hsw]; decide) (by rw [hsw]; decide) (off := 828) (by rw [hsw]; rfl) (by decide) ?_
          exact lc_deal hc hr hz hb1 hi hLn (tl (1 + r) (6 + 6 * r) (by omega) (by omega))
        · refine Ey_tableIn 893 dL_law_40 (by rw [hsw]; decide) (by rw [hsw]; decide) (off := 853) (by rw [hsw]; rfl) (by decide) ?_
          exact lc_usual hc hr hz hb1 hi hLn (tl (1 + r) (6 + 6 * r) (by omega) (by omega))
        · refine Ey_tableIn 918 dL_law_40 (by rw [hsw]; decide) (by rw [hsw]; decide) (off := 878) (by rw [hsw]; rfl) (by decide) ?_
          exact lc_lost hc hr hz hb1 hi hLn (tl (1 + r) (6 + 6 * r) (by omega) (by omega))
        · refine Ey_tableIn 931 dL_law_40 (by rw [hsw]; decide) (by rw [hsw]; decide) (off := 891) (by rw [hsw]; rfl) (by decide) ?_
          exact lc_wisest hc hr hz hb1 hi hLn (tl (1 + r) (6 + 6 * r) (by omega) (by omega))
        · refine Ey_tableIn 944 dL_law_40 (by rw [hsw]; decide) (by rw [hsw]; decide) (off := 904) (by rw [hsw]; rfl) (by decide) ?_
          exact lc_tell hc hr hz hb1 hi hLn (tl (1 + r) (6 + 6 * r) (by omega) (by omega))
        · refine Ey_tableIn 997 dL_law_40 (by rw [hsw]; decide) (by rw [hsw]; decide) (off := 957) (by rw [hsw]; rfl) (by decide) ?_
          exact lc_sets hc hr hz hb1 hi hLn (tl (1 + r) (6 + 6 * r) (by omega) (by omega))
        · refine Ey_tableIn 1022 dL_law_40 (by rw [hsw]; decide) (by rw [hsw]; decide) (off := 982) (by rw [hsw]; rfl) (by decide) ?_
          exact lc_ask hc hr hz hb1 hi hLn (tl (1 + r) (6 + 6 * r) (by omega) (by omega))
        · refine Ey_tableIn 1035 dL_law_40 (by rw [hsw]; decide) (by rw [hsw]; decide) (off := 995) (by rw [hsw]; rfl) (by decide) ?_
          exact lc_chance hc hr hz hb1 hi hLn (tl (1 + r) (6 + 6 * r) (by omega) (by omega))
        · refine Ey_tableIn 1060 dL_law_40 (by rw [hsw]; decide) (by rw [hsw]; decide) (off := 1020) (by rw [hsw]; rfl) (by decide) ?_
          exact lc_other hc hr hz hb1 hi hLn (tl (1 + r) (6 + 6 * r) (by omega) (by omega))
        · refine Ey_tableIn 1085 dL_law_40 (by rw [hsw]; decide) (by rw [hsw]; decide) (off := 1045) (by rw [hsw]; rfl) (by decide) ?_
          exact lc_rests hc hr hz hb1 hi hLn hso (tl r (6 * r) (by omega) (by omega))
        · refine Ey_tableIn 1177 dL_law_40 (by rw [hsw]; decide) (by rw [hsw]; decide) (off := 1137) (by rw [hsw]; rfl) (by decide) ?_
          exact lc_days hc hr hz hb1 hi hLn (tl (1 + r) (6 + 6 * r) (by omega) (by omega))
        · refine Ey_tableIn 1226 dL_law_40 (by rw [hsw]; decide) (by rw [hsw]; decide) (off := 1186) (by rw [hsw]; rfl) (by decide) ?_
          exact lc_mark hc hr hz hb1 hi hLn (tl (1 + r) (6 + 6 * r) (by omega) (by omega))
        · refine Ey_tableIn 1279 dL_law_40 (by rw [hsw]; decide) (by rw [hsw]; decide) (off := 1239) (by rw [hsw]; rfl) (by decide) ?_
          exact lc_count hc hr hz hb1 hi hLn (tl (1 + r) (6 + 6 * r) (by omega) (by omega))
