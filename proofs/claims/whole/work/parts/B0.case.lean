set_option maxHeartbeats 4000000 in
theorem lc_caller {d kc ks b i s Ln h dk dd pl pd e : Nat} {nm : String} {xs : Nat → Int32} {sh : xSh} {R : xR} {L : xL} {I : xI} {Q : xQ} {Z : hmZ} (hc : zC sh R L I h dk dd pl pd e Z) (hr : zR sh R L I (h + 169) Z) (hz : zOk Z b) (hb : b + 1 ≤ 600) (hi : i + 7 ≤ Ln) (hLn : Ln ≤ 3584) (hK : ∀ (R' : xR) (L' : xL) (I' : xI) (dk' dd' pl' pd' e' : Nat) (Z' : hmZ), zC sh R' L' I' h dk' dd' pl' pd' e' Z' → zR sh R' L' I' (h + 169) Z' → zOk Z' (b + 1) → Ey (xLX s Ln xs) (d + 60) kc ks (Mlaw nm) 0 sh R' L' I' 1304 [some (.ref s), some (.ref h), some (.ref (h + 169)), some (.ref (h + 207)), some (.int (nI i)), none, none] [] Q) : Ey (xLX s Ln xs) (d + 60) kc ks (Mlaw nm) 0 sh R L I 369 [some (.ref s), some (.ref h), some (.ref (h + 169)), some (.ref (h + 207)), some (.int (nI i)), none, none] [] Q := by
  refine Ey_aload_n 370 (i := 1) dL_law_369 rfl rfl rfl ?_
  refine Ey_aload_n 371 (i := 0) dL_law_370 rfl rfl rfl ?_
  refine Ey_iload 373 dL_law_371 rfl rfl ?_
  refine Ey_iconst 374 (v := 1) dL_law_373 (by decide) rfl ?_
  refine Ey_iadd 375 dL_law_374 rfl ?_
  refine Ey_sld 376 (i + 1) dL_law_375 (hm_ad rfl rfl) (by omega) (by omega) rfl ?_
  refine Ey_aload_n 377 (i := 0) dL_law_376 rfl rfl rfl ?_
  refine Ey_iload 379 dL_law_377 rfl rfl ?_
  refine Ey_iconst 380 (v := 2) dL_law_379 (by decide) rfl ?_
  refine Ey_iadd 381 dL_law_380 rfl ?_
  refine Ey_sld 382 (i + 2) dL_law_381 (hm_ad rfl rfl) (by omega) (by omega) rfl ?_
  refine Ey_callV (M' := MX8_caller) 385 [.int (xs (i + 1)), .int (xs (i + 2))] (rest := []) dL_law_382 lL_35 mX8_caller rfl (xH_0 hc.gX) rfl (Nat.le_of_ble_eq_true rfl) (Nat.le_of_ble_eq_true rfl) rfl ?_
  refine c_caller hc.gX hc.gO hz.1 hc.gH hz.gk ?_
  simp only [Option.toList, List.cons_append, List.nil_append]
  have hc1 := hc
  have hr1 := hr
  refine Ey_aload_n 386 (i := 2) dL_law_385 rfl rfl rfl ?_
  refine Ey_aload_n 387 (i := 0) dL_law_386 rfl rfl rfl ?_
  refine Ey_iload 389 dL_law_387 rfl rfl ?_
  refine Ey_iconst 390 (v := 1) dL_law_389 (by decide) rfl ?_
  refine Ey_iadd 391 dL_law_390 rfl ?_
  refine Ey_sld 392 (i + 1) dL_law_391 (hm_ad rfl rfl) (by omega) (by omega) rfl ?_
  refine Ey_aload_n 393 (i := 0) dL_law_392 rfl rfl rfl ?_
  refine Ey_iload 395 dL_law_393 rfl rfl ?_
  refine Ey_iconst 396 (v := 2) dL_law_395 (by decide) rfl ?_
  refine Ey_iadd 397 dL_law_396 rfl ?_
  refine Ey_sld 398 (i + 2) dL_law_397 (hm_ad rfl rfl) (by omega) (by omega) rfl ?_
  refine Ey_callV (M' := MX9_caller) 401 [.int (xs (i + 1)), .int (xs (i + 2))] (rest := [.int (spCaller (zO Z) (zH Z) (xs (i + 1)) (xs (i + 2)))]) dL_law_398 lL_39 mX9_caller rfl (xMs_0 hr.gX) rfl (Nat.le_of_ble_eq_true rfl) (Nat.le_of_ble_eq_true rfl) rfl ?_
  refine mq_caller hr1.gX hr1.gH hr1.gO hz.1 hz.gk  (fun I2 f2 g2 => ?_)
  simp only [Option.toList, List.cons_append, List.nil_append]
  have hr2 := hr1.mg f2 g2 (fun _ _ => rfl)
  have hc2 := hc1.out (fun x a1 => zmg_lo f2 x (by omega)) (fun _ _ => rfl)
  refine Ey_icmp_eq 404 1304 dL_law_401 (by decide) rfl (fun c1 => ?_) (fun c1 => absurd c1 (not_not_intro rfl))
  exact hK _ _ _ _ _ _ _ _ _ hc2 hr2 (hz.up hb)
set_option maxHeartbeats 4000000 in
theorem lc_met {d kc ks b i s Ln h dk dd pl pd e : Nat} {nm : String} {xs : Nat → Int32} {sh : xSh} {R : xR} {L : xL} {I : xI} {Q : xQ} {Z : hmZ} (hc : zC sh R L I h dk dd pl pd e Z) (hr : zR sh R L I (h + 169) Z) (hz : zOk Z b) (hb : b + 1 ≤ 600) (hi : i + 7 ≤ Ln) (hLn : Ln ≤ 3584) (hK : ∀ (R' : xR) (L' : xL) (I' : xI) (dk' dd' pl' pd' e' : Nat) (Z' : hmZ), zC sh R' L' I' h dk' dd' pl' pd' e' Z' → zR sh R' L' I' (h + 169) Z' → zOk Z' (b + 1) → Ey (xLX s Ln xs) (d + 60) kc ks (Mlaw nm) 0 sh R' L' I' 1304 [some (.ref s), some (.ref h), some (.ref (h + 169)), some (.ref (h + 207)), some (.int (nI i)), none, none] [] Q) : Ey (xLX s Ln xs) (d + 60) kc ks (Mlaw nm) 0 sh R L I 406 [some (.ref s), some (.ref h), some (.ref (h + 169)), some (.ref (h + 207)), some (.int (nI i)), none, none] [] Q := by
  refine Ey_aload_n 407 (i := 1) dL_law_406 rfl rfl rfl ?_
  refine Ey_aload_n 408 (i := 0) dL_law_407 rfl rfl rfl ?_
  refine Ey_iload 410 dL_law_408 rfl rfl ?_
  refine Ey_iconst 411 (v := 1) dL_law_410 (by decide) rfl ?_
  refine Ey_iadd 412 dL_law_411 rfl ?_
  refine Ey_sld 413 (i + 1) dL_law_412 (hm_ad rfl rfl) (by omega) (by omega) rfl ?_
  refine Ey_aload_n 414 (i := 0) dL_law_413 rfl rfl rfl ?_
  refine Ey_iload 416 dL_law_414 rfl rfl ?_
  refine Ey_iconst 417 (v := 2) dL_law_416 (by decide) rfl ?_
  refine Ey_iadd 418 dL_law_417 rfl ?_
  refine Ey_sld 419 (i + 2) dL_law_418 (hm_ad rfl rfl) (by omega) (by omega) rfl ?_
  refine Ey_callV (M' := MX8_met) 422 [.int (xs (i + 1)), .int (xs (i + 2))] (rest := []) dL_law_419 lL_40 mX8_met rfl (xH_0 hc.gX) rfl (Nat.le_of_ble_eq_true rfl) (Nat.le_of_ble_eq_true rfl) rfl ?_
  refine c_met hc.gX hc.gO hz.1 hc.gH hz.gk ?_
  simp only [Option.toList, List.cons_append, List.nil_append]
  have hc1 := hc
  have hr1 := hr
  refine Ey_aload_n 423 (i := 2) dL_law_422 rfl rfl rfl ?_
  refine Ey_aload_n 424 (i := 0) dL_law_423 rfl rfl rfl ?_
  refine Ey_iload 426 dL_law_424 rfl rfl ?_
  refine Ey_iconst 427 (v := 1) dL_law_426 (by decide) rfl ?_
  refine Ey_iadd 428 dL_law_427 rfl ?_
  refine Ey_sld 429 (i + 1) dL_law_428 (hm_ad rfl rfl) (by omega) (by omega) rfl ?_
  refine Ey_aload_n 430 (i := 0) dL_law_429 rfl rfl rfl ?_
  refine Ey_iload 432 dL_law_430 rfl rfl ?_
  refine Ey_iconst 433 (v := 2) dL_law_432 (by decide) rfl ?_
  refine Ey_iadd 434 dL_law_433 rfl ?_
  refine Ey_sld 435 (i + 2) dL_law_434 (hm_ad rfl rfl) (by omega) (by omega) rfl ?_
  refine Ey_callV (M' := MX9_met) 438 [.int (xs (i + 1)), .int (xs (i + 2))] (rest := [.int (spMet (hmN (zO Z)) (zH Z) (xs (i + 1)) (xs (i + 2)))]) dL_law_435 lL_43 mX9_met rfl (xMs_0 hr.gX) rfl (Nat.le_of_ble_eq_true rfl) (Nat.le_of_ble_eq_true rfl) rfl ?_
  refine mq_met hr1.gX hr1.gH hr1.gO hz.1 hz.gk  (fun I2 f2 g2 => ?_)
  simp only [Option.toList, List.cons_append, List.nil_append]
  have hr2 := hr1.mg f2 g2 (fun _ _ => rfl)
  have hc2 := hc1.out (fun x a1 => zmg_lo f2 x (by omega)) (fun _ _ => rfl)
  refine Ey_icmp_eq 441 1304 dL_law_438 (by decide) rfl (fun c1 => ?_) (fun c1 => absurd c1 (not_not_intro rfl))
  exact hK _ _ _ _ _ _ _ _ _ hc2 hr2 (hz.up hb)
set_option maxHeartbeats 4000000 in
theorem lc_line {d kc ks b i s Ln h dk dd pl pd e : Nat} {nm : String} {xs : Nat → Int32} {sh : xSh} {R : xR} {L : xL} {I : xI} {Q : xQ} {Z : hmZ} (hc : zC sh R L I h dk dd pl pd e Z) (hr : zR sh R L I (h + 169) Z) (hz : zOk Z b) (hb : b + 1 ≤ 600) (hi : i + 7 ≤ Ln) (hLn : Ln ≤ 3584) (hK : ∀ (R' : xR) (L' : xL) (I' : xI) (dk' dd' pl' pd' e' : Nat) (Z' : hmZ), zC sh R' L' I' h dk' dd' pl' pd' e' Z' → zR sh R' L' I' (h + 169) Z' → zOk Z' (b + 1) → Ey (xLX s Ln xs) (d + 60) kc ks (Mlaw nm) 0 sh R' L' I' 1304 [some (.ref s), some (.ref h), some (.ref (h + 169)), some (.ref (h + 207)), some (.int (nI i)), none, none] [] Q) : Ey (xLX s Ln xs) (d + 60) kc ks (Mlaw nm) 0 sh R L I 443 [some (.ref s), some (.ref h), some (.ref (h + 169)), some (.ref (h + 207)), some (.int (nI i)), none, none] [] Q := by
  refine Ey_aload_n 444 (i := 1) dL_law_443 rfl rfl rfl ?_
  refine Ey_aload_n 445 (i := 0) dL_law_444 rfl rfl rfl ?_
  refine Ey_iload 447 dL_law_445 rfl rfl ?_
  refine Ey_iconst 448 (v := 1) dL_law_447 (by decide) rfl ?_
  refine Ey_iadd 449 dL_law_448 rfl ?_
  refine Ey_sld 450 (i + 1) dL_law_449 (hm_ad rfl rfl) (by omega) (by omega) rfl ?_
  refine Ey_callV (M' := MX8_line) 453 [.int (xs (i + 1))] (rest := []) dL_law_450 lL_44 mX8_line rfl (xH_0 hc.gX) rfl (Nat.le_of_ble_eq_true rfl) (Nat.le_of_ble_eq_true rfl) rfl ?_
  refine c_line hc.gX hc.gO hz.1 hc.gH hz.gk ?_
  simp only [Option.toList, List.cons_append, List.nil_append]
  have hc1 := hc
  have hr1 := hr
  refine Ey_aload_n 454 (i := 2) dL_law_453 rfl rfl rfl ?_
  refine Ey_aload_n 455 (i := 0) dL_law_454 rfl rfl rfl ?_
  refine Ey_iload 457 dL_law_455 rfl rfl ?_
  refine Ey_iconst 458 (v := 1) dL_law_457 (by decide) rfl ?_
  refine Ey_iadd 459 dL_law_458 rfl ?_
  refine Ey_sld 460 (i + 1) dL_law_459 (hm_ad rfl rfl) (by omega) (by omega) rfl ?_
  refine Ey_callV (M' := MX9_line) 463 [.int (xs (i + 1))] (rest := [.int (spLine (zH Z) (xs (i + 1)))]) dL_law_460 lL_48 mX9_line rfl (xMs_0 hr.gX) rfl (Nat.le_of_ble_eq_true rfl) (Nat.le_of_ble_eq_true rfl) rfl ?_
  refine mq_line hr1.gX hr1.gH hr1.gO hz.1 hz.gk  (fun I2 f2 g2 => ?_)
  simp only [Option.toList, List.cons_append, List.nil_append]
  have hr2 := hr1.mg f2 g2 (fun _ _ => rfl)
  have hc2 := hc1.out (fun x a1 => zmg_lo f2 x (by omega)) (fun _ _ => rfl)
  refine Ey_icmp_eq 466 1304 dL_law_463 (by decide) rfl (fun c1 => ?_) (fun c1 => absurd c1 (not_not_intro rfl))
  exact hK _ _ _ _ _ _ _ _ _ hc2 hr2 (hz.up hb)
set_option maxHeartbeats 4000000 in
theorem lc_judged {d kc ks b i s Ln h dk dd pl pd e : Nat} {nm : String} {xs : Nat → Int32} {sh : xSh} {R : xR} {L : xL} {I : xI} {Q : xQ} {Z : hmZ} (hc : zC sh R L I h dk dd pl pd e Z) (hr : zR sh R L I (h + 169) Z) (hz : zOk Z b) (hb : b + 1 ≤ 600) (hi : i + 7 ≤ Ln) (hLn : Ln ≤ 3584) (hK : ∀ (R' : xR) (L' : xL) (I' : xI) (dk' dd' pl' pd' e' : Nat) (Z' : hmZ), zC sh R' L' I' h dk' dd' pl' pd' e' Z' → zR sh R' L' I' (h + 169) Z' → zOk Z' (b + 1) → Ey (xLX s Ln xs) (d + 60) kc ks (Mlaw nm) 0 sh R' L' I' 1304 [some (.ref s), some (.ref h), some (.ref (h + 169)), some (.ref (h + 207)), some (.int (nI i)), none, none] [] Q) : Ey (xLX s Ln xs) (d + 60) kc ks (Mlaw nm) 0 sh R L I 581 [some (.ref s), some (.ref h), some (.ref (h + 169)), some (.ref (h + 207)), some (.int (nI i)), none, none] [] Q := by
  refine Ey_aload_n 582 (i := 1) dL_law_581 rfl rfl rfl ?_
  refine Ey_aload_n 583 (i := 0) dL_law_582 rfl rfl rfl ?_
  refine Ey_iload 585 dL_law_583 rfl rfl ?_
  refine Ey_iconst 586 (v := 1) dL_law_585 (by decide) rfl ?_
  refine Ey_iadd 587 dL_law_586 rfl ?_
  refine Ey_sld 588 (i + 1) dL_law_587 (hm_ad rfl rfl) (by omega) (by omega) rfl ?_
  refine Ey_callV (M' := MX8_judged) 591 [.int (xs (i + 1))] (rest := []) dL_law_588 lL_72 mX8_judged rfl (xH_0 hc.gX) rfl (Nat.le_of_ble_eq_true rfl) (Nat.le_of_ble_eq_true rfl) rfl ?_
  refine c_judged hc.gX hc.gO hz.1 hc.gD hz.2.2.1 (fun I1 f1 => ?_)
  simp only [Option.toList, List.cons_append, List.nil_append]
  have hc1 := hc.qf f1
  have hr1 := hr.out (fun x a1 a2 => zqf_hi hc f1 x (by omega)) (fun _ _ _ => rfl)
  refine Ey_aload_n 592 (i := 2) dL_law_591 rfl rfl rfl ?_
  refine Ey_aload_n 593 (i := 0) dL_law_592 rfl rfl rfl ?_
  refine Ey_iload 595 dL_law_593 rfl rfl ?_
  refine Ey_iconst 596 (v := 1) dL_law_595 (by decide) rfl ?_
  refine Ey_iadd 597 dL_law_596 rfl ?_
  refine Ey_sld 598 (i + 1) dL_law_597 (hm_ad rfl rfl) (by omega) (by omega) rfl ?_
  refine Ey_callV (M' := MX9_judged) 601 [.int (xs (i + 1))] (rest := [.int (spJudged (zO Z) (zD Z) (xs (i + 1)))]) dL_law_598 lL_75 mX9_judged rfl (xMs_0 hr.gX) rfl (Nat.le_of_ble_eq_true rfl) (Nat.le_of_ble_eq_true rfl) rfl ?_
  refine mq_judged hr1.gX hr1.gH hr1.gO hz.1 hr1.gD hz.2.2.1 hr1.gK (fun I2 f2 g2 => ?_)
  simp only [Option.toList, List.cons_append, List.nil_append]
  have hr2 := hr1.mg f2 g2 (fun _ _ => rfl)
  have hc2 := hc1.out (fun x a1 => zmg_lo f2 x (by omega)) (fun _ _ => rfl)
  refine Ey_icmp_eq 604 1304 dL_law_601 (by decide) rfl (fun c1 => ?_) (fun c1 => absurd c1 (not_not_intro rfl))
  exact hK _ _ _ _ _ _ _ _ _ hc2 hr2 (hz.up hb)
set_option maxHeartbeats 4000000 in
theorem lc_next {d kc ks b i s Ln h dk dd pl pd e : Nat} {nm : String} {xs : Nat → Int32} {sh : xSh} {R : xR} {L : xL} {I : xI} {Q : xQ} {Z : hmZ} (hc : zC sh R L I h dk dd pl pd e Z) (hr : zR sh R L I (h + 169) Z) (hz : zOk Z b) (hb : b + 1 ≤ 600) (hi : i + 7 ≤ Ln) (hLn : Ln ≤ 3584) (hK : ∀ (R' : xR) (L' : xL) (I' : xI) (dk' dd' pl' pd' e' : Nat) (Z' : hmZ), zC sh R' L' I' h dk' dd' pl' pd' e' Z' → zR sh R' L' I' (h + 169) Z' → zOk Z' (b + 1) → Ey (xLX s Ln xs) (d + 60) kc ks (Mlaw nm) 0 sh R' L' I' 1304 [some (.ref s), some (.ref h), some (.ref (h + 169)), some (.ref (h + 207)), some (.int (nI i)), none, none] [] Q) : Ey (xLX s Ln xs) (d + 60) kc ks (Mlaw nm) 0 sh R L I 606 [some (.ref s), some (.ref h), some (.ref (h + 169)), some (.ref (h + 207)), some (.int (nI i)), none, none] [] Q := by
  refine Ey_aload_n 607 (i := 1) dL_law_606 rfl rfl rfl ?_
  refine Ey_aload_n 608 (i := 0) dL_law_607 rfl rfl rfl ?_
  refine Ey_iload 610 dL_law_608 rfl rfl ?_
  refine Ey_iconst 611 (v := 1) dL_law_610 (by decide) rfl ?_
  refine Ey_iadd 612 dL_law_611 rfl ?_
  refine Ey_sld 613 (i + 1) dL_law_612 (hm_ad rfl rfl) (by omega) (by omega) rfl ?_
  refine Ey_callV (M' := MX8_next) 616 [.int (xs (i + 1))] (rest := []) dL_law_613 lL_76 mX8_next rfl (xH_0 hc.gX) rfl (Nat.le_of_ble_eq_true rfl) (Nat.le_of_ble_eq_true rfl) rfl ?_
  refine c_next hc.gX hc.gO hz.1 hc.gH hz.gk ?_
  simp only [Option.toList, List.cons_append, List.nil_append]
  have hc1 := hc
  have hr1 := hr
  refine Ey_aload_n 617 (i := 2) dL_law_616 rfl rfl rfl ?_
  refine Ey_aload_n 618 (i := 0) dL_law_617 rfl rfl rfl ?_
  refine Ey_iload 620 dL_law_618 rfl rfl ?_
  refine Ey_iconst 621 (v := 1) dL_law_620 (by decide) rfl ?_
  refine Ey_iadd 622 dL_law_621 rfl ?_
  refine Ey_sld 623 (i + 1) dL_law_622 (hm_ad rfl rfl) (by omega) (by omega) rfl ?_
  refine Ey_callV (M' := MX9_next) 626 [.int (xs (i + 1))] (rest := [.int (spNext (hmN (zO Z)) (zH Z) (xs (i + 1)))]) dL_law_623 lL_79 mX9_next rfl (xMs_0 hr.gX) rfl (Nat.le_of_ble_eq_true rfl) (Nat.le_of_ble_eq_true rfl) rfl ?_
  refine mq_next hr1.gX hr1.gH hr1.gO hz.1 hz.gk  (fun I2 f2 g2 => ?_)
  simp only [Option.toList, List.cons_append, List.nil_append]
  have hr2 := hr1.mg f2 g2 (fun _ _ => rfl)
  have hc2 := hc1.out (fun x a1 => zmg_lo f2 x (by omega)) (fun _ _ => rfl)
  refine Ey_icmp_eq 629 1304 dL_law_626 (by decide) rfl (fun c1 => ?_) (fun c1 => absurd c1 (not_not_intro rfl))
  exact hK _ _ _ _ _ _ _ _ _ hc2 hr2 (hz.up hb)
set_option maxHeartbeats 4000000 in
theorem lc_when {d kc ks b i s Ln h dk dd pl pd e : Nat} {nm : String} {xs : Nat → Int32} {sh : xSh} {R : xR} {L : xL} {I : xI} {Q : xQ} {Z : hmZ} (hc : zC sh R L I h dk dd pl pd e Z) (hr : zR sh R L I (h + 169) Z) (hz : zOk Z b) (hb : b + 1 ≤ 600) (hi : i + 7 ≤ Ln) (hLn : Ln ≤ 3584) (hK : ∀ (R' : xR) (L' : xL) (I' : xI) (dk' dd' pl' pd' e' : Nat) (Z' : hmZ), zC sh R' L' I' h dk' dd' pl' pd' e' Z' → zR sh R' L' I' (h + 169) Z' → zOk Z' (b + 1) → Ey (xLX s Ln xs) (d + 60) kc ks (Mlaw nm) 0 sh R' L' I' 1304 [some (.ref s), some (.ref h), some (.ref (h + 169)), some (.ref (h + 207)), some (.int (nI i)), none, none] [] Q) : Ey (xLX s Ln xs) (d + 60) kc ks (Mlaw nm) 0 sh R L I 631 [some (.ref s), some (.ref h), some (.ref (h + 169)), some (.ref (h + 207)), some (.int (nI i)), none, none] [] Q := by
  refine Ey_aload_n 632 (i := 1) dL_law_631 rfl rfl rfl ?_
  refine Ey_aload_n 633 (i := 0) dL_law_632 rfl rfl rfl ?_
  refine Ey_iload 635 dL_law_633 rfl rfl ?_
  refine Ey_iconst 636 (v := 1) dL_law_635 (by decide) rfl ?_
  refine Ey_iadd 637 dL_law_636 rfl ?_
  refine Ey_sld 638 (i + 1) dL_law_637 (hm_ad rfl rfl) (by omega) (by omega) rfl ?_
  refine Ey_callV (M' := MX8_when) 641 [.int (xs (i + 1))] (rest := []) dL_law_638 lL_80 mX8_when rfl (xH_0 hc.gX) rfl (Nat.le_of_ble_eq_true rfl) (Nat.le_of_ble_eq_true rfl) rfl ?_
  refine c_when hc.gX hc.gO hz.1 hc.gH hz.gk hz.gmn (fun I1 f1 => ?_)
  simp only [Option.toList, List.cons_append, List.nil_append]
  have hc1 := hc.qf f1
  have hr1 := hr.out (fun x a1 a2 => zqf_hi hc f1 x (by omega)) (fun _ _ _ => rfl)
  refine Ey_aload_n 642 (i := 2) dL_law_641 rfl rfl rfl ?_
  refine Ey_aload_n 643 (i := 0) dL_law_642 rfl rfl rfl ?_
  refine Ey_iload 645 dL_law_643 rfl rfl ?_
  refine Ey_iconst 646 (v := 1) dL_law_645 (by decide) rfl ?_
  refine Ey_iadd 647 dL_law_646 rfl ?_
  refine Ey_sld 648 (i + 1) dL_law_647 (hm_ad rfl rfl) (by omega) (by omega) rfl ?_
  refine Ey_callV (M' := MX9_when) 651 [.int (xs (i + 1))] (rest := [.int (spWhen (zO Z) (zH Z) (xs (i + 1)))]) dL_law_648 lL_83 mX9_when rfl (xMs_0 hr.gX) rfl (Nat.le_of_ble_eq_true rfl) (Nat.le_of_ble_eq_true rfl) rfl ?_
  refine mq_when hr1.gX hr1.gH hr1.gO hz.1 hz.gk hr1.gK hz.gmn (fun I2 f2 g2 => ?_)
  simp only [Option.toList, List.cons_append, List.nil_append]
  have hr2 := hr1.mg f2 g2 (fun _ _ => rfl)
  have hc2 := hc1.out (fun x a1 => zmg_lo f2 x (by omega)) (fun _ _ => rfl)
  refine Ey_icmp_eq 654 1304 dL_law_651 (by decide) rfl (fun c1 => ?_) (fun c1 => absurd c1 (not_not_intro rfl))
  exact hK _ _ _ _ _ _ _ _ _ hc2 hr2 (hz.up hb)
set_option maxHeartbeats 4000000 in
theorem lc_empty {d kc ks b i s Ln h dk dd pl pd e : Nat} {nm : String} {xs : Nat → Int32} {sh : xSh} {R : xR} {L : xL} {I : xI} {Q : xQ} {Z : hmZ} (hc : zC sh R L I h dk dd pl pd e Z) (hr : zR sh R L I (h + 169) Z) (hz : zOk Z b) (hb : b + 1 ≤ 600) (hi : i + 7 ≤ Ln) (hLn : Ln ≤ 3584) (hK : ∀ (R' : xR) (L' : xL) (I' : xI) (dk' dd' pl' pd' e' : Nat) (Z' : hmZ), zC sh R' L' I' h dk' dd' pl' pd' e' Z' → zR sh R' L' I' (h + 169) Z' → zOk Z' (b + 1) → Ey (xLX s Ln xs) (d + 60) kc ks (Mlaw nm) 0 sh R' L' I' 1304 [some (.ref s), some (.ref h), some (.ref (h + 169)), some (.ref (h + 207)), some (.int (nI i)), none, none] [] Q) : Ey (xLX s Ln xs) (d + 60) kc ks (Mlaw nm) 0 sh R L I 656 [some (.ref s), some (.ref h), some (.ref (h + 169)), some (.ref (h + 207)), some (.int (nI i)), none, none] [] Q := by
  refine Ey_aload_n 657 (i := 1) dL_law_656 rfl rfl rfl ?_
  refine Ey_callV (M' := MX8_empty) 660 [] (rest := []) dL_law_657 lL_84 mX8_empty rfl (xH_0 hc.gX) rfl (Nat.le_of_ble_eq_true rfl) (Nat.le_of_ble_eq_true rfl) rfl ?_
  refine c_empty hc.gX hc.gO hz.1 hc.gH hz.gk hz.gmn (fun I1 f1 => ?_)
  simp only [Option.toList, List.cons_append, List.nil_append]
  have hc1 := hc.qf f1
  have hr1 := hr.out (fun x a1 a2 => zqf_hi hc f1 x (by omega)) (fun _ _ _ => rfl)
  refine Ey_aload_n 661 (i := 2) dL_law_660 rfl rfl rfl ?_
  refine Ey_callV (M' := MX9_empty) 664 [] (rest := [.int (spEmpty (zO Z) (zH Z))]) dL_law_661 lL_87 mX9_empty rfl (xMs_0 hr.gX) rfl (Nat.le_of_ble_eq_true rfl) (Nat.le_of_ble_eq_true rfl) rfl ?_
  refine mq_empty hr1.gX hr1.gH hr1.gO hz.1 hz.gk hr1.gK hz.gmn (fun I2 f2 g2 => ?_)
  simp only [Option.toList, List.cons_append, List.nil_append]
  have hr2 := hr1.mg f2 g2 (fun _ _ => rfl)
  have hc2 := hc1.out (fun x a1 => zmg_lo f2 x (by omega)) (fun _ _ => rfl)
  refine Ey_icmp_eq 667 1304 dL_law_664 (by decide) rfl (fun c1 => ?_) (fun c1 => absurd c1 (not_not_intro rfl))
  exact hK _ _ _ _ _ _ _ _ _ hc2 hr2 (hz.up hb)
set_option maxHeartbeats 4000000 in
theorem lc_meets {d kc ks b i s Ln h dk dd pl pd e : Nat} {nm : String} {xs : Nat → Int32} {sh : xSh} {R : xR} {L : xL} {I : xI} {Q : xQ} {Z : hmZ} (hc : zC sh R L I h dk dd pl pd e Z) (hr : zR sh R L I (h + 169) Z) (hz : zOk Z b) (hb : b + 1 ≤ 600) (hi : i + 7 ≤ Ln) (hLn : Ln ≤ 3584) (hK : ∀ (R' : xR) (L' : xL) (I' : xI) (dk' dd' pl' pd' e' : Nat) (Z' : hmZ), zC sh R' L' I' h dk' dd' pl' pd' e' Z' → zR sh R' L' I' (h + 169) Z' → zOk Z' (b + 1) → Ey (xLX s Ln xs) (d + 60) kc ks (Mlaw nm) 0 sh R' L' I' 1304 [some (.ref s), some (.ref h), some (.ref (h + 169)), some (.ref (h + 207)), some (.int (nI i)), none, none] [] Q) : Ey (xLX s Ln xs) (d + 60) kc ks (Mlaw nm) 0 sh R L I 669 [some (.ref s), some (.ref h), some (.ref (h + 169)), some (.ref (h + 207)), some (.int (nI i)), none, none] [] Q := by
  refine Ey_aload_n 670 (i := 1) dL_law_669 rfl rfl rfl ?_
  refine Ey_aload_n 671 (i := 0) dL_law_670 rfl rfl rfl ?_
  refine Ey_iload 673 dL_law_671 rfl rfl ?_
  refine Ey_iconst 674 (v := 1) dL_law_673 (by decide) rfl ?_
  refine Ey_iadd 675 dL_law_674 rfl ?_
  refine Ey_sld 676 (i + 1) dL_law_675 (hm_ad rfl rfl) (by omega) (by omega) rfl ?_
  refine Ey_aload_n 677 (i := 0) dL_law_676 rfl rfl rfl ?_
  refine Ey_iload 679 dL_law_677 rfl rfl ?_
  refine Ey_iconst 680 (v := 2) dL_law_679 (by decide) rfl ?_
  refine Ey_iadd 681 dL_law_680 rfl ?_
  refine Ey_sld 682 (i + 2) dL_law_681 (hm_ad rfl rfl) (by omega) (by omega) rfl ?_
  refine Ey_callV (M' := MX8_meets) 685 [.int (xs (i + 1)), .int (xs (i + 2))] (rest := []) dL_law_682 lL_88 mX8_meets rfl (xH_0 hc.gX) rfl (Nat.le_of_ble_eq_true rfl) (Nat.le_of_ble_eq_true rfl) rfl ?_
  refine c_meets hc.gX hc.gO hz.1 hc.gH hz.gk hz.gmn hz.gtb (fun I1 f1 => ?_)
  simp only [Option.toList, List.cons_append, List.nil_append]
  have hc1 := hc.qf f1
  have hr1 := hr.out (fun x a1 a2 => zqf_hi hc f1 x (by omega)) (fun _ _ _ => rfl)
  refine Ey_aload_n 686 (i := 2) dL_law_685 rfl rfl rfl ?_
  refine Ey_aload_n 687 (i := 0) dL_law_686 rfl rfl rfl ?_
  refine Ey_iload 689 dL_law_687 rfl rfl ?_
  refine Ey_iconst 690 (v := 1) dL_law_689 (by decide) rfl ?_
  refine Ey_iadd 691 dL_law_690 rfl ?_
  refine Ey_sld 692 (i + 1) dL_law_691 (hm_ad rfl rfl) (by omega) (by omega) rfl ?_
  refine Ey_aload_n 693 (i := 0) dL_law_692 rfl rfl rfl ?_
  refine Ey_iload 695 dL_law_693 rfl rfl ?_
  refine Ey_iconst 696 (v := 2) dL_law_695 (by decide) rfl ?_
  refine Ey_iadd 697 dL_law_696 rfl ?_
  refine Ey_sld 698 (i + 2) dL_law_697 (hm_ad rfl rfl) (by omega) (by omega) rfl ?_
  refine Ey_callV (M' := MX9_meets) 701 [.int (xs (i + 1)), .int (xs (i + 2))] (rest := [.int (spMeets (zO Z) (zH Z) (xs (i + 1)) (xs (i + 2)))]) dL_law_698 lL_91 mX9_meets rfl (xMs_0 hr.gX) rfl (Nat.le_of_ble_eq_true rfl) (Nat.le_of_ble_eq_true rfl) rfl ?_
  refine mq_meets hr1.gX hr1.gH hr1.gO hz.1 hz.gk hr1.gK hz.gmn hz.gtb (fun I2 f2 g2 => ?_)
  simp only [Option.toList, List.cons_append, List.nil_append]
  have hr2 := hr1.mg f2 g2 (fun _ _ => rfl)
  have hc2 := hc1.out (fun x a1 => zmg_lo f2 x (by omega)) (fun _ _ => rfl)
  refine Ey_icmp_eq 704 1304 dL_law_701 (by decide) rfl (fun c1 => ?_) (fun c1 => absurd c1 (not_not_intro rfl))
  exact hK _ _ _ _ _ _ _ _ _ hc2 hr2 (hz.up hb)
set_option maxHeartbeats 4000000 in
theorem lc_spread {d kc ks b i s Ln h dk dd pl pd e : Nat} {nm : String} {xs : Nat → Int32} {sh : xSh} {R : xR} {L : xL} {I : xI} {Q : xQ} {Z : hmZ} (hc : zC sh R L I h dk dd pl pd e Z) (hr : zR sh R L I (h + 169) Z) (hz : zOk Z b) (hb : b + 1 ≤ 600) (hi : i + 7 ≤ Ln) (hLn : Ln ≤ 3584) (hK : ∀ (R' : xR) (L' : xL) (I' : xI) (dk' dd' pl' pd' e' : Nat) (Z' : hmZ), zC sh R' L' I' h dk' dd' pl' pd' e' Z' → zR sh R' L' I' (h + 169) Z' → zOk Z' (b + 1) → Ey (xLX s Ln xs) (d + 60) kc ks (Mlaw nm) 0 sh R' L' I' 1304 [some (.ref s), some (.ref h), some (.ref (h + 169)), some (.ref (h + 207)), some (.int (nI i)), none, none] [] Q) : Ey (xLX s Ln xs) (d + 60) kc ks (Mlaw nm) 0 sh R L I 706 [some (.ref s), some (.ref h), some (.ref (h + 169)), some (.ref (h + 207)), some (.int (nI i)), none, none] [] Q := by
  refine Ey_aload_n 707 (i := 1) dL_law_706 rfl rfl rfl ?_
  refine Ey_aload_n 708 (i := 0) dL_law_707 rfl rfl rfl ?_
  refine Ey_iload 710 dL_law_708 rfl rfl ?_
  refine Ey_iconst 711 (v := 1) dL_law_710 (by decide) rfl ?_
  refine Ey_iadd 712 dL_law_711 rfl ?_
  refine Ey_sld 713 (i + 1) dL_law_712 (hm_ad rfl rfl) (by omega) (by omega) rfl ?_
  refine Ey_callV (M' := MX8_spread) 716 [.int (xs (i + 1))] (rest := []) dL_law_713 lL_92 mX8_spread rfl (xH_0 hc.gX) rfl (Nat.le_of_ble_eq_true rfl) (Nat.le_of_ble_eq_true rfl) rfl ?_
  refine c_spread hc.gX hc.gO hz.1 hc.gH hz.gk hz.gmn (fun I1 f1 => ?_)
  simp only [Option.toList, List.cons_append, List.nil_append]
  have hc1 := hc.qf f1
  have hr1 := hr.out (fun x a1 a2 => zqf_hi hc f1 x (by omega)) (fun _ _ _ => rfl)
  refine Ey_aload_n 717 (i := 2) dL_law_716 rfl rfl rfl ?_
  refine Ey_aload_n 718 (i := 0) dL_law_717 rfl rfl rfl ?_
  refine Ey_iload 720 dL_law_718 rfl rfl ?_
  refine Ey_iconst 721 (v := 1) dL_law_720 (by decide) rfl ?_
  refine Ey_iadd 722 dL_law_721 rfl ?_
  refine Ey_sld 723 (i + 1) dL_law_722 (hm_ad rfl rfl) (by omega) (by omega) rfl ?_
  refine Ey_callV (M' := MX9_spread) 726 [.int (xs (i + 1))] (rest := [.int (spSpread (zO Z) (zH Z) (xs (i + 1)))]) dL_law_723 lL_95 mX9_spread rfl (xMs_0 hr.gX) rfl (Nat.le_of_ble_eq_true rfl) (Nat.le_of_ble_eq_true rfl) rfl ?_
  refine mq_spread hr1.gX hr1.gH hr1.gO hz.1 hz.gk hr1.gK hz.gmn (fun I2 f2 g2 => ?_)
  simp only [Option.toList, List.cons_append, List.nil_append]
  have hr2 := hr1.mg f2 g2 (fun _ _ => rfl)
  have hc2 := hc1.out (fun x a1 => zmg_lo f2 x (by omega)) (fun _ _ => rfl)
  refine Ey_icmp_eq 729 1304 dL_law_726 (by decide) rfl (fun c1 => ?_) (fun c1 => absurd c1 (not_not_intro rfl))
  exact hK _ _ _ _ _ _ _ _ _ hc2 hr2 (hz.up hb)
set_option maxHeartbeats 4000000 in
theorem lc_order {d kc ks b i s Ln h dk dd pl pd e : Nat} {nm : String} {xs : Nat → Int32} {sh : xSh} {R : xR} {L : xL} {I : xI} {Q : xQ} {Z : hmZ} (hc : zC sh R L I h dk dd pl pd e Z) (hr : zR sh R L I (h + 169) Z) (hz : zOk Z b) (hb : b + 1 ≤ 600) (hi : i + 7 ≤ Ln) (hLn : Ln ≤ 3584) (hK : ∀ (R' : xR) (L' : xL) (I' : xI) (dk' dd' pl' pd' e' : Nat) (Z' : hmZ), zC sh R' L' I' h dk' dd' pl' pd' e' Z' → zR sh R' L' I' (h + 169) Z' → zOk Z' (b + 1) → Ey (xLX s Ln xs) (d + 60) kc ks (Mlaw nm) 0 sh R' L' I' 1304 [some (.ref s), some (.ref h), some (.ref (h + 169)), some (.ref (h + 207)), some (.int (nI i)), none, none] [] Q) : Ey (xLX s Ln xs) (d + 60) kc ks (Mlaw nm) 0 sh R L I 731 [some (.ref s), some (.ref h), some (.ref (h + 169)), some (.ref (h + 207)), some (.int (nI i)), none, none] [] Q := by
  refine Ey_aload_n 732 (i := 1) dL_law_731 rfl rfl rfl ?_
  refine Ey_aload_n 733 (i := 0) dL_law_732 rfl rfl rfl ?_
  refine Ey_iload 735 dL_law_733 rfl rfl ?_
  refine Ey_iconst 736 (v := 1) dL_law_735 (by decide) rfl ?_
  refine Ey_iadd 737 dL_law_736 rfl ?_
  refine Ey_sld 738 (i + 1) dL_law_737 (hm_ad rfl rfl) (by omega) (by omega) rfl ?_
  refine Ey_callV (M' := MX8_order) 741 [.int (xs (i + 1))] (rest := []) dL_law_738 lL_96 mX8_order rfl (xH_0 hc.gX) rfl (Nat.le_of_ble_eq_true rfl) (Nat.le_of_ble_eq_true rfl) rfl ?_
  refine c_order hc.gX hc.gO hz.1 hc.gH hz.gk hz.gmn hz.gsb hc.gC (fun I1 f1 f1c => ?_)
  simp only [Option.toList, List.cons_append, List.nil_append]
  have hc1 := hc.of f1 f1c
  have hr1 := hr.out (fun x a1 a2 => zof_hi hc f1 x (by omega)) (fun _ _ _ => rfl)
  refine Ey_aload_n 742 (i := 2) dL_law_741 rfl rfl rfl ?_
  refine Ey_aload_n 743 (i := 0) dL_law_742 rfl rfl rfl ?_
  refine Ey_iload 745 dL_law_743 rfl rfl ?_
  refine Ey_iconst 746 (v := 1) dL_law_745 (by decide) rfl ?_
  refine Ey_iadd 747 dL_law_746 rfl ?_
  refine Ey_sld 748 (i + 1) dL_law_747 (hm_ad rfl rfl) (by omega) (by omega) rfl ?_
  refine Ey_callV (M' := MX9_order) 751 [.int (xs (i + 1))] (rest := [.int (spOrder (zO Z) (zH Z) (xs (i + 1)))]) dL_law_748 lL_99 mX9_order rfl (xMs_0 hr.gX) rfl (Nat.le_of_ble_eq_true rfl) (Nat.le_of_ble_eq_true rfl) rfl ?_
  refine mq_order hr1.gX hr1.gH hr1.gO hz.1 hz.gk hr1.gK hz.gmn (fun I2 f2 g2 => ?_)
  simp only [Option.toList, List.cons_append, List.nil_append]
  have hr2 := hr1.mg f2 g2 (fun _ _ => rfl)
  have hc2 := hc1.out (fun x a1 => zmg_lo f2 x (by omega)) (fun _ _ => rfl)
  refine Ey_icmp_eq 754 1304 dL_law_751 (by decide) rfl (fun c1 => ?_) (fun c1 => absurd c1 (not_not_intro rfl))
  exact hK _ _ _ _ _ _ _ _ _ hc2 hr2 (hz.up hb)
set_option maxHeartbeats 4000000 in
theorem lc_helpers {d kc ks b i s Ln h dk dd pl pd e : Nat} {nm : String} {xs : Nat → Int32} {sh : xSh} {R : xR} {L : xL} {I : xI} {Q : xQ} {Z : hmZ} (hc : zC sh R L I h dk dd pl pd e Z) (hr : zR sh R L I (h + 169) Z) (hz : zOk Z b) (hb : b + 1 ≤ 600) (hi : i + 7 ≤ Ln) (hLn : Ln ≤ 3584) (hK : ∀ (R' : xR) (L' : xL) (I' : xI) (dk' dd' pl' pd' e' : Nat) (Z' : hmZ), zC sh R' L' I' h dk' dd' pl' pd' e' Z' → zR sh R' L' I' (h + 169) Z' → zOk Z' (b + 1) → Ey (xLX s Ln xs) (d + 60) kc ks (Mlaw nm) 0 sh R' L' I' 1304 [some (.ref s), some (.ref h), some (.ref (h + 169)), some (.ref (h + 207)), some (.int (nI i)), none, none] [] Q) : Ey (xLX s Ln xs) (d + 60) kc ks (Mlaw nm) 0 sh R L I 756 [some (.ref s), some (.ref h), some (.ref (h + 169)), some (.ref (h + 207)), some (.int (nI i)), none, none] [] Q := by
  refine Ey_aload_n 757 (i := 1) dL_law_756 rfl rfl rfl ?_
  refine Ey_aload_n 758 (i := 0) dL_law_757 rfl rfl rfl ?_
  refine Ey_iload 760 dL_law_758 rfl rfl ?_
  refine Ey_iconst 761 (v := 1) dL_law_760 (by decide) rfl ?_
  refine Ey_iadd 762 dL_law_761 rfl ?_
  refine Ey_sld 763 (i + 1) dL_law_762 (hm_ad rfl rfl) (by omega) (by omega) rfl ?_
  refine Ey_callV (M' := MX8_helpers) 766 [.int (xs (i + 1))] (rest := []) dL_law_763 lL_100 mX8_helpers rfl (xH_0 hc.gX) rfl (Nat.le_of_ble_eq_true rfl) (Nat.le_of_ble_eq_true rfl) rfl ?_
  refine c_helpers hc.gX hc.gO hz.1 hc.gH hz.gk hz.gmn (fun I1 f1 => ?_)
  simp only [Option.toList, List.cons_append, List.nil_append]
  have hc1 := hc.qf f1
  have hr1 := hr.out (fun x a1 a2 => zqf_hi hc f1 x (by omega)) (fun _ _ _ => rfl)
  refine Ey_aload_n 767 (i := 2) dL_law_766 rfl rfl rfl ?_
  refine Ey_aload_n 768 (i := 0) dL_law_767 rfl rfl rfl ?_
  refine Ey_iload 770 dL_law_768 rfl rfl ?_
  refine Ey_iconst 771 (v := 1) dL_law_770 (by decide) rfl ?_
  refine Ey_iadd 772 dL_law_771 rfl ?_
  refine Ey_sld 773 (i + 1) dL_law_772 (hm_ad rfl rfl) (by omega) (by omega) rfl ?_
  refine Ey_callV (M' := MX9_helpers) 776 [.int (xs (i + 1))] (rest := [.int (spHelpers (zO Z) (zH Z) (xs (i + 1)))]) dL_law_773 lL_103 mX9_helpers rfl (xMs_0 hr.gX) rfl (Nat.le_of_ble_eq_true rfl) (Nat.le_of_ble_eq_true rfl) rfl ?_
  refine mq_helpers hr1.gX hr1.gH hr1.gO hz.1 hz.gk hr1.gK hz.gmn (fun I2 f2 g2 => ?_)
  simp only [Option.toList, List.cons_append, List.nil_append]
  have hr2 := hr1.mg f2 g2 (fun _ _ => rfl)
  have hc2 := hc1.out (fun x a1 => zmg_lo f2 x (by omega)) (fun _ _ => rfl)
  refine Ey_icmp_eq 779 1304 dL_law_776 (by decide) rfl (fun c1 => ?_) (fun c1 => absurd c1 (not_not_intro rfl))
  exact hK _ _ _ _ _ _ _ _ _ hc2 hr2 (hz.up hb)
set_option maxHeartbeats 4000000 in
theorem lc_gone {d kc ks b i s Ln h dk dd pl pd e : Nat} {nm : String} {xs : Nat → Int32} {sh : xSh} {R : xR} {L : xL} {I : xI} {Q : xQ} {Z : hmZ} (hc : zC sh R L I h dk dd pl pd e Z) (hr : zR sh R L I (h + 169) Z) (hz : zOk Z b) (hb : b + 1 ≤ 600) (hi : i + 7 ≤ Ln) (hLn : Ln ≤ 3584) (hK : ∀ (R' : xR) (L' : xL) (I' : xI) (dk' dd' pl' pd' e' : Nat) (Z' : hmZ), zC sh R' L' I' h dk' dd' pl' pd' e' Z' → zR sh R' L' I' (h + 169) Z' → zOk Z' (b + 1) → Ey (xLX s Ln xs) (d + 60) kc ks (Mlaw nm) 0 sh R' L' I' 1304 [some (.ref s), some (.ref h), some (.ref (h + 169)), some (.ref (h + 207)), some (.int (nI i)), none, none] [] Q) : Ey (xLX s Ln xs) (d + 60) kc ks (Mlaw nm) 0 sh R L I 781 [some (.ref s), some (.ref h), some (.ref (h + 169)), some (.ref (h + 207)), some (.int (nI i)), none, none] [] Q := by
  refine Ey_aload_n 782 (i := 1) dL_law_781 rfl rfl rfl ?_
  refine Ey_aload_n 783 (i := 0) dL_law_782 rfl rfl rfl ?_
  refine Ey_iload 785 dL_law_783 rfl rfl ?_
  refine Ey_iconst 786 (v := 1) dL_law_785 (by decide) rfl ?_
  refine Ey_iadd 787 dL_law_786 rfl ?_
  refine Ey_sld 788 (i + 1) dL_law_787 (hm_ad rfl rfl) (by omega) (by omega) rfl ?_
  refine Ey_callV (M' := MX8_gone) 791 [.int (xs (i + 1))] (rest := []) dL_law_788 lL_104 mX8_gone rfl (xH_0 hc.gX) rfl (Nat.le_of_ble_eq_true rfl) (Nat.le_of_ble_eq_true rfl) rfl ?_
  refine c_gone hc.gX hc.gO hz.1 hc.gH hz.gk hz.gmn (fun I1 f1 => ?_)
  simp only [Option.toList, List.cons_append, List.nil_append]
  have hc1 := hc.qf f1
  have hr1 := hr.out (fun x a1 a2 => zqf_hi hc f1 x (by omega)) (fun _ _ _ => rfl)
  refine Ey_aload_n 792 (i := 2) dL_law_791 rfl rfl rfl ?_
  refine Ey_aload_n 793 (i := 0) dL_law_792 rfl rfl rfl ?_
  refine Ey_iload 795 dL_law_793 rfl rfl ?_
  refine Ey_iconst 796 (v := 1) dL_law_795 (by decide) rfl ?_
  refine Ey_iadd 797 dL_law_796 rfl ?_
  refine Ey_sld 798 (i + 1) dL_law_797 (hm_ad rfl rfl) (by omega) (by omega) rfl ?_
  refine Ey_callV (M' := MX9_gone) 801 [.int (xs (i + 1))] (rest := [.int (spGone (zO Z) (zH Z) (xs (i + 1)))]) dL_law_798 lL_107 mX9_gone rfl (xMs_0 hr.gX) rfl (Nat.le_of_ble_eq_true rfl) (Nat.le_of_ble_eq_true rfl) rfl ?_
  refine mq_gone hr1.gX hr1.gH hr1.gO hz.1 hz.gk hr1.gK hz.gmn (fun I2 f2 g2 => ?_)
  simp only [Option.toList, List.cons_append, List.nil_append]
  have hr2 := hr1.mg f2 g2 (fun _ _ => rfl)
  have hc2 := hc1.out (fun x a1 => zmg_lo f2 x (by omega)) (fun _ _ => rfl)
  refine Ey_icmp_eq 804 1304 dL_law_801 (by decide) rfl (fun c1 => ?_) (fun c1 => absurd c1 (not_not_intro rfl))
  exact hK _ _ _ _ _ _ _ _ _ hc2 hr2 (hz.up hb)
set_option maxHeartbeats 4000000 in
theorem lc_holders {d kc ks b i s Ln h dk dd pl pd e : Nat} {nm : String} {xs : Nat → Int32} {sh : xSh} {R : xR} {L : xL} {I : xI} {Q : xQ} {Z : hmZ} (hc : zC sh R L I h dk dd pl pd e Z) (hr : zR sh R L I (h + 169) Z) (hz : zOk Z b) (hb : b + 1 ≤ 600) (hi : i + 7 ≤ Ln) (hLn : Ln ≤ 3584) (hK : ∀ (R' : xR) (L' : xL) (I' : xI) (dk' dd' pl' pd' e' : Nat) (Z' : hmZ), zC sh R' L' I' h dk' dd' pl' pd' e' Z' → zR sh R' L' I' (h + 169) Z' → zOk Z' (b + 1) → Ey (xLX s Ln xs) (d + 60) kc ks (Mlaw nm) 0 sh R' L' I' 1304 [some (.ref s), some (.ref h), some (.ref (h + 169)), some (.ref (h + 207)), some (.int (nI i)), none, none] [] Q) : Ey (xLX s Ln xs) (d + 60) kc ks (Mlaw nm) 0 sh R L I 806 [some (.ref s), some (.ref h), some (.ref (h + 169)), some (.ref (h + 207)), some (.int (nI i)), none, none] [] Q := by
  refine Ey_aload_n 807 (i := 1) dL_law_806 rfl rfl rfl ?_
  refine Ey_aload_n 808 (i := 0) dL_law_807 rfl rfl rfl ?_
  refine Ey_iload 810 dL_law_808 rfl rfl ?_
  refine Ey_iconst 811 (v := 1) dL_law_810 (by decide) rfl ?_
  refine Ey_iadd 812 dL_law_811 rfl ?_
  refine Ey_sld 813 (i + 1) dL_law_812 (hm_ad rfl rfl) (by omega) (by omega) rfl ?_
  refine Ey_callV (M' := MX8_holders) 816 [.int (xs (i + 1))] (rest := []) dL_law_813 lL_108 mX8_holders rfl (xH_0 hc.gX) rfl (Nat.le_of_ble_eq_true rfl) (Nat.le_of_ble_eq_true rfl) rfl ?_
  refine c_holders hc.gX hc.gO hz.1 hc.gH hz.gk ?_
  simp only [Option.toList, List.cons_append, List.nil_append]
  have hc1 := hc
  have hr1 := hr
  refine Ey_aload_n 817 (i := 2) dL_law_816 rfl rfl rfl ?_
  refine Ey_aload_n 818 (i := 0) dL_law_817 rfl rfl rfl ?_
  refine Ey_iload 820 dL_law_818 rfl rfl ?_
  refine Ey_iconst 821 (v := 1) dL_law_820 (by decide) rfl ?_
  refine Ey_iadd 822 dL_law_821 rfl ?_
  refine Ey_sld 823 (i + 1) dL_law_822 (hm_ad rfl rfl) (by omega) (by omega) rfl ?_
  refine Ey_callV (M' := MX9_holders) 826 [.int (xs (i + 1))] (rest := [.int (spHolders (hmN (zO Z)) (zH Z) (xs (i + 1)))]) dL_law_823 lL_111 mX9_holders rfl (xMs_0 hr.gX) rfl (Nat.le_of_ble_eq_true rfl) (Nat.le_of_ble_eq_true rfl) rfl ?_
  refine mq_holders hr1.gX hr1.gH hr1.gO hz.1 hz.gk  (fun I2 f2 g2 => ?_)
  simp only [Option.toList, List.cons_append, List.nil_append]
  have hr2 := hr1.mg f2 g2 (fun _ _ => rfl)
  have hc2 := hc1.out (fun x a1 => zmg_lo f2 x (by omega)) (fun _ _ => rfl)
  refine Ey_icmp_eq 829 1304 dL_law_826 (by decide) rfl (fun c1 => ?_) (fun c1 => absurd c1 (not_not_intro rfl))
  exact hK _ _ _ _ _ _ _ _ _ hc2 hr2 (hz.up hb)
set_option maxHeartbeats 4000000 in
theorem lc_hears {d kc ks b i s Ln h dk dd pl pd e : Nat} {nm : String} {xs : Nat → Int32} {sh : xSh} {R : xR} {L : xL} {I : xI} {Q : xQ} {Z : hmZ} (hc : zC sh R L I h dk dd pl pd e Z) (hr : zR sh R L I (h + 169) Z) (hz : zOk Z b) (hb : b + 1 ≤ 600) (hi : i + 7 ≤ Ln) (hLn : Ln ≤ 3584) (hK : ∀ (R' : xR) (L' : xL) (I' : xI) (dk' dd' pl' pd' e' : Nat) (Z' : hmZ), zC sh R' L' I' h dk' dd' pl' pd' e' Z' → zR sh R' L' I' (h + 169) Z' → zOk Z' (b + 1) → Ey (xLX s Ln xs) (d + 60) kc ks (Mlaw nm) 0 sh R' L' I' 1304 [some (.ref s), some (.ref h), some (.ref (h + 169)), some (.ref (h + 207)), some (.int (nI i)), none, none] [] Q) : Ey (xLX s Ln xs) (d + 60) kc ks (Mlaw nm) 0 sh R L I 831 [some (.ref s), some (.ref h), some (.ref (h + 169)), some (.ref (h + 207)), some (.int (nI i)), none, none] [] Q := by
  refine Ey_aload_n 832 (i := 1) dL_law_831 rfl rfl rfl ?_
  refine Ey_aload_n 833 (i := 0) dL_law_832 rfl rfl rfl ?_
  refine Ey_iload 835 dL_law_833 rfl rfl ?_
  refine Ey_iconst 836 (v := 1) dL_law_835 (by decide) rfl ?_
  refine Ey_iadd 837 dL_law_836 rfl ?_
  refine Ey_sld 838 (i + 1) dL_law_837 (hm_ad rfl rfl) (by omega) (by omega) rfl ?_
  refine Ey_aload_n 839 (i := 0) dL_law_838 rfl rfl rfl ?_
  refine Ey_iload 841 dL_law_839 rfl rfl ?_
  refine Ey_iconst 842 (v := 2) dL_law_841 (by decide) rfl ?_
  refine Ey_iadd 843 dL_law_842 rfl ?_
  refine Ey_sld 844 (i + 2) dL_law_843 (hm_ad rfl rfl) (by omega) (by omega) rfl ?_
  refine Ey_callV (M' := MX8_hears) 847 [.int (xs (i + 1)), .int (xs (i + 2))] (rest := []) dL_law_844 lL_112 mX8_hears rfl (xH_0 hc.gX) rfl (Nat.le_of_ble_eq_true rfl) (Nat.le_of_ble_eq_true rfl) rfl ?_
  refine c_hears hc.gX hc.gO hz.1 hc.gH hz.gk (fun I1 f1 => ?_)
  simp only [Option.toList, List.cons_append, List.nil_append]
  have hc1 := hc.qf f1
  have hr1 := hr.out (fun x a1 a2 => zqf_hi hc f1 x (by omega)) (fun _ _ _ => rfl)
  refine Ey_aload_n 848 (i := 2) dL_law_847 rfl rfl rfl ?_
  refine Ey_aload_n 849 (i := 0) dL_law_848 rfl rfl rfl ?_
  refine Ey_iload 851 dL_law_849 rfl rfl ?_
  refine Ey_iconst 852 (v := 1) dL_law_851 (by decide) rfl ?_
  refine Ey_iadd 853 dL_law_852 rfl ?_
  refine Ey_sld 854 (i + 1) dL_law_853 (hm_ad rfl rfl) (by omega) (by omega) rfl ?_
  refine Ey_aload_n 855 (i := 0) dL_law_854 rfl rfl rfl ?_
  refine Ey_iload 857 dL_law_855 rfl rfl ?_
  refine Ey_iconst 858 (v := 2) dL_law_857 (by decide) rfl ?_
  refine Ey_iadd 859 dL_law_858 rfl ?_
  refine Ey_sld 860 (i + 2) dL_law_859 (hm_ad rfl rfl) (by omega) (by omega) rfl ?_
  refine Ey_callV (M' := MX9_hears) 863 [.int (xs (i + 1)), .int (xs (i + 2))] (rest := [.int (spHears (zO Z) (zH Z) (xs (i + 1)) (xs (i + 2)))]) dL_law_860 lL_115 mX9_hears rfl (xMs_0 hr.gX) rfl (Nat.le_of_ble_eq_true rfl) (Nat.le_of_ble_eq_true rfl) rfl ?_
  refine mq_hears hr1.gX hr1.gH hr1.gO hz.1 hz.gk  (fun I2 f2 g2 => ?_)
  simp only [Option.toList, List.cons_append, List.nil_append]
  have hr2 := hr1.mg f2 g2 (fun _ _ => rfl)
  have hc2 := hc1.out (fun x a1 => zmg_lo f2 x (by omega)) (fun _ _ => rfl)
  refine Ey_icmp_eq 866 1304 dL_law_863 (by decide) rfl (fun c1 => ?_) (fun c1 => absurd c1 (not_not_intro rfl))
  exact hK _ _ _ _ _ _ _ _ _ hc2 hr2 (hz.up hb)
set_option maxHeartbeats 4000000 in
theorem lc_deal {d kc ks b i s Ln h dk dd pl pd e : Nat} {nm : String} {xs : Nat → Int32} {sh : xSh} {R : xR} {L : xL} {I : xI} {Q : xQ} {Z : hmZ} (hc : zC sh R L I h dk dd pl pd e Z) (hr : zR sh R L I (h + 169) Z) (hz : zOk Z b) (hb : b + 1 ≤ 600) (hi : i + 7 ≤ Ln) (hLn : Ln ≤ 3584) (hK : ∀ (R' : xR) (L' : xL) (I' : xI) (dk' dd' pl' pd' e' : Nat) (Z' : hmZ), zC sh R' L' I' h dk' dd' pl' pd' e' Z' → zR sh R' L' I' (h + 169) Z' → zOk Z' (b + 1) → Ey (xLX s Ln xs) (d + 60) kc ks (Mlaw nm) 0 sh R' L' I' 1304 [some (.ref s), some (.ref h), some (.ref (h + 169)), some (.ref (h + 207)), some (.int (nI i)), none, none] [] Q) : Ey (xLX s Ln xs) (d + 60) kc ks (Mlaw nm) 0 sh R L I 868 [some (.ref s), some (.ref h), some (.ref (h + 169)), some (.ref (h + 207)), some (.int (nI i)), none, none] [] Q := by
  refine Ey_aload_n 869 (i := 1) dL_law_868 rfl rfl rfl ?_
  refine Ey_aload_n 870 (i := 0) dL_law_869 rfl rfl rfl ?_
  refine Ey_iload 872 dL_law_870 rfl rfl ?_
  refine Ey_iconst 873 (v := 1) dL_law_872 (by decide) rfl ?_
  refine Ey_iadd 874 dL_law_873 rfl ?_
  refine Ey_sld 875 (i + 1) dL_law_874 (hm_ad rfl rfl) (by omega) (by omega) rfl ?_
  refine Ey_callV (M' := MX8_deal) 878 [.int (xs (i + 1))] (rest := []) dL_law_875 lL_116 mX8_deal rfl (xH_0 hc.gX) rfl (Nat.le_of_ble_eq_true rfl) (Nat.le_of_ble_eq_true rfl) rfl ?_
  refine c_deal hc.gX hc.gO hz.1 hc.gH hz.gk hz.gmn (fun I1 f1 => ?_)
  simp only [Option.toList, List.cons_append, List.nil_append]
  have hc1 := hc.qf f1
  have hr1 := hr.out (fun x a1 a2 => zqf_hi hc f1 x (by omega)) (fun _ _ _ => rfl)
  refine Ey_aload_n 879 (i := 2) dL_law_878 rfl rfl rfl ?_
  refine Ey_aload_n 880 (i := 0) dL_law_879 rfl rfl rfl ?_
  refine Ey_iload 882 dL_law_880 rfl rfl ?_
  refine Ey_iconst 883 (v := 1) dL_law_882 (by decide) rfl ?_
  refine Ey_iadd 884 dL_law_883 rfl ?_
  refine Ey_sld 885 (i + 1) dL_law_884 (hm_ad rfl rfl) (by omega) (by omega) rfl ?_
  refine Ey_callV (M' := MX9_deal) 888 [.int (xs (i + 1))] (rest := [.int (spDeal (zO Z) (zH Z) (xs (i + 1)))]) dL_law_885 lL_119 mX9_deal rfl (xMs_0 hr.gX) rfl (Nat.le_of_ble_eq_true rfl) (Nat.le_of_ble_eq_true rfl) rfl ?_
  refine mq_deal hr1.gX hr1.gH hr1.gO hz.1 hz.gk hr1.gK hz.gmn (fun I2 f2 g2 => ?_)
  simp only [Option.toList, List.cons_append, List.nil_append]
  have hr2 := hr1.mg f2 g2 (fun _ _ => rfl)
  have hc2 := hc1.out (fun x a1 => zmg_lo f2 x (by omega)) (fun _ _ => rfl)
  refine Ey_icmp_eq 891 1304 dL_law_888 (by decide) rfl (fun c1 => ?_) (fun c1 => absurd c1 (not_not_intro rfl))
  exact hK _ _ _ _ _ _ _ _ _ hc2 hr2 (hz.up hb)
set_option maxHeartbeats 4000000 in
theorem lc_usual {d kc ks b i s Ln h dk dd pl pd e : Nat} {nm : String} {xs : Nat → Int32} {sh : xSh} {R : xR} {L : xL} {I : xI} {Q : xQ} {Z : hmZ} (hc : zC sh R L I h dk dd pl pd e Z) (hr : zR sh R L I (h + 169) Z) (hz : zOk Z b) (hb : b + 1 ≤ 600) (hi : i + 7 ≤ Ln) (hLn : Ln ≤ 3584) (hK : ∀ (R' : xR) (L' : xL) (I' : xI) (dk' dd' pl' pd' e' : Nat) (Z' : hmZ), zC sh R' L' I' h dk' dd' pl' pd' e' Z' → zR sh R' L' I' (h + 169) Z' → zOk Z' (b + 1) → Ey (xLX s Ln xs) (d + 60) kc ks (Mlaw nm) 0 sh R' L' I' 1304 [some (.ref s), some (.ref h), some (.ref (h + 169)), some (.ref (h + 207)), some (.int (nI i)), none, none] [] Q) : Ey (xLX s Ln xs) (d + 60) kc ks (Mlaw nm) 0 sh R L I 893 [some (.ref s), some (.ref h), some (.ref (h + 169)), some (.ref (h + 207)), some (.int (nI i)), none, none] [] Q := by
  refine Ey_aload_n 894 (i := 1) dL_law_893 rfl rfl rfl ?_
  refine Ey_aload_n 895 (i := 0) dL_law_894 rfl rfl rfl ?_
  refine Ey_iload 897 dL_law_895 rfl rfl ?_
  refine Ey_iconst 898 (v := 1) dL_law_897 (by decide) rfl ?_
  refine Ey_iadd 899 dL_law_898 rfl ?_
  refine Ey_sld 900 (i + 1) dL_law_899 (hm_ad rfl rfl) (by omega) (by omega) rfl ?_
  refine Ey_callV (M' := MX8_usual) 903 [.int (xs (i + 1))] (rest := []) dL_law_900 lL_120 mX8_usual rfl (xH_0 hc.gX) rfl (Nat.le_of_ble_eq_true rfl) (Nat.le_of_ble_eq_true rfl) rfl ?_
  refine c_usual hc.gX hc.gO hz.1 hc.gH hz.gk hz.gtb (by have := hz.gmn; have := hz.2.1.2.1; have := hz.2.2.2.2.2.2.2.2; omega) ?_
  simp only [Option.toList, List.cons_append, List.nil_append]
  have hc1 := hc
  have hr1 := hr
  refine Ey_aload_n 904 (i := 2) dL_law_903 rfl rfl rfl ?_
  refine Ey_aload_n 905 (i := 0) dL_law_904 rfl rfl rfl ?_
  refine Ey_iload 907 dL_law_905 rfl rfl ?_
  refine Ey_iconst 908 (v := 1) dL_law_907 (by decide) rfl ?_
  refine Ey_iadd 909 dL_law_908 rfl ?_
  refine Ey_sld 910 (i + 1) dL_law_909 (hm_ad rfl rfl) (by omega) (by omega) rfl ?_
  refine Ey_callV (M' := MX9_usual) 913 [.int (xs (i + 1))] (rest := [.int (spUsual (hmN (zO Z)) (zH Z) (xs (i + 1)))]) dL_law_910 lL_123 mX9_usual rfl (xMs_0 hr.gX) rfl (Nat.le_of_ble_eq_true rfl) (Nat.le_of_ble_eq_true rfl) rfl ?_
  refine mq_usual hr1.gX hr1.gH hr1.gO hz.1 hz.gk hz.gtb (by have := hz.gmn; have := hz.2.1.2.1; have := hz.2.2.2.2.2.2.2.2; omega) (fun I2 f2 g2 => ?_)
  simp only [Option.toList, List.cons_append, List.nil_append]
  have hr2 := hr1.mg f2 g2 (fun _ _ => rfl)
  have hc2 := hc1.out (fun x a1 => zmg_lo f2 x (by omega)) (fun _ _ => rfl)
  refine Ey_icmp_eq 916 1304 dL_law_913 (by decide) rfl (fun c1 => ?_) (fun c1 => absurd c1 (not_not_intro rfl))
  exact hK _ _ _ _ _ _ _ _ _ hc2 hr2 (hz.up hb)
set_option maxHeartbeats 4000000 in
theorem lc_lost {d kc ks b i s Ln h dk dd pl pd e : Nat} {nm : String} {xs : Nat → Int32} {sh : xSh} {R : xR} {L : xL} {I : xI} {Q : xQ} {Z : hmZ} (hc : zC sh R L I h dk dd pl pd e Z) (hr : zR sh R L I (h + 169) Z) (hz : zOk Z b) (hb : b + 1 ≤ 600) (hi : i + 7 ≤ Ln) (hLn : Ln ≤ 3584) (hK : ∀ (R' : xR) (L' : xL) (I' : xI) (dk' dd' pl' pd' e' : Nat) (Z' : hmZ), zC sh R' L' I' h dk' dd' pl' pd' e' Z' → zR sh R' L' I' (h + 169) Z' → zOk Z' (b + 1) → Ey (xLX s Ln xs) (d + 60) kc ks (Mlaw nm) 0 sh R' L' I' 1304 [some (.ref s), some (.ref h), some (.ref (h + 169)), some (.ref (h + 207)), some (.int (nI i)), none, none] [] Q) : Ey (xLX s Ln xs) (d + 60) kc ks (Mlaw nm) 0 sh R L I 918 [some (.ref s), some (.ref h), some (.ref (h + 169)), some (.ref (h + 207)), some (.int (nI i)), none, none] [] Q := by
  refine Ey_aload_n 919 (i := 1) dL_law_918 rfl rfl rfl ?_
  refine Ey_callV (M' := MX8_lost) 922 [] (rest := []) dL_law_919 lL_124 mX8_lost rfl (xH_0 hc.gX) rfl (Nat.le_of_ble_eq_true rfl) (Nat.le_of_ble_eq_true rfl) rfl ?_
  refine c_lost hc.gX hc.gO hz.1 hc.gH hz.gk ?_
  simp only [Option.toList, List.cons_append, List.nil_append]
  have hc1 := hc
  have hr1 := hr
  refine Ey_aload_n 923 (i := 2) dL_law_922 rfl rfl rfl ?_
  refine Ey_callV (M' := MX9_lost) 926 [] (rest := [.int (spLost (zO Z) (zH Z))]) dL_law_923 lL_127 mX9_lost rfl (xMs_0 hr.gX) rfl (Nat.le_of_ble_eq_true rfl) (Nat.le_of_ble_eq_true rfl) rfl ?_
  refine mq_lost hr1.gX hr1.gH hr1.gO hz.1 hz.gk  (fun I2 f2 g2 => ?_)
  simp only [Option.toList, List.cons_append, List.nil_append]
  have hr2 := hr1.mg f2 g2 (fun _ _ => rfl)
  have hc2 := hc1.out (fun x a1 => zmg_lo f2 x (by omega)) (fun _ _ => rfl)
  refine Ey_icmp_eq 929 1304 dL_law_926 (by decide) rfl (fun c1 => ?_) (fun c1 => absurd c1 (not_not_intro rfl))
  exact hK _ _ _ _ _ _ _ _ _ hc2 hr2 (hz.up hb)
set_option maxHeartbeats 4000000 in
theorem lc_wisest {d kc ks b i s Ln h dk dd pl pd e : Nat} {nm : String} {xs : Nat → Int32} {sh : xSh} {R : xR} {L : xL} {I : xI} {Q : xQ} {Z : hmZ} (hc : zC sh R L I h dk dd pl pd e Z) (hr : zR sh R L I (h + 169) Z) (hz : zOk Z b) (hb : b + 1 ≤ 600) (hi : i + 7 ≤ Ln) (hLn : Ln ≤ 3584) (hK : ∀ (R' : xR) (L' : xL) (I' : xI) (dk' dd' pl' pd' e' : Nat) (Z' : hmZ), zC sh R' L' I' h dk' dd' pl' pd' e' Z' → zR sh R' L' I' (h + 169) Z' → zOk Z' (b + 1) → Ey (xLX s Ln xs) (d + 60) kc ks (Mlaw nm) 0 sh R' L' I' 1304 [some (.ref s), some (.ref h), some (.ref (h + 169)), some (.ref (h + 207)), some (.int (nI i)), none, none] [] Q) : Ey (xLX s Ln xs) (d + 60) kc ks (Mlaw nm) 0 sh R L I 931 [some (.ref s), some (.ref h), some (.ref (h + 169)), some (.ref (h + 207)), some (.int (nI i)), none, none] [] Q := by
  refine Ey_aload_n 932 (i := 1) dL_law_931 rfl rfl rfl ?_
  refine Ey_callV (M' := MX8_wisest) 935 [] (rest := []) dL_law_932 lL_128 mX8_wisest rfl (xH_0 hc.gX) rfl (Nat.le_of_ble_eq_true rfl) (Nat.le_of_ble_eq_true rfl) rfl ?_
  refine c_wisest hc.gX hc.gO hz.1 hc.gH hz.gk ?_
  simp only [Option.toList, List.cons_append, List.nil_append]
  have hc1 := hc
  have hr1 := hr
  refine Ey_aload_n 936 (i := 2) dL_law_935 rfl rfl rfl ?_
  refine Ey_callV (M' := MX9_wisest) 939 [] (rest := [.int (spWisest (hmN (zO Z)) (zH Z))]) dL_law_936 lL_131 mX9_wisest rfl (xMs_0 hr.gX) rfl (Nat.le_of_ble_eq_true rfl) (Nat.le_of_ble_eq_true rfl) rfl ?_
  refine mq_wisest hr1.gX hr1.gH hr1.gO hz.1 hz.gk  (fun I2 f2 g2 => ?_)
  simp only [Option.toList, List.cons_append, List.nil_append]
  have hr2 := hr1.mg f2 g2 (fun _ _ => rfl)
  have hc2 := hc1.out (fun x a1 => zmg_lo f2 x (by omega)) (fun _ _ => rfl)
  refine Ey_icmp_eq 942 1304 dL_law_939 (by decide) rfl (fun c1 => ?_) (fun c1 => absurd c1 (not_not_intro rfl))
  exact hK _ _ _ _ _ _ _ _ _ hc2 hr2 (hz.up hb)
set_option maxHeartbeats 4000000 in
theorem lc_sets {d kc ks b i s Ln h dk dd pl pd e : Nat} {nm : String} {xs : Nat → Int32} {sh : xSh} {R : xR} {L : xL} {I : xI} {Q : xQ} {Z : hmZ} (hc : zC sh R L I h dk dd pl pd e Z) (hr : zR sh R L I (h + 169) Z) (hz : zOk Z b) (hb : b + 1 ≤ 600) (hi : i + 7 ≤ Ln) (hLn : Ln ≤ 3584) (hK : ∀ (R' : xR) (L' : xL) (I' : xI) (dk' dd' pl' pd' e' : Nat) (Z' : hmZ), zC sh R' L' I' h dk' dd' pl' pd' e' Z' → zR sh R' L' I' (h + 169) Z' → zOk Z' (b + 1) → Ey (xLX s Ln xs) (d + 60) kc ks (Mlaw nm) 0 sh R' L' I' 1304 [some (.ref s), some (.ref h), some (.ref (h + 169)), some (.ref (h + 207)), some (.int (nI i)), none, none] [] Q) : Ey (xLX s Ln xs) (d + 60) kc ks (Mlaw nm) 0 sh R L I 997 [some (.ref s), some (.ref h), some (.ref (h + 169)), some (.ref (h + 207)), some (.int (nI i)), none, none] [] Q := by
  refine Ey_aload_n 998 (i := 1) dL_law_997 rfl rfl rfl ?_
  refine Ey_aload_n 999 (i := 0) dL_law_998 rfl rfl rfl ?_
  refine Ey_iload 1001 dL_law_999 rfl rfl ?_
  refine Ey_iconst 1002 (v := 1) dL_law_1001 (by decide) rfl ?_
  refine Ey_iadd 1003 dL_law_1002 rfl ?_
  refine Ey_sld 1004 (i + 1) dL_law_1003 (hm_ad rfl rfl) (by omega) (by omega) rfl ?_
  refine Ey_callV (M' := MX8_sets) 1007 [.int (xs (i + 1))] (rest := []) dL_law_1004 lL_137 mX8_sets rfl (xH_0 hc.gX) rfl (Nat.le_of_ble_eq_true rfl) (Nat.le_of_ble_eq_true rfl) rfl ?_
  refine c_sets hc.gX hc.gO hz.1 hc.gH hz.gk hz.gmn hc.gT1 hc.gT2 (fun I1 f1 => ?_)
  simp only [Option.toList, List.cons_append, List.nil_append]
  have hc1 := hc.qf f1
  have hr1 := hr.out (fun x a1 a2 => zqf_hi hc f1 x (by omega)) (fun _ _ _ => rfl)
  refine Ey_aload_n 1008 (i := 2) dL_law_1007 rfl rfl rfl ?_
  refine Ey_aload_n 1009 (i := 0) dL_law_1008 rfl rfl rfl ?_
  refine Ey_iload 1011 dL_law_1009 rfl rfl ?_
  refine Ey_iconst 1012 (v := 1) dL_law_1011 (by decide) rfl ?_
  refine Ey_iadd 1013 dL_law_1012 rfl ?_
  refine Ey_sld 1014 (i + 1) dL_law_1013 (hm_ad rfl rfl) (by omega) (by omega) rfl ?_
  refine Ey_callV (M' := MX9_sets) 1017 [.int (xs (i + 1))] (rest := [.int (spSets (zO Z) (zH Z) (zW Z) (xs (i + 1)))]) dL_law_1014 lL_140 mX9_sets rfl (xMs_0 hr.gX) rfl (Nat.le_of_ble_eq_true rfl) (Nat.le_of_ble_eq_true rfl) rfl ?_
  refine mq_sets hr1.gX hr1.gH hr1.gO hz.1 hz.gk hr1.gK hz.gmn hr1.gW hz.gtn (fun I2 f2 g2 _ => ?_)
  simp only [Option.toList, List.cons_append, List.nil_append]
  have hr2 := hr1.mg f2 g2 (fun _ _ => rfl)
  have hc2 := hc1.out (fun x a1 => zmg_lo f2 x (by omega)) (fun _ _ => rfl)
  refine Ey_icmp_eq 1020 1304 dL_law_1017 (by decide) rfl (fun c1 => ?_) (fun c1 => absurd c1 (not_not_intro rfl))
  exact hK _ _ _ _ _ _ _ _ _ hc2 hr2 (hz.up hb)
set_option maxHeartbeats 4000000 in
theorem lc_ask {d kc ks b i s Ln h dk dd pl pd e : Nat} {nm : String} {xs : Nat → Int32} {sh : xSh} {R : xR} {L : xL} {I : xI} {Q : xQ} {Z : hmZ} (hc : zC sh R L I h dk dd pl pd e Z) (hr : zR sh R L I (h + 169) Z) (hz : zOk Z b) (hb : b + 1 ≤ 600) (hi : i + 7 ≤ Ln) (hLn : Ln ≤ 3584) (hK : ∀ (R' : xR) (L' : xL) (I' : xI) (dk' dd' pl' pd' e' : Nat) (Z' : hmZ), zC sh R' L' I' h dk' dd' pl' pd' e' Z' → zR sh R' L' I' (h + 169) Z' → zOk Z' (b + 1) → Ey (xLX s Ln xs) (d + 60) kc ks (Mlaw nm) 0 sh R' L' I' 1304 [some (.ref s), some (.ref h), some (.ref (h + 169)), some (.ref (h + 207)), some (.int (nI i)), none, none] [] Q) : Ey (xLX s Ln xs) (d + 60) kc ks (Mlaw nm) 0 sh R L I 1022 [some (.ref s), some (.ref h), some (.ref (h + 169)), some (.ref (h + 207)), some (.int (nI i)), none, none] [] Q := by
  refine Ey_aload_n 1023 (i := 1) dL_law_1022 rfl rfl rfl ?_
  refine Ey_callV (M' := MX8_ask) 1026 [] (rest := []) dL_law_1023 lL_141 mX8_ask rfl (xH_0 hc.gX) rfl (Nat.le_of_ble_eq_true rfl) (Nat.le_of_ble_eq_true rfl) rfl ?_
  refine c_ask hc.gX hc.gO hz.1 hc.gH hz.gk hz.gmn hc.gT1 hc.gT2 (fun I1 f1 => ?_)
  simp only [Option.toList, List.cons_append, List.nil_append]
  have hc1 := hc.qf f1
  have hr1 := hr.out (fun x a1 a2 => zqf_hi hc f1 x (by omega)) (fun _ _ _ => rfl)
  refine Ey_aload_n 1027 (i := 2) dL_law_1026 rfl rfl rfl ?_
  refine Ey_callV (M' := MX9_ask) 1030 [] (rest := [.int (spAsk (zO Z) (zH Z) (zW Z))]) dL_law_1027 lL_144 mX9_ask rfl (xMs_0 hr.gX) rfl (Nat.le_of_ble_eq_true rfl) (Nat.le_of_ble_eq_true rfl) rfl ?_
  refine mq_ask hr1.gX hr1.gH hr1.gO hz.1 hz.gk hr1.gK hz.gmn hr1.gW hz.gtn (fun I2 f2 g2 => ?_)
  simp only [Option.toList, List.cons_append, List.nil_append]
  have hr2 := hr1.mg f2 g2 (fun _ _ => rfl)
  have hc2 := hc1.out (fun x a1 => zmg_lo f2 x (by omega)) (fun _ _ => rfl)
  refine Ey_icmp_eq 1033 1304 dL_law_1030 (by decide) rfl (fun c1 => ?_) (fun c1 => absurd c1 (not_not_intro rfl))
  exact hK _ _ _ _ _ _ _ _ _ hc2 hr2 (hz.up hb)
set_option maxHeartbeats 4000000 in
theorem lc_chance {d kc ks b i s Ln h dk dd pl pd e : Nat} {nm : String} {xs : Nat → Int32} {sh : xSh} {R : xR} {L : xL} {I : xI} {Q : xQ} {Z : hmZ} (hc : zC sh R L I h dk dd pl pd e Z) (hr : zR sh R L I (h + 169) Z) (hz : zOk Z b) (hb : b + 1 ≤ 600) (hi : i + 7 ≤ Ln) (hLn : Ln ≤ 3584) (hK : ∀ (R' : xR) (L' : xL) (I' : xI) (dk' dd' pl' pd' e' : Nat) (Z' : hmZ), zC sh R' L' I' h dk' dd' pl' pd' e' Z' → zR sh R' L' I' (h + 169) Z' → zOk Z' (b + 1) → Ey (xLX s Ln xs) (d + 60) kc ks (Mlaw nm) 0 sh R' L' I' 1304 [some (.ref s), some (.ref h), some (.ref (h + 169)), some (.ref (h + 207)), some (.int (nI i)), none, none] [] Q) : Ey (xLX s Ln xs) (d + 60) kc ks (Mlaw nm) 0 sh R L I 1035 [some (.ref s), some (.ref h), some (.ref (h + 169)), some (.ref (h + 207)), some (.int (nI i)), none, none] [] Q := by
  refine Ey_aload_n 1036 (i := 1) dL_law_1035 rfl rfl rfl ?_
  refine Ey_aload_n 1037 (i := 0) dL_law_1036 rfl rfl rfl ?_
  refine Ey_iload 1039 dL_law_1037 rfl rfl ?_
  refine Ey_iconst 1040 (v := 1) dL_law_1039 (by decide) rfl ?_
  refine Ey_iadd 1041 dL_law_1040 rfl ?_
  refine Ey_sld 1042 (i + 1) dL_law_1041 (hm_ad rfl rfl) (by omega) (by omega) rfl ?_
  refine Ey_callV (M' := MX8_chance) 1045 [.int (xs (i + 1))] (rest := []) dL_law_1042 lL_145 mX8_chance rfl (xH_0 hc.gX) rfl (Nat.le_of_ble_eq_true rfl) (Nat.le_of_ble_eq_true rfl) rfl ?_
  refine c_chance hc.gX hc.gO hz.1 hc.gH hz.gk hz.gmn (fun I1 f1 => ?_)
  simp only [Option.toList, List.cons_append, List.nil_append]
  have hc1 := hc.qf f1
  have hr1 := hr.out (fun x a1 a2 => zqf_hi hc f1 x (by omega)) (fun _ _ _ => rfl)
  refine Ey_aload_n 1046 (i := 2) dL_law_1045 rfl rfl rfl ?_
  refine Ey_aload_n 1047 (i := 0) dL_law_1046 rfl rfl rfl ?_
  refine Ey_iload 1049 dL_law_1047 rfl rfl ?_
  refine Ey_iconst 1050 (v := 1) dL_law_1049 (by decide) rfl ?_
  refine Ey_iadd 1051 dL_law_1050 rfl ?_
  refine Ey_sld 1052 (i + 1) dL_law_1051 (hm_ad rfl rfl) (by omega) (by omega) rfl ?_
  refine Ey_callV (M' := MX9_chance) 1055 [.int (xs (i + 1))] (rest := [.int (spChance (zO Z) (zH Z) (xs (i + 1)))]) dL_law_1052 lL_148 mX9_chance rfl (xMs_0 hr.gX) rfl (Nat.le_of_ble_eq_true rfl) (Nat.le_of_ble_eq_true rfl) rfl ?_
  refine mq_chance hr1.gX hr1.gH hr1.gO hz.1 hz.gk hr1.gK hz.gmn (fun I2 f2 g2 => ?_)
  simp only [Option.toList, List.cons_append, List.nil_append]
  have hr2 := hr1.mg f2 g2 (fun _ _ => rfl)
  have hc2 := hc1.out (fun x a1 => zmg_lo f2 x (by omega)) (fun _ _ => rfl)
  refine Ey_icmp_eq 1058 1304 dL_law_1055 (by decide) rfl (fun c1 => ?_) (fun c1 => absurd c1 (not_not_intro rfl))
  exact hK _ _ _ _ _ _ _ _ _ hc2 hr2 (hz.up hb)
set_option maxHeartbeats 4000000 in
theorem lc_other {d kc ks b i s Ln h dk dd pl pd e : Nat} {nm : String} {xs : Nat → Int32} {sh : xSh} {R : xR} {L : xL} {I : xI} {Q : xQ} {Z : hmZ} (hc : zC sh R L I h dk dd pl pd e Z) (hr : zR sh R L I (h + 169) Z) (hz : zOk Z b) (hb : b + 1 ≤ 600) (hi : i + 7 ≤ Ln) (hLn : Ln ≤ 3584) (hK : ∀ (R' : xR) (L' : xL) (I' : xI) (dk' dd' pl' pd' e' : Nat) (Z' : hmZ), zC sh R' L' I' h dk' dd' pl' pd' e' Z' → zR sh R' L' I' (h + 169) Z' → zOk Z' (b + 1) → Ey (xLX s Ln xs) (d + 60) kc ks (Mlaw nm) 0 sh R' L' I' 1304 [some (.ref s), some (.ref h), some (.ref (h + 169)), some (.ref (h + 207)), some (.int (nI i)), none, none] [] Q) : Ey (xLX s Ln xs) (d + 60) kc ks (Mlaw nm) 0 sh R L I 1060 [some (.ref s), some (.ref h), some (.ref (h + 169)), some (.ref (h + 207)), some (.int (nI i)), none, none] [] Q := by
  refine Ey_aload_n 1061 (i := 1) dL_law_1060 rfl rfl rfl ?_
  refine Ey_aload_n 1062 (i := 0) dL_law_1061 rfl rfl rfl ?_
  refine Ey_iload 1064 dL_law_1062 rfl rfl ?_
  refine Ey_iconst 1065 (v := 1) dL_law_1064 (by decide) rfl ?_
  refine Ey_iadd 1066 dL_law_1065 rfl ?_
  refine Ey_sld 1067 (i + 1) dL_law_1066 (hm_ad rfl rfl) (by omega) (by omega) rfl ?_
  refine Ey_callV (M' := MX8_other) 1070 [.int (xs (i + 1))] (rest := []) dL_law_1067 lL_149 mX8_other rfl (xH_0 hc.gX) rfl (Nat.le_of_ble_eq_true rfl) (Nat.le_of_ble_eq_true rfl) rfl ?_
  refine c_other hc.gX hc.gO hz.1 hc.gD hz.2.2.1 (fun I1 f1 => ?_)
  simp only [Option.toList, List.cons_append, List.nil_append]
  have hc1 := hc.qf f1
  have hr1 := hr.out (fun x a1 a2 => zqf_hi hc f1 x (by omega)) (fun _ _ _ => rfl)
  refine Ey_aload_n 1071 (i := 2) dL_law_1070 rfl rfl rfl ?_
  refine Ey_aload_n 1072 (i := 0) dL_law_1071 rfl rfl rfl ?_
  refine Ey_iload 1074 dL_law_1072 rfl rfl ?_
  refine Ey_iconst 1075 (v := 1) dL_law_1074 (by decide) rfl ?_
  refine Ey_iadd 1076 dL_law_1075 rfl ?_
  refine Ey_sld 1077 (i + 1) dL_law_1076 (hm_ad rfl rfl) (by omega) (by omega) rfl ?_
  refine Ey_callV (M' := MX9_other) 1080 [.int (xs (i + 1))] (rest := [.int (spOther (zO Z) (zD Z) (xs (i + 1)))]) dL_law_1077 lL_152 mX9_other rfl (xMs_0 hr.gX) rfl (Nat.le_of_ble_eq_true rfl) (Nat.le_of_ble_eq_true rfl) rfl ?_
  refine mq_other hr1.gX hr1.gH hr1.gO hz.1 hr1.gD hz.2.2.1 hr1.gK (fun I2 f2 g2 => ?_)
  simp only [Option.toList, List.cons_append, List.nil_append]
  have hr2 := hr1.mg f2 g2 (fun _ _ => rfl)
  have hc2 := hc1.out (fun x a1 => zmg_lo f2 x (by omega)) (fun _ _ => rfl)
  refine Ey_icmp_eq 1083 1304 dL_law_1080 (by decide) rfl (fun c1 => ?_) (fun c1 => absurd c1 (not_not_intro rfl))
  exact hK _ _ _ _ _ _ _ _ _ hc2 hr2 (hz.up hb)
set_option maxHeartbeats 4000000 in
theorem lc_days {d kc ks b i s Ln h dk dd pl pd e : Nat} {nm : String} {xs : Nat → Int32} {sh : xSh} {R : xR} {L : xL} {I : xI} {Q : xQ} {Z : hmZ} (hc : zC sh R L I h dk dd pl pd e Z) (hr : zR sh R L I (h + 169) Z) (hz : zOk Z b) (hb : b + 1 ≤ 600) (hi : i + 7 ≤ Ln) (hLn : Ln ≤ 3584) (hK : ∀ (R' : xR) (L' : xL) (I' : xI) (dk' dd' pl' pd' e' : Nat) (Z' : hmZ), zC sh R' L' I' h dk' dd' pl' pd' e' Z' → zR sh R' L' I' (h + 169) Z' → zOk Z' (b + 1) → Ey (xLX s Ln xs) (d + 60) kc ks (Mlaw nm) 0 sh R' L' I' 1304 [some (.ref s), some (.ref h), some (.ref (h + 169)), some (.ref (h + 207)), some (.int (nI i)), none, none] [] Q) : Ey (xLX s Ln xs) (d + 60) kc ks (Mlaw nm) 0 sh R L I 1177 [some (.ref s), some (.ref h), some (.ref (h + 169)), some (.ref (h + 207)), some (.int (nI i)), none, none] [] Q := by
  refine Ey_aload_n 1178 (i := 1) dL_law_1177 rfl rfl rfl ?_
  refine Ey_aload_n 1179 (i := 0) dL_law_1178 rfl rfl rfl ?_
  refine Ey_iload 1181 dL_law_1179 rfl rfl ?_
  refine Ey_iconst 1182 (v := 1) dL_law_1181 (by decide) rfl ?_
  refine Ey_iadd 1183 dL_law_1182 rfl ?_
  refine Ey_sld 1184 (i + 1) dL_law_1183 (hm_ad rfl rfl) (by omega) (by omega) rfl ?_
  refine Ey_aload_n 1185 (i := 0) dL_law_1184 rfl rfl rfl ?_
  refine Ey_iload 1187 dL_law_1185 rfl rfl ?_
  refine Ey_iconst 1188 (v := 2) dL_law_1187 (by decide) rfl ?_
  refine Ey_iadd 1189 dL_law_1188 rfl ?_
  refine Ey_sld 1190 (i + 2) dL_law_1189 (hm_ad rfl rfl) (by omega) (by omega) rfl ?_
  refine Ey_aload_n 1191 (i := 0) dL_law_1190 rfl rfl rfl ?_
  refine Ey_iload 1193 dL_law_1191 rfl rfl ?_
  refine Ey_iconst 1194 (v := 3) dL_law_1193 (by decide) rfl ?_
  refine Ey_iadd 1195 dL_law_1194 rfl ?_
  refine Ey_sld 1196 (i + 3) dL_law_1195 (hm_ad rfl rfl) (by omega) (by omega) rfl ?_
  refine Ey_callV (M' := MX8_days) 1199 [.int (xs (i + 1)), .int (xs (i + 2)), .int (xs (i + 3))] (rest := []) dL_law_1196 lL_162 mX8_days rfl (xH_0 hc.gX) rfl (Nat.le_of_ble_eq_true rfl) (Nat.le_of_ble_eq_true rfl) rfl ?_
  refine c_days hc.gX hc.gO hz.1 hc.gH hz.gk hz.gmn (fun I1 f1 => ?_)
  simp only [Option.toList, List.cons_append, List.nil_append]
  have hc1 := hc.qf f1
  have hr1 := hr.out (fun x a1 a2 => zqf_hi hc f1 x (by omega)) (fun _ _ _ => rfl)
  refine Ey_aload_n 1200 (i := 2) dL_law_1199 rfl rfl rfl ?_
  refine Ey_aload_n 1201 (i := 0) dL_law_1200 rfl rfl rfl ?_
  refine Ey_iload 1203 dL_law_1201 rfl rfl ?_
  refine Ey_iconst 1204 (v := 1) dL_law_1203 (by decide) rfl ?_
  refine Ey_iadd 1205 dL_law_1204 rfl ?_
  refine Ey_sld 1206 (i + 1) dL_law_1205 (hm_ad rfl rfl) (by omega) (by omega) rfl ?_
  refine Ey_aload_n 1207 (i := 0) dL_law_1206 rfl rfl rfl ?_
  refine Ey_iload 1209 dL_law_1207 rfl rfl ?_
  refine Ey_iconst 1210 (v := 2) dL_law_1209 (by decide) rfl ?_
  refine Ey_iadd 1211 dL_law_1210 rfl ?_
  refine Ey_sld 1212 (i + 2) dL_law_1211 (hm_ad rfl rfl) (by omega) (by omega) rfl ?_
  refine Ey_aload_n 1213 (i := 0) dL_law_1212 rfl rfl rfl ?_
  refine Ey_iload 1215 dL_law_1213 rfl rfl ?_
  refine Ey_iconst 1216 (v := 3) dL_law_1215 (by decide) rfl ?_
  refine Ey_iadd 1217 dL_law_1216 rfl ?_
  refine Ey_sld 1218 (i + 3) dL_law_1217 (hm_ad rfl rfl) (by omega) (by omega) rfl ?_
  refine Ey_callV (M' := MX9_days) 1221 [.int (xs (i + 1)), .int (xs (i + 2)), .int (xs (i + 3))] (rest := [.int (spDays (zO Z) (zH Z) (xs (i + 1)) (xs (i + 2)) (xs (i + 3)))]) dL_law_1218 lL_166 mX9_days rfl (xMs_0 hr.gX) rfl (Nat.le_of_ble_eq_true rfl) (Nat.le_of_ble_eq_true rfl) rfl ?_
  refine mq_days hr1.gX hr1.gH hr1.gO hz.1 hz.gk hr1.gK hz.gmn (fun I2 L2 f2 l2 g2 => ?_)
  simp only [Option.toList, List.cons_append, List.nil_append]
  have hr2 := hr1.mg f2 g2 (L' := L2) (fun w _ => by rw [l2.1 _ (by omega)])
  have hc2 := hc1.out (fun x a1 => zmg_lo f2 x (by omega)) (L' := L2) (fun x a1 => l2.1 x (by omega))
  refine Ey_icmp_eq 1224 1304 dL_law_1221 (by decide) rfl (fun c1 => ?_) (fun c1 => absurd c1 (not_not_intro rfl))
  exact hK _ _ _ _ _ _ _ _ _ hc2 hr2 (hz.up hb)
set_option maxHeartbeats 4000000 in
theorem lc_count {d kc ks b i s Ln h dk dd pl pd e : Nat} {nm : String} {xs : Nat → Int32} {sh : xSh} {R : xR} {L : xL} {I : xI} {Q : xQ} {Z : hmZ} (hc : zC sh R L I h dk dd pl pd e Z) (hr : zR sh R L I (h + 169) Z) (hz : zOk Z b) (hb : b + 1 ≤ 600) (hi : i + 7 ≤ Ln) (hLn : Ln ≤ 3584) (hK : ∀ (R' : xR) (L' : xL) (I' : xI) (dk' dd' pl' pd' e' : Nat) (Z' : hmZ), zC sh R' L' I' h dk' dd' pl' pd' e' Z' → zR sh R' L' I' (h + 169) Z' → zOk Z' (b + 1) → Ey (xLX s Ln xs) (d + 60) kc ks (Mlaw nm) 0 sh R' L' I' 1304 [some (.ref s), some (.ref h), some (.ref (h + 169)), some (.ref (h + 207)), some (.int (nI i)), none, none] [] Q) : Ey (xLX s Ln xs) (d + 60) kc ks (Mlaw nm) 0 sh R L I 1279 [some (.ref s), some (.ref h), some (.ref (h + 169)), some (.ref (h + 207)), some (.int (nI i)), none, none] [] Q := by
  refine Ey_aload_n 1280 (i := 1) dL_law_1279 rfl rfl rfl ?_
  refine Ey_aload_n 1281 (i := 0) dL_law_1280 rfl rfl rfl ?_
  refine Ey_iload 1283 dL_law_1281 rfl rfl ?_
  refine Ey_iconst 1284 (v := 1) dL_law_1283 (by decide) rfl ?_
  refine Ey_iadd 1285 dL_law_1284 rfl ?_
  refine Ey_sld 1286 (i + 1) dL_law_1285 (hm_ad rfl rfl) (by omega) (by omega) rfl ?_
  refine Ey_callV (M' := MX8_count) 1289 [.int (xs (i + 1))] (rest := []) dL_law_1286 lL_171 mX8_count rfl (xH_0 hc.gX) rfl (Nat.le_of_ble_eq_true rfl) (Nat.le_of_ble_eq_true rfl) rfl ?_
  refine c_count hc.gX hc.gO hz.1 hc.gH hz.gk hc.gT1 (ln := (zD Z).length) (np := (zP Z).length) (tp := (zT Z).length) hc.gD.2.1 hc.gP.2.2.1 hc.gT.2.1 ?_
  simp only [Option.toList, List.cons_append, List.nil_append]
  have hc1 := hc
  have hr1 := hr
  refine Ey_aload_n 1290 (i := 2) dL_law_1289 rfl rfl rfl ?_
  refine Ey_aload_n 1291 (i := 0) dL_law_1290 rfl rfl rfl ?_
  refine Ey_iload 1293 dL_law_1291 rfl rfl ?_
  refine Ey_iconst 1294 (v := 1) dL_law_1293 (by decide) rfl ?_
  refine Ey_iadd 1295 dL_law_1294 rfl ?_
  refine Ey_sld 1296 (i + 1) dL_law_1295 (hm_ad rfl rfl) (by omega) (by omega) rfl ?_
  refine Ey_callV (M' := MX9_count) 1299 [.int (xs (i + 1))] (rest := [.int (spCount (zO Z) (zH Z) (zW Z) (zD Z).length (zP Z).length (zT Z).length (xs (i + 1)))]) dL_law_1296 lL_174 mX9_count rfl (xMs_0 hr.gX) rfl (Nat.le_of_ble_eq_true rfl) (Nat.le_of_ble_eq_true rfl) rfl ?_
  refine mq_count hr1.gX hr1.gH hr1.gO hz.1 hz.gk hr1.gW (ln := (zD Z).length) (np := (zP Z).length) (tp := (zT Z).length) hr1.gD.2.1 hr1.gP.2.1 hr1.gT.2.1 (fun I2 f2 g2 => ?_)
  simp only [Option.toList, List.cons_append, List.nil_append]
  have hr2 := hr1.mg f2 g2 (fun _ _ => rfl)
  have hc2 := hc1.out (fun x a1 => zmg_lo f2 x (by omega)) (fun _ _ => rfl)
  refine Ey_icmp_eq 1302 1304 dL_law_1299 (by decide) rfl (fun c1 => ?_) (fun c1 => absurd c1 (not_not_intro rfl))
  exact hK _ _ _ _ _ _ _ _ _ hc2 hr2 (hz.up hb)
