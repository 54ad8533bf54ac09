theorem hmCal_ix {n : Nat} {v : Int32} (h : hmCal n v = true) : hmIx v < n := by
  simp only [hmCal, decide_eq_true_eq] at h
  unfold hmIx
  omega
theorem hmMin_leave {H : hmH} {w : Nat} : hmMin (hmLeave H w) = hmMin H := by
  unfold hmLeave
  split <;> rfl
theorem hmMin_swap {H : hmH} {w v : Nat} : hmMin (hmSwap H w v) = hmMin H := by
  unfold hmSwap
  split <;> rfl
theorem zHk_come {O : hmO} {b : Nat} {H : hmH} {v : Int32} (ho : hmOok O) (h : zHk O b H) (hq : hmRingOk O H v = true) : zHk O (b + 1) (hmCome H (hmIx v)) := by
  simp only [hmRingOk, Bool.and_eq_true] at hq
  exact ⟨hmOk_come h.1 ho (hmCal_ix hq.1) hq.2, Nat.le_succ_of_le h.2.1, hmTkb_come h.2.2.1, hmSb_come h.2.2.2⟩
theorem zHk_leave {O : hmO} {b w : Nat} {H : hmH} (h : zHk O b H) : zHk O (b + 1) (hmLeave H w) := ⟨hmOk_leave h.1, by rw [hmMin_leave]; exact Nat.le_succ_of_le h.2.1, hmTkb_leave h.2.2.1, hmSb_leave h.2.2.2⟩
theorem zHk_swap {O : hmO} {b w v : Nat} {H : hmH} (h : zHk O b H) : zHk O (b + 1) (hmSwap H w v) := ⟨hmOk_swap h.1, by rw [hmMin_swap]; exact Nat.le_succ_of_le h.2.1, hmTkb_swap h.2.2.1, hmSb_swap h.2.2.2⟩
theorem zHk_minute {O : hmO} {b : Nat} {H : hmH} (ho : hmOok O) (h : zHk O b H) : zHk O (b + 1) (hmMinute O (hmTk O) H) := ⟨hmOk_minute h.1 ho, by rw [hmMinute_min]; exact Nat.succ_le_succ h.2.1, hmTkb_minute (hmOk_len h.1 ho) h.2.2.1, hmSb_minute h.1 ho h.2.2.2⟩
set_option maxHeartbeats 4000000 in
theorem lc_feed {d kc ks b i s Ln h dk dd pl pd e : Nat} {nm : String} {xs : Nat → Int32} {sh : xSh} {R : xR} {L : xL} {I : xI} {Q : xQ} {Z : hmZ} (hc : zC sh R L I h dk dd pl pd e Z) (hr : zR sh R L I (h + 169) Z) (hz : zOk Z b) (hb : b + 1 ≤ 600) (hi : i + 7 ≤ Ln) (hLn : Ln ≤ 3584) (hK : ∀ (R' : xR) (L' : xL) (I' : xI) (dk' dd' pl' pd' e' : Nat) (Z' : hmZ), zC sh R' L' I' h dk' dd' pl' pd' e' Z' → zR sh R' L' I' (h + 169) Z' → zOk Z' (b + 1) → Ey (xLX s Ln xs) (d + 60) kc ks (Mlaw nm) 0 sh R' L' I' 1304 [some (.ref s), some (.ref h), some (.ref (h + 169)), some (.ref (h + 207)), some (.int (nI i)), none, none] [] Q) : Ey (xLX s Ln xs) (d + 60) kc ks (Mlaw nm) 0 sh R L I 196 [some (.ref s), some (.ref h), some (.ref (h + 169)), some (.ref (h + 207)), some (.int (nI i)), none, none] [] Q := by
  refine Ey_aload_n 197 (i := 1) dL_law_196 rfl rfl rfl ?_
  refine Ey_aload_n 198 (i := 0) dL_law_197 rfl rfl rfl ?_
  refine Ey_iload 200 dL_law_198 rfl rfl ?_
  refine Ey_iconst 201 (v := 1) dL_law_200 (by decide) rfl ?_
  refine Ey_iadd 202 dL_law_201 rfl ?_
  refine Ey_sld 203 (i + 1) dL_law_202 (hm_ad rfl rfl) (by omega) (by omega) rfl ?_
  refine Ey_i2l 204 dL_law_203 rfl ?_
  refine Ey_bipush 206 (v := 32) dL_law_204 (by decide) rfl ?_
  refine Ey_lshl 207 dL_law_206 rfl ?_
  refine Ey_aload_n 208 (i := 0) dL_law_207 rfl rfl rfl ?_
  refine Ey_iload 210 dL_law_208 rfl rfl ?_
  refine Ey_iconst 211 (v := 2) dL_law_210 (by decide) rfl ?_
  refine Ey_iadd 212 dL_law_211 rfl ?_
  refine Ey_sld 213 (i + 2) dL_law_212 (hm_ad rfl rfl) (by omega) (by omega) rfl ?_
  refine Ey_i2l 214 dL_law_213 rfl ?_
  refine Ey_ldc2 217 (v := 4294967295) dL_law_214 kL_19 rfl ?_
  refine Ey_land 218 dL_law_217 rfl ?_
  refine Ey_lor 219 dL_law_218 rfl ?_
  refine Ey_aload_n 220 (i := 0) dL_law_219 rfl rfl rfl ?_
  refine Ey_iload 222 dL_law_220 rfl rfl ?_
  refine Ey_iconst 223 (v := 3) dL_law_222 (by decide) rfl ?_
  refine Ey_iadd 224 dL_law_223 rfl ?_
  refine Ey_sld 225 (i + 3) dL_law_224 (hm_ad rfl rfl) (by omega) (by omega) rfl ?_
  refine Ey_i2l 226 dL_law_225 rfl ?_
  refine Ey_bipush 228 (v := 32) dL_law_226 (by decide) rfl ?_
  refine Ey_lshl 229 dL_law_228 rfl ?_
  refine Ey_aload_n 230 (i := 0) dL_law_229 rfl rfl rfl ?_
  refine Ey_iload 232 dL_law_230 rfl rfl ?_
  refine Ey_iconst 233 (v := 4) dL_law_232 (by decide) rfl ?_
  refine Ey_iadd 234 dL_law_233 rfl ?_
  refine Ey_sld 235 (i + 4) dL_law_234 (hm_ad rfl rfl) (by omega) (by omega) rfl ?_
  refine Ey_i2l 236 dL_law_235 rfl ?_
  refine Ey_ldc2 239 (v := 4294967295) dL_law_236 kL_19 rfl ?_
  refine Ey_land 240 dL_law_239 rfl ?_
  refine Ey_lor 241 dL_law_240 rfl ?_
  refine Ey_aload_n 242 (i := 0) dL_law_241 rfl rfl rfl ?_
  refine Ey_iload 244 dL_law_242 rfl rfl ?_
  refine Ey_iconst 245 (v := 5) dL_law_244 (by decide) rfl ?_
  refine Ey_iadd 246 dL_law_245 rfl ?_
  refine Ey_sld 247 (i + 5) dL_law_246 (hm_ad rfl rfl) (by omega) (by omega) rfl ?_
  refine Ey_i2l 248 dL_law_247 rfl ?_
  refine Ey_bipush 250 (v := 32) dL_law_248 (by decide) rfl ?_
  refine Ey_lshl 251 dL_law_250 rfl ?_
  refine Ey_aload_n 252 (i := 0) dL_law_251 rfl rfl rfl ?_
  refine Ey_iload 254 dL_law_252 rfl rfl ?_
  refine Ey_bipush 256 (v := 6) dL_law_254 (by decide) rfl ?_
  refine Ey_iadd 257 dL_law_256 rfl ?_
  refine Ey_sld 258 (i + 6) dL_law_257 (hm_ad rfl rfl) (by omega) (by omega) rfl ?_
  refine Ey_i2l 259 dL_law_258 rfl ?_
  refine Ey_ldc2 262 (v := 4294967295) dL_law_259 kL_19 rfl ?_
  refine Ey_land 263 dL_law_262 rfl ?_
  refine Ey_lor 264 dL_law_263 rfl ?_
  refine Ey_callV (M' := MX8_feed) 267 [.long ((((xs (i + 1)).toInt64) <<< ((32 : Int32).toInt64 &&& 63)) ||| (((xs (i + 2)).toInt64) &&& 4294967295)), .long ((((xs (i + 3)).toInt64) <<< ((32 : Int32).toInt64 &&& 63)) ||| (((xs (i + 4)).toInt64) &&& 4294967295)), .long ((((xs (i + 5)).toInt64) <<< ((32 : Int32).toInt64 &&& 63)) ||| (((xs (i + 6)).toInt64) &&& 4294967295))] (rest := []) dL_law_264 lL_21 mX8_feed rfl (xH_0 hc.gX) rfl (Nat.le_of_ble_eq_true rfl) (Nat.le_of_ble_eq_true rfl) rfl ?_
  refine c_feed hc.gX hc.gT (fun I1 f1 f2 f3 => ?_)
  simp only [Option.toList, List.cons_append, List.nil_append]
  have hc1 := hc.tp (fun x a1 a2 a3 a4 a5 => f1 x a2 (by omega)) f3 (fun _ _ => rfl)
  have hr1 := hr.out (fun x a1 a2 => f1 x (by omega) (by omega)) (fun _ _ _ => rfl)
  refine Ey_aload_n 268 (i := 2) dL_law_267 rfl rfl rfl ?_
  refine Ey_aload_n 269 (i := 0) dL_law_268 rfl rfl rfl ?_
  refine Ey_iload 271 dL_law_269 rfl rfl ?_
  refine Ey_iconst 272 (v := 1) dL_law_271 (by decide) rfl ?_
  refine Ey_iadd 273 dL_law_272 rfl ?_
  refine Ey_sld 274 (i + 1) dL_law_273 (hm_ad rfl rfl) (by omega) (by omega) rfl ?_
  refine Ey_i2l 275 dL_law_274 rfl ?_
  refine Ey_bipush 277 (v := 32) dL_law_275 (by decide) rfl ?_
  refine Ey_lshl 278 dL_law_277 rfl ?_
  refine Ey_aload_n 279 (i := 0) dL_law_278 rfl rfl rfl ?_
  refine Ey_iload 281 dL_law_279 rfl rfl ?_
  refine Ey_iconst 282 (v := 2) dL_law_281 (by decide) rfl ?_
  refine Ey_iadd 283 dL_law_282 rfl ?_
  refine Ey_sld 284 (i + 2) dL_law_283 (hm_ad rfl rfl) (by omega) (by omega) rfl ?_
  refine Ey_i2l 285 dL_law_284 rfl ?_
  refine Ey_ldc2 288 (v := 4294967295) dL_law_285 kL_19 rfl ?_
  refine Ey_land 289 dL_law_288 rfl ?_
  refine Ey_lor 290 dL_law_289 rfl ?_
  refine Ey_aload_n 291 (i := 0) dL_law_290 rfl rfl rfl ?_
  refine Ey_iload 293 dL_law_291 rfl rfl ?_
  refine Ey_iconst 294 (v := 3) dL_law_293 (by decide) rfl ?_
  refine Ey_iadd 295 dL_law_294 rfl ?_
  refine Ey_sld 296 (i + 3) dL_law_295 (hm_ad rfl rfl) (by omega) (by omega) rfl ?_
  refine Ey_i2l 297 dL_law_296 rfl ?_
  refine Ey_bipush 299 (v := 32) dL_law_297 (by decide) rfl ?_
  refine Ey_lshl 300 dL_law_299 rfl ?_
  refine Ey_aload_n 301 (i := 0) dL_law_300 rfl rfl rfl ?_
  refine Ey_iload 303 dL_law_301 rfl rfl ?_
  refine Ey_iconst 304 (v := 4) dL_law_303 (by decide) rfl ?_
  refine Ey_iadd 305 dL_law_304 rfl ?_
  refine Ey_sld 306 (i + 4) dL_law_305 (hm_ad rfl rfl) (by omega) (by omega) rfl ?_
  refine Ey_i2l 307 dL_law_306 rfl ?_
  refine Ey_ldc2 310 (v := 4294967295) dL_law_307 kL_19 rfl ?_
  refine Ey_land 311 dL_law_310 rfl ?_
  refine Ey_lor 312 dL_law_311 rfl ?_
  refine Ey_aload_n 313 (i := 0) dL_law_312 rfl rfl rfl ?_
  refine Ey_iload 315 dL_law_313 rfl rfl ?_
  refine Ey_iconst 316 (v := 5) dL_law_315 (by decide) rfl ?_
  refine Ey_iadd 317 dL_law_316 rfl ?_
  refine Ey_sld 318 (i + 5) dL_law_317 (hm_ad rfl rfl) (by omega) (by omega) rfl ?_
  refine Ey_i2l 319 dL_law_318 rfl ?_
  refine Ey_bipush 321 (v := 32) dL_law_319 (by decide) rfl ?_
  refine Ey_lshl 322 dL_law_321 rfl ?_
  refine Ey_aload_n 323 (i := 0) dL_law_322 rfl rfl rfl ?_
  refine Ey_iload 325 dL_law_323 rfl rfl ?_
  refine Ey_bipush 327 (v := 6) dL_law_325 (by decide) rfl ?_
  refine Ey_iadd 328 dL_law_327 rfl ?_
  refine Ey_sld 329 (i + 6) dL_law_328 (hm_ad rfl rfl) (by omega) (by omega) rfl ?_
  refine Ey_i2l 330 dL_law_329 rfl ?_
  refine Ey_ldc2 333 (v := 4294967295) dL_law_330 kL_19 rfl ?_
  refine Ey_land 334 dL_law_333 rfl ?_
  refine Ey_lor 335 dL_law_334 rfl ?_
  refine Ey_callV (M' := MX9_feed) 338 [.long ((((xs (i + 1)).toInt64) <<< ((32 : Int32).toInt64 &&& 63)) ||| (((xs (i + 2)).toInt64) &&& 4294967295)), .long ((((xs (i + 3)).toInt64) <<< ((32 : Int32).toInt64 &&& 63)) ||| (((xs (i + 4)).toInt64) &&& 4294967295)), .long ((((xs (i + 5)).toInt64) <<< ((32 : Int32).toInt64 &&& 63)) ||| (((xs (i + 6)).toInt64) &&& 4294967295))] (rest := [.int (nI (hmPut8 (hmPut8 (hmPut8 (zT Z) ((((xs (i + 1)).toInt64) <<< ((32 : Int32).toInt64 &&& 63)) ||| (((xs (i + 2)).toInt64) &&& 4294967295)) 8) ((((xs (i + 3)).toInt64) <<< ((32 : Int32).toInt64 &&& 63)) ||| (((xs (i + 4)).toInt64) &&& 4294967295)) 8) ((((xs (i + 5)).toInt64) <<< ((32 : Int32).toInt64 &&& 63)) ||| (((xs (i + 6)).toInt64) &&& 4294967295)) 8).length)]) dL_law_335 lL_25 mX9_feed rfl (xMs_0 hr.gX) rfl (Nat.le_of_ble_eq_true rfl) (Nat.le_of_ble_eq_true rfl) rfl ?_
  refine mq_feed hr1.gX hr1.gT (fun I2 g1 g2 g3 => ?_)
  simp only [Option.toList, List.cons_append, List.nil_append]
  have hr2 := hr1.tp g1 g2 g3
  have hc2 := hc1.out (fun x a1 => g1 x (by omega) (by omega)) (fun _ _ => rfl)
  refine Ey_icmp_eq 341 1304 dL_law_338 (by decide) rfl (fun c1 => ?_) (fun c1 => absurd c1 (not_not_intro rfl))
  exact hK _ _ _ _ _ _ _ _ _ hc2 hr2 (hz.ts hb (hmPut8_mem (hmPut8_mem (hmPut8_mem hz.2.2.2.2.2.2.1 8) 8) 8))
set_option maxHeartbeats 4000000 in
theorem lc_ring {d kc ks b i s Ln h dk dd pl pd e : Nat} {nm : String} {xs : Nat → Int32} {sh : xSh} {R : xR} {L : xL} {I : xI} {Q : xQ} {Z : hmZ} (hc : zC sh R L I h dk dd pl pd e Z) (hr : zR sh R L I (h + 169) Z) (hz : zOk Z b) (hb : b + 1 ≤ 600) (hi : i + 7 ≤ Ln) (hLn : Ln ≤ 3584) (hK : ∀ (R' : xR) (L' : xL) (I' : xI) (dk' dd' pl' pd' e' : Nat) (Z' : hmZ), zC sh R' L' I' h dk' dd' pl' pd' e' Z' → zR sh R' L' I' (h + 169) Z' → zOk Z' (b + 1) → Ey (xLX s Ln xs) (d + 60) kc ks (Mlaw nm) 0 sh R' L' I' 1304 [some (.ref s), some (.ref h), some (.ref (h + 169)), some (.ref (h + 207)), some (.int (nI i)), none, none] [] Q) : Ey (xLX s Ln xs) (d + 60) kc ks (Mlaw nm) 0 sh R L I 468 [some (.ref s), some (.ref h), some (.ref (h + 169)), some (.ref (h + 207)), some (.int (nI i)), none, none] [] Q := by
  cases hq : hmRingOk (zO Z) (zH Z) (xs (i + 1)) with
  | false =>
    refine Ey_aload_n 469 (i := 1) dL_law_468 rfl rfl rfl ?_
    refine Ey_aload_n 470 (i := 0) dL_law_469 rfl rfl rfl ?_
    refine Ey_iload 472 dL_law_470 rfl rfl ?_
    refine Ey_iconst 473 (v := 1) dL_law_472 (by decide) rfl ?_
    refine Ey_iadd 474 dL_law_473 rfl ?_
    refine Ey_sld 475 (i + 1) dL_law_474 (hm_ad rfl rfl) (by omega) (by omega) rfl ?_
    refine Ey_callV (M' := MX8_ring) 478 [.int (xs (i + 1))] (rest := []) dL_law_475 lL_49 mX8_ring rfl (xH_0 hc.gX) rfl (Nat.le_of_ble_eq_true rfl) (Nat.le_of_ble_eq_true rfl) rfl ?_
    refine c_ring hc.gX hc.gO hz.1 hc.gH hz.gk hc.gP (fun _ => ?_) (fun hy => absurd hy (by rw [hq]; decide))
    simp only [Option.toList, List.cons_append, List.nil_append]
    refine Ey_aload_n 479 (i := 2) dL_law_478 rfl rfl rfl ?_
    refine Ey_aload_n 480 (i := 0) dL_law_479 rfl rfl rfl ?_
    refine Ey_iload 482 dL_law_480 rfl rfl ?_
    refine Ey_iconst 483 (v := 1) dL_law_482 (by decide) rfl ?_
    refine Ey_iadd 484 dL_law_483 rfl ?_
    refine Ey_sld 485 (i + 1) dL_law_484 (hm_ad rfl rfl) (by omega) (by omega) rfl ?_
    refine Ey_callV (M' := MX9_ring) 488 [.int (xs (i + 1))] (rest := [.int (-1)]) dL_law_485 lL_52 mX9_ring rfl (xMs_0 hr.gX) rfl (Nat.le_of_ble_eq_true rfl) (Nat.le_of_ble_eq_true rfl) rfl ?_
    refine mq_ring hr.gX hr.gH hr.gO hz.1 hz.gk hr.gP (fun _ => ?_) (fun hy => absurd hy (by rw [hq]; decide))
    simp only [Option.toList, List.cons_append, List.nil_append]
    have hr2 := hr.th
    have hc2 := hc.out (I' := hmTh I (h + 169)) (L' := L) (fun x a1 => zth_ne (by omega)) (fun _ _ => rfl)
    refine Ey_icmp_eq 491 1304 dL_law_488 (by decide) rfl (fun c1 => ?_) (fun c1 => absurd c1 (not_not_intro rfl))
    exact hK _ _ _ _ _ _ _ _ _ hc2 hr2 (hz.up hb)
  | true =>
    refine Ey_aload_n 469 (i := 1) dL_law_468 rfl rfl rfl ?_
    refine Ey_aload_n 470 (i := 0) dL_law_469 rfl rfl rfl ?_
    refine Ey_iload 472 dL_law_470 rfl rfl ?_
    refine Ey_iconst 473 (v := 1) dL_law_472 (by decide) rfl ?_
    refine Ey_iadd 474 dL_law_473 rfl ?_
    refine Ey_sld 475 (i + 1) dL_law_474 (hm_ad rfl rfl) (by omega) (by omega) rfl ?_
    refine Ey_callV (M' := MX8_ring) 478 [.int (xs (i + 1))] (rest := []) dL_law_475 lL_49 mX8_ring rfl (xH_0 hc.gX) rfl (Nat.le_of_ble_eq_true rfl) (Nat.le_of_ble_eq_true rfl) rfl ?_
    refine c_ring hc.gX hc.gO hz.1 hc.gH hz.gk hc.gP (fun hn => absurd (hn.symm.trans hq) (by decide)) (fun _ I1 f1 g1 p1 => ?_)
    simp only [Option.toList, List.cons_append, List.nil_append]
    have hc1 := hc.km f1 g1 p1
    have hr1 := hr.out (fun x a1 a2 => zkm_hi hc f1 x (by omega)) (fun _ _ _ => rfl)
    refine Ey_aload_n 479 (i := 2) dL_law_478 rfl rfl rfl ?_
    refine Ey_aload_n 480 (i := 0) dL_law_479 rfl rfl rfl ?_
    refine Ey_iload 482 dL_law_480 rfl rfl ?_
    refine Ey_iconst 483 (v := 1) dL_law_482 (by decide) rfl ?_
    refine Ey_iadd 484 dL_law_483 rfl ?_
    refine Ey_sld 485 (i + 1) dL_law_484 (hm_ad rfl rfl) (by omega) (by omega) rfl ?_
    refine Ey_callV (M' := MX9_ring) 488 [.int (xs (i + 1))] (rest := [.int (nI (hmLine (zH Z)).length)]) dL_law_485 lL_52 mX9_ring rfl (xMs_0 hr.gX) rfl (Nat.le_of_ble_eq_true rfl) (Nat.le_of_ble_eq_true rfl) rfl ?_
    refine mq_ring hr1.gX hr1.gH hr1.gO hz.1 hz.gk hr1.gP (fun hn => absurd (hn.symm.trans hq) (by decide)) (fun _ I2 f2 g2 p2 => ?_)
    simp only [Option.toList, List.cons_append, List.nil_append]
    have hr2 := hr1.km f2 g2 p2
    have hc2 := hc1.out (fun x a1 => zKM_lo f2 x (by omega)) (fun _ _ => rfl)
    refine Ey_icmp_eq 491 1304 dL_law_488 (by decide) rfl (fun c41 => ?_) (fun c41 => absurd c41 (not_not_intro rfl))
    exact hK _ _ _ _ _ _ _ _ _ hc2 hr2 (hz.hp1 hb (zHk_come hz.1 hz.2.1 hq))
set_option maxHeartbeats 4000000 in
theorem lc_off {d kc ks b i s Ln h dk dd pl pd e : Nat} {nm : String} {xs : Nat → Int32} {sh : xSh} {R : xR} {L : xL} {I : xI} {Q : xQ} {Z : hmZ} (hc : zC sh R L I h dk dd pl pd e Z) (hr : zR sh R L I (h + 169) Z) (hz : zOk Z b) (hb : b + 1 ≤ 600) (hi : i + 7 ≤ Ln) (hLn : Ln ≤ 3584) (hK : ∀ (R' : xR) (L' : xL) (I' : xI) (dk' dd' pl' pd' e' : Nat) (Z' : hmZ), zC sh R' L' I' h dk' dd' pl' pd' e' Z' → zR sh R' L' I' (h + 169) Z' → zOk Z' (b + 1) → Ey (xLX s Ln xs) (d + 60) kc ks (Mlaw nm) 0 sh R' L' I' 1304 [some (.ref s), some (.ref h), some (.ref (h + 169)), some (.ref (h + 207)), some (.int (nI i)), none, none] [] Q) : Ey (xLX s Ln xs) (d + 60) kc ks (Mlaw nm) 0 sh R L I 493 [some (.ref s), some (.ref h), some (.ref (h + 169)), some (.ref (h + 207)), some (.int (nI i)), none, none] [] Q := by
  cases hq : hmOn (hmN (zO Z)) (zH Z) (xs (i + 1)) with
  | false =>
    refine Ey_aload_n 494 (i := 1) dL_law_493 rfl rfl rfl ?_
    refine Ey_aload_n 495 (i := 0) dL_law_494 rfl rfl rfl ?_
    refine Ey_iload 497 dL_law_495 rfl rfl ?_
    refine Ey_iconst 498 (v := 1) dL_law_497 (by decide) rfl ?_
    refine Ey_iadd 499 dL_law_498 rfl ?_
    refine Ey_sld 500 (i + 1) dL_law_499 (hm_ad rfl rfl) (by omega) (by omega) rfl ?_
    refine Ey_callV (M' := MX8_off) 503 [.int (xs (i + 1))] (rest := []) dL_law_500 lL_53 mX8_off rfl (xH_0 hc.gX) rfl (Nat.le_of_ble_eq_true rfl) (Nat.le_of_ble_eq_true rfl) rfl ?_
    refine c_off hc.gX hc.gO hz.1 hc.gH hz.gk hc.gP (fun _ => ?_) (fun hy => absurd hy (by rw [hq]; decide))
    simp only [Option.toList, List.cons_append, List.nil_append]
    refine Ey_aload_n 504 (i := 2) dL_law_503 rfl rfl rfl ?_
    refine Ey_aload_n 505 (i := 0) dL_law_504 rfl rfl rfl ?_
    refine Ey_iload 507 dL_law_505 rfl rfl ?_
    refine Ey_iconst 508 (v := 1) dL_law_507 (by decide) rfl ?_
    refine Ey_iadd 509 dL_law_508 rfl ?_
    refine Ey_sld 510 (i + 1) dL_law_509 (hm_ad rfl rfl) (by omega) (by omega) rfl ?_
    refine Ey_callV (M' := MX9_off) 513 [.int (xs (i + 1))] (rest := [.int 0]) dL_law_510 lL_57 mX9_off rfl (xMs_0 hr.gX) rfl (Nat.le_of_ble_eq_true rfl) (Nat.le_of_ble_eq_true rfl) rfl ?_
    refine mq_off hr.gX hr.gH hr.gO hz.1 hz.gk hr.gP (fun _ => ?_) (fun hy => absurd hy (by rw [hq]; decide))
    simp only [Option.toList, List.cons_append, List.nil_append]
    have hr2 := hr.th
    have hc2 := hc.out (I' := hmTh I (h + 169)) (L' := L) (fun x a1 => zth_ne (by omega)) (fun _ _ => rfl)
    refine Ey_icmp_eq 516 1304 dL_law_513 (by decide) rfl (fun c1 => ?_) (fun c1 => absurd c1 (not_not_intro rfl))
    exact hK _ _ _ _ _ _ _ _ _ hc2 hr2 (hz.up hb)
  | true =>
    refine Ey_aload_n 494 (i := 1) dL_law_493 rfl rfl rfl ?_
    refine Ey_aload_n 495 (i := 0) dL_law_494 rfl rfl rfl ?_
    refine Ey_iload 497 dL_law_495 rfl rfl ?_
    refine Ey_iconst 498 (v := 1) dL_law_497 (by decide) rfl ?_
    refine Ey_iadd 499 dL_law_498 rfl ?_
    refine Ey_sld 500 (i + 1) dL_law_499 (hm_ad rfl rfl) (by omega) (by omega) rfl ?_
    refine Ey_callV (M' := MX8_off) 503 [.int (xs (i + 1))] (rest := []) dL_law_500 lL_53 mX8_off rfl (xH_0 hc.gX) rfl (Nat.le_of_ble_eq_true rfl) (Nat.le_of_ble_eq_true rfl) rfl ?_
    refine c_off hc.gX hc.gO hz.1 hc.gH hz.gk hc.gP (fun hn => absurd (hn.symm.trans hq) (by decide)) (fun _ I1 f1 g1 p1 => ?_)
    simp only [Option.toList, List.cons_append, List.nil_append]
    have hc1 := hc.km f1 g1 p1
    have hr1 := hr.out (fun x a1 a2 => zkm_hi hc f1 x (by omega)) (fun _ _ _ => rfl)
    refine Ey_aload_n 504 (i := 2) dL_law_503 rfl rfl rfl ?_
    refine Ey_aload_n 505 (i := 0) dL_law_504 rfl rfl rfl ?_
    refine Ey_iload 507 dL_law_505 rfl rfl ?_
    refine Ey_iconst 508 (v := 1) dL_law_507 (by decide) rfl ?_
    refine Ey_iadd 509 dL_law_508 rfl ?_
    refine Ey_sld 510 (i + 1) dL_law_509 (hm_ad rfl rfl) (by omega) (by omega) rfl ?_
    refine Ey_callV (M' := MX9_off) 513 [.int (xs (i + 1))] (rest := [.int 1]) dL_law_510 lL_57 mX9_off rfl (xMs_0 hr.gX) rfl (Nat.le_of_ble_eq_true rfl) (Nat.le_of_ble_eq_true rfl) rfl ?_
    refine mq_off hr1.gX hr1.gH hr1.gO hz.1 hz.gk hr1.gP (fun hn => absurd (hn.symm.trans hq) (by decide)) (fun _ I2 f2 g2 p2 => ?_)
    simp only [Option.toList, List.cons_append, List.nil_append]
    have hr2 := hr1.km f2 g2 p2
    have hc2 := hc1.out (fun x a1 => zKM_lo f2 x (by omega)) (fun _ _ => rfl)
    refine Ey_icmp_eq 516 1304 dL_law_513 (by decide) rfl (fun c41 => ?_) (fun c41 => absurd c41 (not_not_intro rfl))
    exact hK _ _ _ _ _ _ _ _ _ hc2 hr2 (hz.hp1 hb (zHk_leave hz.2.1))
set_option maxHeartbeats 4000000 in
theorem lc_swap {d kc ks b i s Ln h dk dd pl pd e : Nat} {nm : String} {xs : Nat → Int32} {sh : xSh} {R : xR} {L : xL} {I : xI} {Q : xQ} {Z : hmZ} (hc : zC sh R L I h dk dd pl pd e Z) (hr : zR sh R L I (h + 169) Z) (hz : zOk Z b) (hb : b + 1 ≤ 600) (hi : i + 7 ≤ Ln) (hLn : Ln ≤ 3584) (hK : ∀ (R' : xR) (L' : xL) (I' : xI) (dk' dd' pl' pd' e' : Nat) (Z' : hmZ), zC sh R' L' I' h dk' dd' pl' pd' e' Z' → zR sh R' L' I' (h + 169) Z' → zOk Z' (b + 1) → Ey (xLX s Ln xs) (d + 60) kc ks (Mlaw nm) 0 sh R' L' I' 1304 [some (.ref s), some (.ref h), some (.ref (h + 169)), some (.ref (h + 207)), some (.int (nI i)), none, none] [] Q) : Ey (xLX s Ln xs) (d + 60) kc ks (Mlaw nm) 0 sh R L I 518 [some (.ref s), some (.ref h), some (.ref (h + 169)), some (.ref (h + 207)), some (.int (nI i)), none, none] [] Q := by
  cases hq : hmSwapOk (zO Z) (zH Z) (xs (i + 1)) (xs (i + 2)) with
  | false =>
    refine Ey_aload_n 519 (i := 1) dL_law_518 rfl rfl rfl ?_
    refine Ey_aload_n 520 (i := 0) dL_law_519 rfl rfl rfl ?_
    refine Ey_iload 522 dL_law_520 rfl rfl ?_
    refine Ey_iconst 523 (v := 1) dL_law_522 (by decide) rfl ?_
    refine Ey_iadd 524 dL_law_523 rfl ?_
    refine Ey_sld 525 (i + 1) dL_law_524 (hm_ad rfl rfl) (by omega) (by omega) rfl ?_
    refine Ey_aload_n 526 (i := 0) dL_law_525 rfl rfl rfl ?_
    refine Ey_iload 528 dL_law_526 rfl rfl ?_
    refine Ey_iconst 529 (v := 2) dL_law_528 (by decide) rfl ?_
    refine Ey_iadd 530 dL_law_529 rfl ?_
    refine Ey_sld 531 (i + 2) dL_law_530 (hm_ad rfl rfl) (by omega) (by omega) rfl ?_
    refine Ey_callV (M' := MX8_swap) 534 [.int (xs (i + 1)), .int (xs (i + 2))] (rest := []) dL_law_531 lL_58 mX8_swap rfl (xH_0 hc.gX) rfl (Nat.le_of_ble_eq_true rfl) (Nat.le_of_ble_eq_true rfl) rfl ?_
    refine c_swap hc.gX hc.gO hz.1 hc.gH hz.gk hc.gP (fun _ => ?_) (fun hy => absurd hy (by rw [hq]; decide))
    simp only [Option.toList, List.cons_append, List.nil_append]
    refine Ey_aload_n 535 (i := 2) dL_law_534 rfl rfl rfl ?_
    refine Ey_aload_n 536 (i := 0) dL_law_535 rfl rfl rfl ?_
    refine Ey_iload 538 dL_law_536 rfl rfl ?_
    refine Ey_iconst 539 (v := 1) dL_law_538 (by decide) rfl ?_
    refine Ey_iadd 540 dL_law_539 rfl ?_
    refine Ey_sld 541 (i + 1) dL_law_540 (hm_ad rfl rfl) (by omega) (by omega) rfl ?_
    refine Ey_aload_n 542 (i := 0) dL_law_541 rfl rfl rfl ?_
    refine Ey_iload 544 dL_law_542 rfl rfl ?_
    refine Ey_iconst 545 (v := 2) dL_law_544 (by decide) rfl ?_
    refine Ey_iadd 546 dL_law_545 rfl ?_
    refine Ey_sld 547 (i + 2) dL_law_546 (hm_ad rfl rfl) (by omega) (by omega) rfl ?_
    refine Ey_callV (M' := MX9_swap) 550 [.int (xs (i + 1)), .int (xs (i + 2))] (rest := [.int 0]) dL_law_547 lL_62 mX9_swap rfl (xMs_0 hr.gX) rfl (Nat.le_of_ble_eq_true rfl) (Nat.le_of_ble_eq_true rfl) rfl ?_
    refine mq_swap hr.gX hr.gH hr.gO hz.1 hz.gk hr.gP (fun _ => ?_) (fun hy => absurd hy (by rw [hq]; decide))
    simp only [Option.toList, List.cons_append, List.nil_append]
    have hr2 := hr.th
    have hc2 := hc.out (I' := hmTh I (h + 169)) (L' := L) (fun x a1 => zth_ne (by omega)) (fun _ _ => rfl)
    refine Ey_icmp_eq 553 1304 dL_law_550 (by decide) rfl (fun c1 => ?_) (fun c1 => absurd c1 (not_not_intro rfl))
    exact hK _ _ _ _ _ _ _ _ _ hc2 hr2 (hz.up hb)
  | true =>
    refine Ey_aload_n 519 (i := 1) dL_law_518 rfl rfl rfl ?_
    refine Ey_aload_n 520 (i := 0) dL_law_519 rfl rfl rfl ?_
    refine Ey_iload 522 dL_law_520 rfl rfl ?_
    refine Ey_iconst 523 (v := 1) dL_law_522 (by decide) rfl ?_
    refine Ey_iadd 524 dL_law_523 rfl ?_
    refine Ey_sld 525 (i + 1) dL_law_524 (hm_ad rfl rfl) (by omega) (by omega) rfl ?_
    refine Ey_aload_n 526 (i := 0) dL_law_525 rfl rfl rfl ?_
    refine Ey_iload 528 dL_law_526 rfl rfl ?_
    refine Ey_iconst 529 (v := 2) dL_law_528 (by decide) rfl ?_
    refine Ey_iadd 530 dL_law_529 rfl ?_
    refine Ey_sld 531 (i + 2) dL_law_530 (hm_ad rfl rfl) (by omega) (by omega) rfl ?_
    refine Ey_callV (M' := MX8_swap) 534 [.int (xs (i + 1)), .int (xs (i + 2))] (rest := []) dL_law_531 lL_58 mX8_swap rfl (xH_0 hc.gX) rfl (Nat.le_of_ble_eq_true rfl) (Nat.le_of_ble_eq_true rfl) rfl ?_
    refine c_swap hc.gX hc.gO hz.1 hc.gH hz.gk hc.gP (fun hn => absurd (hn.symm.trans hq) (by decide)) (fun _ I1 f1 g1 p1 => ?_)
    simp only [Option.toList, List.cons_append, List.nil_append]
    have hc1 := hc.km f1 g1 p1
    have hr1 := hr.out (fun x a1 a2 => zkm_hi hc f1 x (by omega)) (fun _ _ _ => rfl)
    refine Ey_aload_n 535 (i := 2) dL_law_534 rfl rfl rfl ?_
    refine Ey_aload_n 536 (i := 0) dL_law_535 rfl rfl rfl ?_
    refine Ey_iload 538 dL_law_536 rfl rfl ?_
    refine Ey_iconst 539 (v := 1) dL_law_538 (by decide) rfl ?_
    refine Ey_iadd 540 dL_law_539 rfl ?_
    refine Ey_sld 541 (i + 1) dL_law_540 (hm_ad rfl rfl) (by omega) (by omega) rfl ?_
    refine Ey_aload_n 542 (i := 0) dL_law_541 rfl rfl rfl ?_
    refine Ey_iload 544 dL_law_542 rfl rfl ?_
    refine Ey_iconst 545 (v := 2) dL_law_544 (by decide) rfl ?_
    refine Ey_iadd 546 dL_law_545 rfl ?_
    refine Ey_sld 547 (i + 2) dL_law_546 (hm_ad rfl rfl) (by omega) (by omega) rfl ?_
    refine Ey_callV (M' := MX9_swap) 550 [.int (xs (i + 1)), .int (xs (i + 2))] (rest := [.int 1]) dL_law_547 lL_62 mX9_swap rfl (xMs_0 hr.gX) rfl (Nat.le_of_ble_eq_true rfl) (Nat.le_of_ble_eq_true rfl) rfl ?_
    refine mq_swap hr1.gX hr1.gH hr1.gO hz.1 hz.gk hr1.gP (fun hn => absurd (hn.symm.trans hq) (by decide)) (fun _ I2 f2 g2 p2 => ?_)
    simp only [Option.toList, List.cons_append, List.nil_append]
    have hr2 := hr1.km f2 g2 p2
    have hc2 := hc1.out (fun x a1 => zKM_lo f2 x (by omega)) (fun _ _ => rfl)
    refine Ey_icmp_eq 553 1304 dL_law_550 (by decide) rfl (fun c41 => ?_) (fun c41 => absurd c41 (not_not_intro rfl))
    exact hK _ _ _ _ _ _ _ _ _ hc2 hr2 (hz.hp1 hb (zHk_swap hz.2.1))
set_option maxHeartbeats 4000000 in
theorem lc_minute {d kc ks b i s Ln h dk dd pl pd e : Nat} {nm : String} {xs : Nat → Int32} {sh : xSh} {R : xR} {L : xL} {I : xI} {Q : xQ} {Z : hmZ} (hc : zC sh R L I h dk dd pl pd e Z) (hr : zR sh R L I (h + 169) Z) (hz : zOk Z b) (hb : b + 1 ≤ 600) (hi : i + 7 ≤ Ln) (hLn : Ln ≤ 3584) (hK : ∀ (R' : xR) (L' : xL) (I' : xI) (dk' dd' pl' pd' e' : Nat) (Z' : hmZ), zC sh R' L' I' h dk' dd' pl' pd' e' Z' → zR sh R' L' I' (h + 169) Z' → zOk Z' (b + 1) → Ey (xLX s Ln xs) (d + 60) kc ks (Mlaw nm) 0 sh R' L' I' 1304 [some (.ref s), some (.ref h), some (.ref (h + 169)), some (.ref (h + 207)), some (.int (nI i)), none, none] [] Q) : Ey (xLX s Ln xs) (d + 60) kc ks (Mlaw nm) 0 sh R L I 555 [some (.ref s), some (.ref h), some (.ref (h + 169)), some (.ref (h + 207)), some (.int (nI i)), none, none] [] Q := by
  refine Ey_aload_n 556 (i := 1) dL_law_555 rfl rfl rfl ?_
  refine Ey_callV (M' := MX8_minute) 559 [] (rest := []) dL_law_556 lL_63 mX8_minute rfl (xH_0 hc.gX) rfl (Nat.le_of_ble_eq_true rfl) (Nat.le_of_ble_eq_true rfl) rfl ?_
  refine c_minute hc.gX hc.gO hz.1 hc.gH hz.gk hc.gP hz.gmn (fun I1 f1 g1 p1 => ?_)
  simp only [Option.toList, List.cons_append, List.nil_append]
  have hc1 := hc.km f1 g1 p1
  have hr1 := hr.out (fun x a1 a2 => zkm_hi hc f1 x (by omega)) (fun _ _ _ => rfl)
  refine Ey_aload_n 560 (i := 2) dL_law_559 rfl rfl rfl ?_
  refine Ey_callV (M' := MX9_minute) 563 [] (rest := [.int (hmSet (hmMinute (zO Z) (hmTk (zO Z)) (zH Z)) &&& (hmSet (zH Z) ^^^ -1))]) dL_law_560 lL_66 mX9_minute rfl (xMs_0 hr.gX) rfl (Nat.le_of_ble_eq_true rfl) (Nat.le_of_ble_eq_true rfl) rfl ?_
  refine mq_minute hr1.gX hr1.gH hr1.gO hz.1 hz.gk hr1.gP hr1.gK hz.gmn (fun I2 f2 g2 p2 => ?_)
  simp only [Option.toList, List.cons_append, List.nil_append]
  have hr2 := hr1.km f2 g2 p2
  have hc2 := hc1.out (fun x a1 => zKM_lo f2 x (by omega)) (fun _ _ => rfl)
  refine Ey_icmp_eq 566 1304 dL_law_563 (by decide) rfl (fun c1 => ?_) (fun c1 => absurd c1 (not_not_intro rfl))
  exact hK _ _ _ _ _ _ _ _ _ hc2 hr2 (hz.hp1 hb (zHk_minute hz.1 hz.2.1))
set_option maxHeartbeats 4000000 in
theorem lc_undo {d kc ks b i s Ln h dk dd pl pd e : Nat} {nm : String} {xs : Nat → Int32} {sh : xSh} {R : xR} {L : xL} {I : xI} {Q : xQ} {Z : hmZ} (hc : zC sh R L I h dk dd pl pd e Z) (hr : zR sh R L I (h + 169) Z) (hz : zOk Z b) (hb : b + 1 ≤ 600) (hi : i + 7 ≤ Ln) (hLn : Ln ≤ 3584) (hK : ∀ (R' : xR) (L' : xL) (I' : xI) (dk' dd' pl' pd' e' : Nat) (Z' : hmZ), zC sh R' L' I' h dk' dd' pl' pd' e' Z' → zR sh R' L' I' (h + 169) Z' → zOk Z' (b + 1) → Ey (xLX s Ln xs) (d + 60) kc ks (Mlaw nm) 0 sh R' L' I' 1304 [some (.ref s), some (.ref h), some (.ref (h + 169)), some (.ref (h + 207)), some (.int (nI i)), none, none] [] Q) : Ey (xLX s Ln xs) (d + 60) kc ks (Mlaw nm) 0 sh R L I 568 [some (.ref s), some (.ref h), some (.ref (h + 169)), some (.ref (h + 207)), some (.int (nI i)), none, none] [] Q := by
  cases hq : zP Z with
  | nil =>
    refine Ey_aload_n 569 (i := 1) dL_law_568 rfl rfl rfl ?_
    refine Ey_callV (M' := MX8_undo) 572 [] (rest := []) dL_law_569 lL_67 mX8_undo rfl (xH_0 hc.gX) rfl (Nat.le_of_ble_eq_true rfl) (Nat.le_of_ble_eq_true rfl) rfl ?_
    refine c_undo hc.gX hc.gP (fun _ => ?_) (fun G P1 hy => absurd (hq.symm.trans hy) (by simp))
    simp only [Option.toList, List.cons_append, List.nil_append]
    refine Ey_aload_n 573 (i := 2) dL_law_572 rfl rfl rfl ?_
    refine Ey_callV (M' := MX9_undo) 576 [] (rest := [.int 0]) dL_law_573 lL_71 mX9_undo rfl (xMs_0 hr.gX) rfl (Nat.le_of_ble_eq_true rfl) (Nat.le_of_ble_eq_true rfl) rfl ?_
    refine mq_undo hr.gX hr.gP (fun _ => ?_) (fun G P1 hy => absurd (hq.symm.trans hy) (by simp))
    simp only [Option.toList, List.cons_append, List.nil_append]
    have hr2 := hr.th
    have hc2 := hc.out (I' := hmTh I (h + 169)) (L' := L) (fun x a1 => zth_ne (by omega)) (fun _ _ => rfl)
    refine Ey_icmp_eq 579 1304 dL_law_576 (by decide) rfl (fun c1 => ?_) (fun c1 => absurd c1 (not_not_intro rfl))
    exact hK _ _ _ _ _ _ _ _ _ hc2 hr2 (hz.up hb)
  | cons G P0 =>
    refine Ey_aload_n 569 (i := 1) dL_law_568 rfl rfl rfl ?_
    refine Ey_callV (M' := MX8_undo) 572 [] (rest := []) dL_law_569 lL_67 mX8_undo rfl (xH_0 hc.gX) rfl (Nat.le_of_ble_eq_true rfl) (Nat.le_of_ble_eq_true rfl) rfl ?_
    refine c_undo hc.gX hc.gP (fun hn => absurd (hq.symm.trans hn) (by simp)) (fun G1 P2 hy I1 f1 g1 p1 => ?_)
    simp only [Option.toList, List.cons_append, List.nil_append]
    obtain ⟨rfl, rfl⟩ := List.cons.inj (hq.symm.trans hy)
    have f1 : hmKm h dk I I1 := ⟨fun x a1 a2 a3 a4 _ => f1.1 x a1 a2 a3 a4, f1.2.1, f1.2.2⟩
    have hc1 := hc.km f1 g1 p1
    have hr1 := hr.out (fun x a1 a2 => zkm_hi hc f1 x (by omega)) (fun _ _ _ => rfl)
    refine Ey_aload_n 573 (i := 2) dL_law_572 rfl rfl rfl ?_
    refine Ey_callV (M' := MX9_undo) 576 [] (rest := [.int 1]) dL_law_573 lL_71 mX9_undo rfl (xMs_0 hr.gX) rfl (Nat.le_of_ble_eq_true rfl) (Nat.le_of_ble_eq_true rfl) rfl ?_
    refine mq_undo hr1.gX hr1.gP (fun hn => absurd (hq.symm.trans hn) (by simp)) (fun G2 P3 hy I2 f2 g2 p2 => ?_)
    simp only [Option.toList, List.cons_append, List.nil_append]
    obtain ⟨rfl, rfl⟩ := List.cons.inj (hq.symm.trans hy)
    have hr2 := hr1.km f2 g2 p2
    have hc2 := hc1.out (fun x a1 => zKM_lo f2 x (by omega)) (fun _ _ => rfl)
    refine Ey_icmp_eq 579 1304 dL_law_576 (by decide) rfl (fun c41 => ?_) (fun c41 => absurd c41 (not_not_intro rfl))
    exact hK _ _ _ _ _ _ _ _ _ hc2 hr2 (hz.hp hb ((hz.up hb).2.2.2.1 _ (by rw [hq]; exact List.mem_cons_self ..)) (fun G hG => (hz.up hb).2.2.2.1 _ (by rw [hq]; exact List.mem_cons_of_mem _ hG)))
set_option maxHeartbeats 4000000 in
theorem lc_tell {d kc ks b i s Ln h dk dd pl pd e : Nat} {nm : String} {xs : Nat → Int32} {sh : xSh} {R : xR} {L : xL} {I : xI} {Q : xQ} {Z : hmZ} (hc : zC sh R L I h dk dd pl pd e Z) (hr : zR sh R L I (h + 169) Z) (hz : zOk Z b) (hb : b + 1 ≤ 600) (hi : i + 7 ≤ Ln) (hLn : Ln ≤ 3584) (hK : ∀ (R' : xR) (L' : xL) (I' : xI) (dk' dd' pl' pd' e' : Nat) (Z' : hmZ), zC sh R' L' I' h dk' dd' pl' pd' e' Z' → zR sh R' L' I' (h + 169) Z' → zOk Z' (b + 1) → Ey (xLX s Ln xs) (d + 60) kc ks (Mlaw nm) 0 sh R' L' I' 1304 [some (.ref s), some (.ref h), some (.ref (h + 169)), some (.ref (h + 207)), some (.int (nI i)), none, none] [] Q) : Ey (xLX s Ln xs) (d + 60) kc ks (Mlaw nm) 0 sh R L I 944 [some (.ref s), some (.ref h), some (.ref (h + 169)), some (.ref (h + 207)), some (.int (nI i)), none, none] [] Q := by
  by_cases hv : xs (i + 2) = 0
  · refine Ey_aload_n 945 (i := 1) dL_law_944 rfl rfl rfl ?_
    refine Ey_aload_n 946 (i := 0) dL_law_945 rfl rfl rfl ?_
    refine Ey_iload 948 dL_law_946 rfl rfl ?_
    refine Ey_iconst 949 (v := 1) dL_law_948 (by decide) rfl ?_
    refine Ey_iadd 950 dL_law_949 rfl ?_
    refine Ey_sld 951 (i + 1) dL_law_950 (hm_ad rfl rfl) (by omega) (by omega) rfl ?_
    refine Ey_aload_n 952 (i := 0) dL_law_951 rfl rfl rfl ?_
    refine Ey_iload 954 dL_law_952 rfl rfl ?_
    refine Ey_iconst 955 (v := 2) dL_law_954 (by decide) rfl ?_
    refine Ey_iadd 956 dL_law_955 rfl ?_
    refine Ey_sld 957 (i + 2) dL_law_956 (hm_ad rfl rfl) (by omega) (by omega) rfl ?_
    refine Ey_if_eq 960 964 dL_law_957 (by decide) rfl (fun c1 => ?_) (fun c1 => absurd c1 (not_not_intro hv))
    refine Ey_iconst 965 (v := 0) dL_law_964 (by decide) rfl ?_
    refine Ey_callV (M' := MX8_tell) 968 [.int (xs (i + 1)), .int 0] (rest := []) dL_law_965 lL_132 mX8_tell rfl (xH_0 hc.gX) rfl (Nat.le_of_ble_eq_true rfl) (Nat.le_of_ble_eq_true rfl) rfl ?_
    refine c_tell (b := false) hc.gX hc.gO hz.1 hc.gH hz.gk hc.gT1 hc.gT2 (fun I1 f1 f2 f3 f4 => ?_)
    simp only [Option.toList, List.cons_append, List.nil_append]
    have hw : ∃ W, W = (if hmCal (hmN (zO Z)) (xs (i + 1)) = true then va_up (zW Z) (hmIx (xs (i + 1))) (some false) else zW Z) ∧ I1 h 11 = hmTb W ∧ I1 h 12 = hmTs W ∧ ∀ w, hmN (zO Z) ≤ w → W w = none := by
      cases hq : hmCal (hmN (zO Z)) (xs (i + 1)) with
      | false =>
        refine ⟨zW Z, (if_neg (by decide)).symm, ?_⟩
        rw [f3 hq]
        exact ⟨hc.gT1, hc.gT2, hz.gtn⟩
      | true =>
        refine ⟨_, (if_pos rfl).symm, (f4 hq).1, (f4 hq).2, fun w hw => ?_⟩
        rw [va_up_ne _ _ (by have := hmCal_ix hq; omega)]
        exact hz.gtn w hw
    obtain ⟨W, hW, hW1, hW2, hW3⟩ := hw
    have hc1 := hc.ws f1 f2 hW1 hW2
    have hr1 := hr.out (fun x a1 a2 => f1 x (by omega)) (fun _ _ _ => rfl)
    refine Ey_aload_n 969 (i := 2) dL_law_968 rfl rfl rfl ?_
    refine Ey_aload_n 970 (i := 0) dL_law_969 rfl rfl rfl ?_
    refine Ey_iload 972 dL_law_970 rfl rfl ?_
    refine Ey_iconst 973 (v := 1) dL_law_972 (by decide) rfl ?_
    refine Ey_iadd 974 dL_law_973 rfl ?_
    refine Ey_sld 975 (i + 1) dL_law_974 (hm_ad rfl rfl) (by omega) (by omega) rfl ?_
    refine Ey_aload_n 976 (i := 0) dL_law_975 rfl rfl rfl ?_
    refine Ey_iload 978 dL_law_976 rfl rfl ?_
    refine Ey_iconst 979 (v := 2) dL_law_978 (by decide) rfl ?_
    refine Ey_iadd 980 dL_law_979 rfl ?_
    refine Ey_sld 981 (i + 2) dL_law_980 (hm_ad rfl rfl) (by omega) (by omega) rfl ?_
    refine Ey_if_eq 984 988 dL_law_981 (by decide) rfl (fun c2 => ?_) (fun c2 => absurd c2 (not_not_intro hv))
    refine Ey_iconst 989 (v := 0) dL_law_988 (by decide) rfl ?_
    refine Ey_callV (M' := MX9_tell) 992 [.int (xs (i + 1)), .int 0] (rest := [.int (hmB (hmCal (hmN (zO Z)) (xs (i + 1))))]) dL_law_989 lL_136 mX9_tell rfl (xMs_0 hr.gX) rfl (Nat.le_of_ble_eq_true rfl) (Nat.le_of_ble_eq_true rfl) rfl ?_
    refine mq_tell (b := false) hr1.gX hr1.gH hr1.gO hz.1 hz.gk hr1.gW (fun I2 g1 g2 g3 g4 => ?_)
    simp only [Option.toList, List.cons_append, List.nil_append]
    rw [← hW] at g4
    have hr2 := hr1.ws g1 g2 g3 g4
    have hc2 := hc1.out (fun x a1 => g1 x (by omega) (by omega)) (fun _ _ => rfl)
    refine Ey_icmp_eq 995 1304 dL_law_992 (by decide) rfl (fun c3 => ?_) (fun c3 => absurd c3 (not_not_intro rfl))
    exact hK _ _ _ _ _ _ _ _ _ hc2 hr2 (hz.ws hb hW3)
  · refine Ey_aload_n 945 (i := 1) dL_law_944 rfl rfl rfl ?_
    refine Ey_aload_n 946 (i := 0) dL_law_945 rfl rfl rfl ?_
    refine Ey_iload 948 dL_law_946 rfl rfl ?_
    refine Ey_iconst 949 (v := 1) dL_law_948 (by decide) rfl ?_
    refine Ey_iadd 950 dL_law_949 rfl ?_
    refine Ey_sld 951 (i + 1) dL_law_950 (hm_ad rfl rfl) (by omega) (by omega) rfl ?_
    refine Ey_aload_n 952 (i := 0) dL_law_951 rfl rfl rfl ?_
    refine Ey_iload 954 dL_law_952 rfl rfl ?_
    refine Ey_iconst 955 (v := 2) dL_law_954 (by decide) rfl ?_
    refine Ey_iadd 956 dL_law_955 rfl ?_
    refine Ey_sld 957 (i + 2) dL_law_956 (hm_ad rfl rfl) (by omega) (by omega) rfl ?_
    refine Ey_if_eq 960 964 dL_law_957 (by decide) rfl (fun c41 => absurd c41 hv) (fun c41 => ?_)
    refine Ey_iconst 961 (v := 1) dL_law_960 (by decide) rfl ?_
    refine Ey_goto 965 dL_law_961 (by decide) ?_
    refine Ey_callV (M' := MX8_tell) 968 [.int (xs (i + 1)), .int 1] (rest := []) dL_law_965 lL_132 mX8_tell rfl (xH_0 hc.gX) rfl (Nat.le_of_ble_eq_true rfl) (Nat.le_of_ble_eq_true rfl) rfl ?_
    refine c_tell (b := true) hc.gX hc.gO hz.1 hc.gH hz.gk hc.gT1 hc.gT2 (fun I1 f1 f2 f3 f4 => ?_)
    simp only [Option.toList, List.cons_append, List.nil_append]
    have hw : ∃ W, W = (if hmCal (hmN (zO Z)) (xs (i + 1)) = true then va_up (zW Z) (hmIx (xs (i + 1))) (some true) else zW Z) ∧ I1 h 11 = hmTb W ∧ I1 h 12 = hmTs W ∧ ∀ w, hmN (zO Z) ≤ w → W w = none := by
      cases hq : hmCal (hmN (zO Z)) (xs (i + 1)) with
      | false =>
        refine ⟨zW Z, (if_neg (by decide)).symm, ?_⟩
        rw [f3 hq]
        exact ⟨hc.gT1, hc.gT2, hz.gtn⟩
      | true =>
        refine ⟨_, (if_pos rfl).symm, (f4 hq).1, (f4 hq).2, fun w hw => ?_⟩
        rw [va_up_ne _ _ (by have := hmCal_ix hq; omega)]
        exact hz.gtn w hw
    obtain ⟨W, hW, hW1, hW2, hW3⟩ := hw
    have hc1 := hc.ws f1 f2 hW1 hW2
    have hr1 := hr.out (fun x a1 a2 => f1 x (by omega)) (fun _ _ _ => rfl)
    refine Ey_aload_n 969 (i := 2) dL_law_968 rfl rfl rfl ?_
    refine Ey_aload_n 970 (i := 0) dL_law_969 rfl rfl rfl ?_
    refine Ey_iload 972 dL_law_970 rfl rfl ?_
    refine Ey_iconst 973 (v := 1) dL_law_972 (by decide) rfl ?_
    refine Ey_iadd 974 dL_law_973 rfl ?_
    refine Ey_sld 975 (i + 1) dL_law_974 (hm_ad rfl rfl) (by omega) (by omega) rfl ?_
    refine Ey_aload_n 976 (i := 0) dL_law_975 rfl rfl rfl ?_
    refine Ey_iload 978 dL_law_976 rfl rfl ?_
    refine Ey_iconst 979 (v := 2) dL_law_978 (by decide) rfl ?_
    refine Ey_iadd 980 dL_law_979 rfl ?_
    refine Ey_sld 981 (i + 2) dL_law_980 (hm_ad rfl rfl) (by omega) (by omega) rfl ?_
    refine Ey_if_eq 984 988 dL_law_981 (by decide) rfl (fun c42 => absurd c42 hv) (fun c42 => ?_)
    refine Ey_iconst 985 (v := 1) dL_law_984 (by decide) rfl ?_
    refine Ey_goto 989 dL_law_985 (by decide) ?_
    refine Ey_callV (M' := MX9_tell) 992 [.int (xs (i + 1)), .int 1] (rest := [.int (hmB (hmCal (hmN (zO Z)) (xs (i + 1))))]) dL_law_989 lL_136 mX9_tell rfl (xMs_0 hr.gX) rfl (Nat.le_of_ble_eq_true rfl) (Nat.le_of_ble_eq_true rfl) rfl ?_
    refine mq_tell (b := true) hr1.gX hr1.gH hr1.gO hz.1 hz.gk hr1.gW (fun I2 g1 g2 g3 g4 => ?_)
    simp only [Option.toList, List.cons_append, List.nil_append]
    rw [← hW] at g4
    have hr2 := hr1.ws g1 g2 g3 g4
    have hc2 := hc1.out (fun x a1 => g1 x (by omega) (by omega)) (fun _ _ => rfl)
    refine Ey_icmp_eq 995 1304 dL_law_992 (by decide) rfl (fun c43 => ?_) (fun c43 => absurd c43 (not_not_intro rfl))
    exact hK _ _ _ _ _ _ _ _ _ hc2 hr2 (hz.ws hb hW3)
set_option maxHeartbeats 4000000 in
theorem lc_mark {d kc ks b i s Ln h dk dd pl pd e : Nat} {nm : String} {xs : Nat → Int32} {sh : xSh} {R : xR} {L : xL} {I : xI} {Q : xQ} {Z : hmZ} (hc : zC sh R L I h dk dd pl pd e Z) (hr : zR sh R L I (h + 169) Z) (hz : zOk Z b) (hb : b + 1 ≤ 600) (hi : i + 7 ≤ Ln) (hLn : Ln ≤ 3584) (hK : ∀ (R' : xR) (L' : xL) (I' : xI) (dk' dd' pl' pd' e' : Nat) (Z' : hmZ), zC sh R' L' I' h dk' dd' pl' pd' e' Z' → zR sh R' L' I' (h + 169) Z' → zOk Z' (b + 1) → Ey (xLX s Ln xs) (d + 60) kc ks (Mlaw nm) 0 sh R' L' I' 1304 [some (.ref s), some (.ref h), some (.ref (h + 169)), some (.ref (h + 207)), some (.int (nI i)), none, none] [] Q) : Ey (xLX s Ln xs) (d + 60) kc ks (Mlaw nm) 0 sh R L I 1226 [some (.ref s), some (.ref h), some (.ref (h + 169)), some (.ref (h + 207)), some (.int (nI i)), none, none] [] Q := by
  by_cases hv : xs (i + 2) = 0
  · cases hcl : hmCal 4 (xs (i + 1)) with
    | false =>
      have hno : hmCal 4 (xs (i + 1)) = false ∨ (false = true ∧ zM Z (hmIx (xs (i + 1))) = none) := Or.inl hcl
      refine Ey_aload_n 1227 (i := 1) dL_law_1226 rfl rfl rfl ?_
      refine Ey_aload_n 1228 (i := 0) dL_law_1227 rfl rfl rfl ?_
      refine Ey_iload 1230 dL_law_1228 rfl rfl ?_
      refine Ey_iconst 1231 (v := 1) dL_law_1230 (by decide) rfl ?_
      refine Ey_iadd 1232 dL_law_1231 rfl ?_
      refine Ey_sld 1233 (i + 1) dL_law_1232 (hm_ad rfl rfl) (by omega) (by omega) rfl ?_
      refine Ey_aload_n 1234 (i := 0) dL_law_1233 rfl rfl rfl ?_
      refine Ey_iload 1236 dL_law_1234 rfl rfl ?_
      refine Ey_iconst 1237 (v := 2) dL_law_1236 (by decide) rfl ?_
      refine Ey_iadd 1238 dL_law_1237 rfl ?_
      refine Ey_sld 1239 (i + 2) dL_law_1238 (hm_ad rfl rfl) (by omega) (by omega) rfl ?_
      refine Ey_if_eq 1242 1246 dL_law_1239 (by decide) rfl (fun c1 => ?_) (fun c1 => absurd c1 (not_not_intro hv))
      refine Ey_iconst 1247 (v := 0) dL_law_1246 (by decide) rfl ?_
      refine Ey_callV (M' := MX8_mark) 1250 [.int (xs (i + 1)), .int 0] (rest := []) dL_law_1247 lL_167 mX8_mark rfl (xH_0 hc.gX) rfl (Nat.le_of_ble_eq_true rfl) (Nat.le_of_ble_eq_true rfl) rfl ?_
      refine c_mark (b := false) hc.gX hc.gH hc.gD hc.gT1 hc.gT2 hc.gM (fun _ => ?_) (fun h1 h2 => absurd hno (by simp [h1])) (fun h1 h2 => absurd h2 (by decide))
      simp only [Option.toList, List.cons_append, List.nil_append]
      refine Ey_aload_n 1251 (i := 2) dL_law_1250 rfl rfl rfl ?_
      refine Ey_aload_n 1252 (i := 0) dL_law_1251 rfl rfl rfl ?_
      refine Ey_iload 1254 dL_law_1252 rfl rfl ?_
      refine Ey_iconst 1255 (v := 1) dL_law_1254 (by decide) rfl ?_
      refine Ey_iadd 1256 dL_law_1255 rfl ?_
      refine Ey_sld 1257 (i + 1) dL_law_1256 (hm_ad rfl rfl) (by omega) (by omega) rfl ?_
      refine Ey_aload_n 1258 (i := 0) dL_law_1257 rfl rfl rfl ?_
      refine Ey_iload 1260 dL_law_1258 rfl rfl ?_
      refine Ey_iconst 1261 (v := 2) dL_law_1260 (by decide) rfl ?_
      refine Ey_iadd 1262 dL_law_1261 rfl ?_
      refine Ey_sld 1263 (i + 2) dL_law_1262 (hm_ad rfl rfl) (by omega) (by omega) rfl ?_
      refine Ey_if_eq 1266 1270 dL_law_1263 (by decide) rfl (fun c2 => ?_) (fun c2 => absurd c2 (not_not_intro hv))
      refine Ey_iconst 1271 (v := 0) dL_law_1270 (by decide) rfl ?_
      refine Ey_callV (M' := MX9_mark) 1274 [.int (xs (i + 1)), .int 0] (rest := [.int 0]) dL_law_1271 lL_170 mX9_mark rfl (xMs_0 hr.gX) rfl (Nat.le_of_ble_eq_true rfl) (Nat.le_of_ble_eq_true rfl) rfl ?_
      refine mq_mark (b := false) hr.gX hr.gH hr.gD hr.gW hr.gM (fun _ => ?_) (fun h1 h2 => absurd hno (by simp [h1])) (fun h1 h2 => absurd h2 (by decide))
      simp only [Option.toList, List.cons_append, List.nil_append]
      have hr2 := hr.th
      have hc2 := hc.out (I' := hmTh I (h + 169)) (L' := L) (fun x a1 => zth_ne (by omega)) (fun _ _ => rfl)
      refine Ey_icmp_eq 1277 1304 dL_law_1274 (by decide) rfl (fun c3 => ?_) (fun c3 => absurd c3 (not_not_intro rfl))
      exact hK _ _ _ _ _ _ _ _ _ hc2 hr2 (hz.up hb)
    | true =>
      refine Ey_aload_n 1227 (i := 1) dL_law_1226 rfl rfl rfl ?_
      refine Ey_aload_n 1228 (i := 0) dL_law_1227 rfl rfl rfl ?_
      refine Ey_iload 1230 dL_law_1228 rfl rfl ?_
      refine Ey_iconst 1231 (v := 1) dL_law_1230 (by decide) rfl ?_
      refine Ey_iadd 1232 dL_law_1231 rfl ?_
      refine Ey_sld 1233 (i + 1) dL_law_1232 (hm_ad rfl rfl) (by omega) (by omega) rfl ?_
      refine Ey_aload_n 1234 (i := 0) dL_law_1233 rfl rfl rfl ?_
      refine Ey_iload 1236 dL_law_1234 rfl rfl ?_
      refine Ey_iconst 1237 (v := 2) dL_law_1236 (by decide) rfl ?_
      refine Ey_iadd 1238 dL_law_1237 rfl ?_
      refine Ey_sld 1239 (i + 2) dL_law_1238 (hm_ad rfl rfl) (by omega) (by omega) rfl ?_
      refine Ey_if_eq 1242 1246 dL_law_1239 (by decide) rfl (fun c21 => ?_) (fun c21 => absurd c21 (not_not_intro hv))
      refine Ey_iconst 1247 (v := 0) dL_law_1246 (by decide) rfl ?_
      refine Ey_callV (M' := MX8_mark) 1250 [.int (xs (i + 1)), .int 0] (rest := []) dL_law_1247 lL_167 mX8_mark rfl (xH_0 hc.gX) rfl (Nat.le_of_ble_eq_true rfl) (Nat.le_of_ble_eq_true rfl) rfl ?_
      refine c_mark (b := false) hc.gX hc.gH hc.gD hc.gT1 hc.gT2 hc.gM (fun h1 => absurd h1 (by simp [hcl])) (fun _ _ I1 f1 g1 => ?_) (fun h1 h2 => absurd h2 (by decide))
      simp only [Option.toList, List.cons_append, List.nil_append]
      have hc1 := hc.ms (hmCal_ix hcl) f1 g1
      have hr1 := hr.out (fun x a1 a2 => f1 x (by have := hmCal_ix hcl; omega)) (fun _ _ _ => rfl)
      refine Ey_aload_n 1251 (i := 2) dL_law_1250 rfl rfl rfl ?_
      refine Ey_aload_n 1252 (i := 0) dL_law_1251 rfl rfl rfl ?_
      refine Ey_iload 1254 dL_law_1252 rfl rfl ?_
      refine Ey_iconst 1255 (v := 1) dL_law_1254 (by decide) rfl ?_
      refine Ey_iadd 1256 dL_law_1255 rfl ?_
      refine Ey_sld 1257 (i + 1) dL_law_1256 (hm_ad rfl rfl) (by omega) (by omega) rfl ?_
      refine Ey_aload_n 1258 (i := 0) dL_law_1257 rfl rfl rfl ?_
      refine Ey_iload 1260 dL_law_1258 rfl rfl ?_
      refine Ey_iconst 1261 (v := 2) dL_law_1260 (by decide) rfl ?_
      refine Ey_iadd 1262 dL_law_1261 rfl ?_
      refine Ey_sld 1263 (i + 2) dL_law_1262 (hm_ad rfl rfl) (by omega) (by omega) rfl ?_
      refine Ey_if_eq 1266 1270 dL_law_1263 (by decide) rfl (fun c22 => ?_) (fun c22 => absurd c22 (not_not_intro hv))
      refine Ey_iconst 1271 (v := 0) dL_law_1270 (by decide) rfl ?_
      refine Ey_callV (M' := MX9_mark) 1274 [.int (xs (i + 1)), .int 0] (rest := [.int 1]) dL_law_1271 lL_170 mX9_mark rfl (xMs_0 hr.gX) rfl (Nat.le_of_ble_eq_true rfl) (Nat.le_of_ble_eq_true rfl) rfl ?_
      refine mq_mark (b := false) hr1.gX hr1.gH hr1.gD hr1.gW hr1.gM (fun h1 => absurd h1 (by simp [hcl])) (fun _ _ I2 f2 g2 g3 g4 g5 => ?_) (fun h1 h2 => absurd h2 (by decide))
      simp only [Option.toList, List.cons_append, List.nil_append]
      have hr2 := hr1.ms f2 g2 g3 g4 g5
      have hc2 := hc1.out (fun x a1 => (f2 x (by omega) (by omega) (by omega)).trans (zth_ne (by omega))) (fun _ _ => rfl)
      refine Ey_icmp_eq 1277 1304 dL_law_1274 (by decide) rfl (fun c23 => ?_) (fun c23 => absurd c23 (not_not_intro rfl))
      exact hK _ _ _ _ _ _ _ _ _ hc2 hr2 (hz.ms hb)
  · cases hcl : hmCal 4 (xs (i + 1)) with
    | false =>
      have hno : hmCal 4 (xs (i + 1)) = false ∨ (true = true ∧ zM Z (hmIx (xs (i + 1))) = none) := Or.inl hcl
      refine Ey_aload_n 1227 (i := 1) dL_law_1226 rfl rfl rfl ?_
      refine Ey_aload_n 1228 (i := 0) dL_law_1227 rfl rfl rfl ?_
      refine Ey_iload 1230 dL_law_1228 rfl rfl ?_
      refine Ey_iconst 1231 (v := 1) dL_law_1230 (by decide) rfl ?_
      refine Ey_iadd 1232 dL_law_1231 rfl ?_
      refine Ey_sld 1233 (i + 1) dL_law_1232 (hm_ad rfl rfl) (by omega) (by omega) rfl ?_
      refine Ey_aload_n 1234 (i := 0) dL_law_1233 rfl rfl rfl ?_
      refine Ey_iload 1236 dL_law_1234 rfl rfl ?_
      refine Ey_iconst 1237 (v := 2) dL_law_1236 (by decide) rfl ?_
      refine Ey_iadd 1238 dL_law_1237 rfl ?_
      refine Ey_sld 1239 (i + 2) dL_law_1238 (hm_ad rfl rfl) (by omega) (by omega) rfl ?_
      refine Ey_if_eq 1242 1246 dL_law_1239 (by decide) rfl (fun c41 => absurd c41 hv) (fun c41 => ?_)
      refine Ey_iconst 1243 (v := 1) dL_law_1242 (by decide) rfl ?_
      refine Ey_goto 1247 dL_law_1243 (by decide) ?_
      refine Ey_callV (M' := MX8_mark) 1250 [.int (xs (i + 1)), .int 1] (rest := []) dL_law_1247 lL_167 mX8_mark rfl (xH_0 hc.gX) rfl (Nat.le_of_ble_eq_true rfl) (Nat.le_of_ble_eq_true rfl) rfl ?_
      refine c_mark (b := true) hc.gX hc.gH hc.gD hc.gT1 hc.gT2 hc.gM (fun _ => ?_) (fun h1 h2 => absurd h2 (by decide)) (fun h1 h2 H1 D1 t1 h3 => absurd hno (by simp [h1, h3]))
      simp only [Option.toList, List.cons_append, List.nil_append]
      refine Ey_aload_n 1251 (i := 2) dL_law_1250 rfl rfl rfl ?_
      refine Ey_aload_n 1252 (i := 0) dL_law_1251 rfl rfl rfl ?_
      refine Ey_iload 1254 dL_law_1252 rfl rfl ?_
      refine Ey_iconst 1255 (v := 1) dL_law_1254 (by decide) rfl ?_
      refine Ey_iadd 1256 dL_law_1255 rfl ?_
      refine Ey_sld 1257 (i + 1) dL_law_1256 (hm_ad rfl rfl) (by omega) (by omega) rfl ?_
      refine Ey_aload_n 1258 (i := 0) dL_law_1257 rfl rfl rfl ?_
      refine Ey_iload 1260 dL_law_1258 rfl rfl ?_
      refine Ey_iconst 1261 (v := 2) dL_law_1260 (by decide) rfl ?_
      refine Ey_iadd 1262 dL_law_1261 rfl ?_
      refine Ey_sld 1263 (i + 2) dL_law_1262 (hm_ad rfl rfl) (by omega) (by omega) rfl ?_
      refine Ey_if_eq 1266 1270 dL_law_1263 (by decide) rfl (fun c42 => absurd c42 hv) (fun c42 => ?_)
      refine Ey_iconst 1267 (v := 1) dL_law_1266 (by decide) rfl ?_
      refine Ey_goto 1271 dL_law_1267 (by decide) ?_
      refine Ey_callV (M' := MX9_mark) 1274 [.int (xs (i + 1)), .int 1] (rest := [.int 0]) dL_law_1271 lL_170 mX9_mark rfl (xMs_0 hr.gX) rfl (Nat.le_of_ble_eq_true rfl) (Nat.le_of_ble_eq_true rfl) rfl ?_
      refine mq_mark (b := true) hr.gX hr.gH hr.gD hr.gW hr.gM (fun _ => ?_) (fun h1 h2 => absurd h2 (by decide)) (fun h1 h2 H1 D1 t1 h3 => absurd hno (by simp [h1, h3]))
      simp only [Option.toList, List.cons_append, List.nil_append]
      have hr2 := hr.th
      have hc2 := hc.out (I' := hmTh I (h + 169)) (L' := L) (fun x a1 => zth_ne (by omega)) (fun _ _ => rfl)
      refine Ey_icmp_eq 1277 1304 dL_law_1274 (by decide) rfl (fun c43 => ?_) (fun c43 => absurd c43 (not_not_intro rfl))
      exact hK _ _ _ _ _ _ _ _ _ hc2 hr2 (hz.up hb)
    | true =>
      cases hM : zM Z (hmIx (xs (i + 1))) with
      | none =>
        have hno : hmCal 4 (xs (i + 1)) = false ∨ (true = true ∧ zM Z (hmIx (xs (i + 1))) = none) := Or.inr ⟨rfl, hM⟩
        refine Ey_aload_n 1227 (i := 1) dL_law_1226 rfl rfl rfl ?_
        refine Ey_aload_n 1228 (i := 0) dL_law_1227 rfl rfl rfl ?_
        refine Ey_iload 1230 dL_law_1228 rfl rfl ?_
        refine Ey_iconst 1231 (v := 1) dL_law_1230 (by decide) rfl ?_
        refine Ey_iadd 1232 dL_law_1231 rfl ?_
        refine Ey_sld 1233 (i + 1) dL_law_1232 (hm_ad rfl rfl) (by omega) (by omega) rfl ?_
        refine Ey_aload_n 1234 (i := 0) dL_law_1233 rfl rfl rfl ?_
        refine Ey_iload 1236 dL_law_1234 rfl rfl ?_
        refine Ey_iconst 1237 (v := 2) dL_law_1236 (by decide) rfl ?_
        refine Ey_iadd 1238 dL_law_1237 rfl ?_
        refine Ey_sld 1239 (i + 2) dL_law_1238 (hm_ad rfl rfl) (by omega) (by omega) rfl ?_
        refine Ey_if_eq 1242 1246 dL_law_1239 (by decide) rfl (fun c61 => absurd c61 hv) (fun c61 => ?_)
        refine Ey_iconst 1243 (v := 1) dL_law_1242 (by decide) rfl ?_
        refine Ey_goto 1247 dL_law_1243 (by decide) ?_
        refine Ey_callV (M' := MX8_mark) 1250 [.int (xs (i + 1)), .int 1] (rest := []) dL_law_1247 lL_167 mX8_mark rfl (xH_0 hc.gX) rfl (Nat.le_of_ble_eq_true rfl) (Nat.le_of_ble_eq_true rfl) rfl ?_
        refine c_mark (b := true) hc.gX hc.gH hc.gD hc.gT1 hc.gT2 hc.gM (fun _ => ?_) (fun h1 h2 => absurd h2 (by decide)) (fun h1 h2 H1 D1 t1 h3 => absurd hno (by simp [h1, h3]))
        simp only [Option.toList, List.cons_append, List.nil_append]
        refine Ey_aload_n 1251 (i := 2) dL_law_1250 rfl rfl rfl ?_
        refine Ey_aload_n 1252 (i := 0) dL_law_1251 rfl rfl rfl ?_
        refine Ey_iload 1254 dL_law_1252 rfl rfl ?_
        refine Ey_iconst 1255 (v := 1) dL_law_1254 (by decide) rfl ?_
        refine Ey_iadd 1256 dL_law_1255 rfl ?_
        refine Ey_sld 1257 (i + 1) dL_law_1256 (hm_ad rfl rfl) (by omega) (by omega) rfl ?_
        refine Ey_aload_n 1258 (i := 0) dL_law_1257 rfl rfl rfl ?_
        refine Ey_iload 1260 dL_law_1258 rfl rfl ?_
        refine Ey_iconst 1261 (v := 2) dL_law_1260 (by decide) rfl ?_
        refine Ey_iadd 1262 dL_law_1261 rfl ?_
        refine Ey_sld 1263 (i + 2) dL_law_1262 (hm_ad rfl rfl) (by omega) (by omega) rfl ?_
        refine Ey_if_eq 1266 1270 dL_law_1263 (by decide) rfl (fun c62 => absurd c62 hv) (fun c62 => ?_)
        refine Ey_iconst 1267 (v := 1) dL_law_1266 (by decide) rfl ?_
        refine Ey_goto 1271 dL_law_1267 (by decide) ?_
        refine Ey_callV (M' := MX9_mark) 1274 [.int (xs (i + 1)), .int 1] (rest := [.int 0]) dL_law_1271 lL_170 mX9_mark rfl (xMs_0 hr.gX) rfl (Nat.le_of_ble_eq_true rfl) (Nat.le_of_ble_eq_true rfl) rfl ?_
        refine mq_mark (b := true) hr.gX hr.gH hr.gD hr.gW hr.gM (fun _ => ?_) (fun h1 h2 => absurd h2 (by decide)) (fun h1 h2 H1 D1 t1 h3 => absurd hno (by simp [h1, h3]))
        simp only [Option.toList, List.cons_append, List.nil_append]
        have hr2 := hr.th
        have hc2 := hc.out (I' := hmTh I (h + 169)) (L' := L) (fun x a1 => zth_ne (by omega)) (fun _ _ => rfl)
        refine Ey_icmp_eq 1277 1304 dL_law_1274 (by decide) rfl (fun c63 => ?_) (fun c63 => absurd c63 (not_not_intro rfl))
        exact hK _ _ _ _ _ _ _ _ _ hc2 hr2 (hz.up hb)
      | some q =>
        obtain ⟨H0, D0, t0⟩ := q
        refine Ey_aload_n 1227 (i := 1) dL_law_1226 rfl rfl rfl ?_
        refine Ey_aload_n 1228 (i := 0) dL_law_1227 rfl rfl rfl ?_
        refine Ey_iload 1230 dL_law_1228 rfl rfl ?_
        refine Ey_iconst 1231 (v := 1) dL_law_1230 (by decide) rfl ?_
        refine Ey_iadd 1232 dL_law_1231 rfl ?_
        refine Ey_sld 1233 (i + 1) dL_law_1232 (hm_ad rfl rfl) (by omega) (by omega) rfl ?_
        refine Ey_aload_n 1234 (i := 0) dL_law_1233 rfl rfl rfl ?_
        refine Ey_iload 1236 dL_law_1234 rfl rfl ?_
        refine Ey_iconst 1237 (v := 2) dL_law_1236 (by decide) rfl ?_
        refine Ey_iadd 1238 dL_law_1237 rfl ?_
        refine Ey_sld 1239 (i + 2) dL_law_1238 (hm_ad rfl rfl) (by omega) (by omega) rfl ?_
        refine Ey_if_eq 1242 1246 dL_law_1239 (by decide) rfl (fun c81 => absurd c81 hv) (fun c81 => ?_)
        refine Ey_iconst 1243 (v := 1) dL_law_1242 (by decide) rfl ?_
        refine Ey_goto 1247 dL_law_1243 (by decide) ?_
        refine Ey_callV (M' := MX8_mark) 1250 [.int (xs (i + 1)), .int 1] (rest := []) dL_law_1247 lL_167 mX8_mark rfl (xH_0 hc.gX) rfl (Nat.le_of_ble_eq_true rfl) (Nat.le_of_ble_eq_true rfl) rfl ?_
        refine c_mark (b := true) hc.gX hc.gH hc.gD hc.gT1 hc.gT2 hc.gM (fun h1 => absurd h1 (by simp [hcl, hM])) (fun h1 h2 => absurd h2 (by decide)) (fun _ _ H1 D1 t1 h3 I1 f1 f2 f3 f4 f5 f6 f7 f8 => ?_)
        simp only [Option.toList, List.cons_append, List.nil_append]
        cases hM.symm.trans h3
        have hc1 := hc.bk f1 f2 f3 f4 f5 f6 f7 f8
        have hd := hc.gK
        have hr1 := hr.out (fun x a1 a2 => f1 x (by omega) (by omega) (by omega) (by omega)) (fun _ _ _ => rfl)
        refine Ey_aload_n 1251 (i := 2) dL_law_1250 rfl rfl rfl ?_
        refine Ey_aload_n 1252 (i := 0) dL_law_1251 rfl rfl rfl ?_
        refine Ey_iload 1254 dL_law_1252 rfl rfl ?_
        refine Ey_iconst 1255 (v := 1) dL_law_1254 (by decide) rfl ?_
        refine Ey_iadd 1256 dL_law_1255 rfl ?_
        refine Ey_sld 1257 (i + 1) dL_law_1256 (hm_ad rfl rfl) (by omega) (by omega) rfl ?_
        refine Ey_aload_n 1258 (i := 0) dL_law_1257 rfl rfl rfl ?_
        refine Ey_iload 1260 dL_law_1258 rfl rfl ?_
        refine Ey_iconst 1261 (v := 2) dL_law_1260 (by decide) rfl ?_
        refine Ey_iadd 1262 dL_law_1261 rfl ?_
        refine Ey_sld 1263 (i + 2) dL_law_1262 (hm_ad rfl rfl) (by omega) (by omega) rfl ?_
        refine Ey_if_eq 1266 1270 dL_law_1263 (by decide) rfl (fun c82 => absurd c82 hv) (fun c82 => ?_)
        refine Ey_iconst 1267 (v := 1) dL_law_1266 (by decide) rfl ?_
        refine Ey_goto 1271 dL_law_1267 (by decide) ?_
        refine Ey_callV (M' := MX9_mark) 1274 [.int (xs (i + 1)), .int 1] (rest := [.int 1]) dL_law_1271 lL_170 mX9_mark rfl (xMs_0 hr.gX) rfl (Nat.le_of_ble_eq_true rfl) (Nat.le_of_ble_eq_true rfl) rfl ?_
        refine mq_mark (b := true) hr1.gX hr1.gH hr1.gD hr1.gW hr1.gM (fun h1 => absurd h1 (by simp [hcl, hM])) (fun h1 h2 => absurd h2 (by decide)) (fun _ _ H2 D2 t2 h3 I2 g1 g2 g3 g4 g5 g6 g7 => ?_)
        simp only [Option.toList, List.cons_append, List.nil_append]
        cases hM.symm.trans h3
        have hr2 := hr1.bk g1 g2 g3 g4 g5 g6 g7
        have hc2 := hc1.out (fun x a1 => (g1 x (by omega) (by omega) (by omega)).trans (zth_ne (by omega))) (fun _ _ => rfl)
        refine Ey_icmp_eq 1277 1304 dL_law_1274 (by decide) rfl (fun c83 => ?_) (fun c83 => absurd c83 (not_not_intro rfl))
        exact hK _ _ _ _ _ _ _ _ _ hc2 hr2 (hz.bk hb hM)
