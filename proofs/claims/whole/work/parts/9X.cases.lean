/-! The cases of the switch, but person -/
theorem lw_case_0 : lw_Go 220 := by
  intro p l e s m below meth c b L xs g D cy sa sb out k H locs h f ls cells slots Q X hL hk hl hc hs hB hS hI
  obtain ⟨r, h1, h2, r1, r2, hI2⟩ := k_feed ((xs (6 * k + 1)).toInt) ((xs (6 * k + 2)).toInt) ((xs (6 * k + 3)).toInt) ((xs (6 * k + 4)).toInt) ((xs (6 * k + 5)).toInt) 0 h hI
  refine lv_aload_n X.1.1 X.1.2.1 dl_220 rfl (lv_at hl 3 rfl) ?_
  refine lw_arg X hL hk hl hS 1 (by decide) dl_221 dl_222 dl_224 dl_225 dl_226 ?_
  refine lw_arg X hL hk hl hS 2 (by decide) dl_227 dl_228 dl_230 dl_231 dl_232 ?_
  refine lw_arg X hL hk hl hS 3 (by decide) dl_233 dl_234 dl_236 dl_237 dl_238 ?_
  refine lw_arg X hL hk hl hS 4 (by decide) dl_239 dl_240 dl_242 dl_243 dl_244 ?_
  refine lw_arg X hL hk hl hS 5 (by decide) dl_245 dl_246 dl_248 dl_249 dl_250 ?_
  refine lw_one X hS hl.1 (pc := 251) (i := 19) (q := 105) (v := (20, 0)) (A0 := [(0, (xs (6 * k + 1)).toInt), (0, (xs (6 * k + 2)).toInt), (0, (xs (6 * k + 3)).toInt), (0, (xs (6 * k + 4)).toInt), (0, (xs (6 * k + 5)).toInt)]) (rest := []) (Nat.le_of_succ_le hc) (Nat.le_trans (Nat.le_add_right _ 6) hs) (by decide) rfl rfl (mm_tw2 171 rfl rfl) rfl rfl (List.forall_mem_cons.mpr ⟨lw_v20, List.forall_mem_cons.mpr ⟨lw_vi _, List.forall_mem_cons.mpr ⟨lw_vi _, List.forall_mem_cons.mpr ⟨lw_vi _, List.forall_mem_cons.mpr ⟨lw_vi _, List.forall_mem_cons.mpr ⟨lw_vi _, fun _ q => nomatch q⟩⟩⟩⟩⟩⟩) r1 (by simp) dl_251 (fun H1 locs1 hS1 => ?_)
  refine lv_aload_n X.1.1 X.1.2.1 dl_254 rfl (lv_at hl 2 rfl) ?_
  refine lw_arg X hL hk hl hS1 1 (by decide) dl_255 dl_256 dl_258 dl_259 dl_260 ?_
  refine lw_arg X hL hk hl hS1 2 (by decide) dl_261 dl_262 dl_264 dl_265 dl_266 ?_
  refine lw_arg X hL hk hl hS1 3 (by decide) dl_267 dl_268 dl_270 dl_271 dl_272 ?_
  refine lw_arg X hL hk hl hS1 4 (by decide) dl_273 dl_274 dl_276 dl_277 dl_278 ?_
  refine lw_arg X hL hk hl hS1 5 (by decide) dl_279 dl_280 dl_282 dl_283 dl_284 ?_
  refine lw_one X hS1 hl.1 (pc := 285) (i := 23) (q := 157) (v := (21, 133)) (A0 := [(0, (xs (6 * k + 1)).toInt), (0, (xs (6 * k + 2)).toInt), (0, (xs (6 * k + 3)).toInt), (0, (xs (6 * k + 4)).toInt), (0, (xs (6 * k + 5)).toInt)]) (rest := [.int (Int32.ofInt r)]) (Nat.le_of_succ_le hc) (Nat.le_trans (Nat.le_add_right _ 6) hs) (by decide) rfl rfl (mm_tw6 76 rfl rfl) rfl rfl (List.forall_mem_cons.mpr ⟨lw_v21, List.forall_mem_cons.mpr ⟨lw_vi _, List.forall_mem_cons.mpr ⟨lw_vi _, List.forall_mem_cons.mpr ⟨lw_vi _, List.forall_mem_cons.mpr ⟨lw_vi _, List.forall_mem_cons.mpr ⟨lw_vi _, fun _ q => nomatch q⟩⟩⟩⟩⟩⟩) r2 (by simp [Value.category]) dl_285 (fun H2 locs2 hS2 => ?_)
  refine lv_icmp_eq (tgt := 1276) X.1.1 X.1.2.1 dl_288 rfl (fun _ => ?_) (fun z => absurd rfl z)
  exact W.widen (Nat.le_succ _) (Nat.le_add_right _ 6) (hB H2 locs2 h2 f ls hS2 hI2 hl)
theorem lw_case_1 : lw_Go 293 := by
  intro p l e s m below meth c b L xs g D cy sa sb out k H locs h f ls cells slots Q X hL hk hl hc hs hB hS hI
  obtain ⟨r, h1, h2, r1, r2, hI2⟩ := k_end ((xs (6 * k + 1)).toInt) 0 h hI
  refine lv_aload_n X.1.1 X.1.2.1 dl_293 rfl (lv_at hl 3 rfl) ?_
  refine lw_arg X hL hk hl hS 1 (by decide) dl_294 dl_295 dl_297 dl_298 dl_299 ?_
  refine lw_one X hS hl.1 (pc := 300) (i := 24) (q := 106) (v := (20, 0)) (A0 := [(0, (xs (6 * k + 1)).toInt)]) (rest := []) (Nat.le_of_succ_le hc) (Nat.le_trans (Nat.le_add_right _ 6) hs) (by decide) rfl rfl (mm_tw2 179 rfl rfl) rfl rfl (List.forall_mem_cons.mpr ⟨lw_v20, List.forall_mem_cons.mpr ⟨lw_vi _, fun _ q => nomatch q⟩⟩) r1 (by simp) dl_300 (fun H1 locs1 hS1 => ?_)
  refine lv_aload_n X.1.1 X.1.2.1 dl_303 rfl (lv_at hl 2 rfl) ?_
  refine lw_arg X hL hk hl hS1 1 (by decide) dl_304 dl_305 dl_307 dl_308 dl_309 ?_
  refine lw_one X hS1 hl.1 (pc := 310) (i := 28) (q := 158) (v := (21, 133)) (A0 := [(0, (xs (6 * k + 1)).toInt)]) (rest := [.int (Int32.ofInt r)]) (Nat.le_of_succ_le hc) (Nat.le_trans (Nat.le_add_right _ 6) hs) (by decide) rfl rfl (mm_tw6 85 rfl rfl) rfl rfl (List.forall_mem_cons.mpr ⟨lw_v21, List.forall_mem_cons.mpr ⟨lw_vi _, fun _ q => nomatch q⟩⟩) r2 (by simp [Value.category]) dl_310 (fun H2 locs2 hS2 => ?_)
  refine lv_icmp_eq (tgt := 1276) X.1.1 X.1.2.1 dl_313 rfl (fun _ => ?_) (fun z => absurd rfl z)
  exact W.widen (Nat.le_succ _) (Nat.le_add_right _ 6) (hB H2 locs2 h2 f ls hS2 hI2 hl)
theorem lw_case_2 : lw_Go 318 := by
  intro p l e s m below meth c b L xs g D cy sa sb out k H locs h f ls cells slots Q X hL hk hl hc hs hB hS hI
  obtain ⟨r, h1, h2, r1, r2, hI2⟩ := k_town 0 h hI
  refine lv_aload_n X.1.1 X.1.2.1 dl_318 rfl (lv_at hl 3 rfl) ?_
  refine lw_one X hS hl.1 (pc := 319) (i := 29) (q := 107) (v := (20, 0)) (A0 := []) (rest := []) (Nat.le_of_succ_le hc) (Nat.le_trans (Nat.le_add_right _ 6) hs) (by decide) rfl rfl (mm_tw2 183 rfl rfl) rfl rfl (List.forall_mem_cons.mpr ⟨lw_v20, fun _ q => nomatch q⟩) r1 (by simp) dl_319 (fun H1 locs1 hS1 => ?_)
  refine lv_aload_n X.1.1 X.1.2.1 dl_322 rfl (lv_at hl 2 rfl) ?_
  refine lw_one X hS1 hl.1 (pc := 323) (i := 33) (q := 195) (v := (21, 133)) (A0 := []) (rest := [.int (Int32.ofInt r)]) (Nat.le_of_succ_le hc) (Nat.le_trans (Nat.le_add_right _ 6) hs) (by decide) rfl rfl (mm_tw7 4 rfl rfl) rfl rfl (List.forall_mem_cons.mpr ⟨lw_v21, fun _ q => nomatch q⟩) r2 (by simp [Value.category]) dl_323 (fun H2 locs2 hS2 => ?_)
  refine lv_icmp_eq (tgt := 1276) X.1.1 X.1.2.1 dl_326 rfl (fun _ => ?_) (fun z => absurd rfl z)
  exact W.widen (Nat.le_succ _) (Nat.le_add_right _ 6) (hB H2 locs2 h2 f ls hS2 hI2 hl)
theorem lw_case_3 : lw_Go 331 := by
  intro p l e s m below meth c b L xs g D cy sa sb out k H locs h f ls cells slots Q X hL hk hl hc hs hB hS hI
  obtain ⟨r, h1, h2, r1, r2, hI2⟩ := k_fault 0 h hI
  refine lv_aload_n X.1.1 X.1.2.1 dl_331 rfl (lv_at hl 3 rfl) ?_
  refine lw_one X hS hl.1 (pc := 332) (i := 34) (q := 108) (v := (20, 0)) (A0 := []) (rest := []) (Nat.le_of_succ_le hc) (Nat.le_trans (Nat.le_add_right _ 6) hs) (by decide) rfl rfl (mm_tw3 118 rfl rfl) rfl rfl (List.forall_mem_cons.mpr ⟨lw_v20, fun _ q => nomatch q⟩) r1 (by simp) dl_332 (fun H1 locs1 hS1 => ?_)
  refine lv_aload_n X.1.1 X.1.2.1 dl_335 rfl (lv_at hl 2 rfl) ?_
  refine lw_one X hS1 hl.1 (pc := 336) (i := 37) (q := 196) (v := (21, 133)) (A0 := []) (rest := [.int (Int32.ofInt r)]) (Nat.le_of_succ_le hc) (Nat.le_trans (Nat.le_add_right _ 6) hs) (by decide) rfl rfl (mm_tw7 127 rfl rfl) rfl rfl (List.forall_mem_cons.mpr ⟨lw_v21, fun _ q => nomatch q⟩) r2 (by simp [Value.category]) dl_336 (fun H2 locs2 hS2 => ?_)
  refine lv_icmp_eq (tgt := 1276) X.1.1 X.1.2.1 dl_339 rfl (fun _ => ?_) (fun z => absurd rfl z)
  exact W.widen (Nat.le_succ _) (Nat.le_add_right _ 6) (hB H2 locs2 h2 f ls hS2 hI2 hl)
theorem lw_case_5 : lw_Go 412 := by
  intro p l e s m below meth c b L xs g D cy sa sb out k H locs h f ls cells slots Q X hL hk hl hc hs hB hS hI
  obtain ⟨r, h1, h2, r1, r2, hI2⟩ := k_work ((xs (6 * k + 1)).toInt) ((xs (6 * k + 2)).toInt) 0 h hI
  refine lv_aload_n X.1.1 X.1.2.1 dl_412 rfl (lv_at hl 3 rfl) ?_
  refine lw_arg X hL hk hl hS 1 (by decide) dl_413 dl_414 dl_416 dl_417 dl_418 ?_
  refine lw_arg X hL hk hl hS 2 (by decide) dl_419 dl_420 dl_422 dl_423 dl_424 ?_
  refine lw_one X hS hl.1 (pc := 425) (i := 47) (q := 109) (v := (20, 0)) (A0 := [(0, (xs (6 * k + 1)).toInt), (0, (xs (6 * k + 2)).toInt)]) (rest := []) (Nat.le_of_succ_le hc) (Nat.le_trans (Nat.le_add_right _ 6) hs) (by decide) rfl rfl (mm_tw3 122 rfl rfl) rfl rfl (List.forall_mem_cons.mpr ⟨lw_v20, List.forall_mem_cons.mpr ⟨lw_vi _, List.forall_mem_cons.mpr ⟨lw_vi _, fun _ q => nomatch q⟩⟩⟩) r1 (by simp) dl_425 (fun H1 locs1 hS1 => ?_)
  refine lv_aload_n X.1.1 X.1.2.1 dl_428 rfl (lv_at hl 2 rfl) ?_
  refine lw_arg X hL hk hl hS1 1 (by decide) dl_429 dl_430 dl_432 dl_433 dl_434 ?_
  refine lw_arg X hL hk hl hS1 2 (by decide) dl_435 dl_436 dl_438 dl_439 dl_440 ?_
  refine lw_one X hS1 hl.1 (pc := 441) (i := 50) (q := 206) (v := (21, 133)) (A0 := [(0, (xs (6 * k + 1)).toInt), (0, (xs (6 * k + 2)).toInt)]) (rest := [.int (Int32.ofInt r)]) (Nat.le_of_succ_le hc) (Nat.le_trans (Nat.le_add_right _ 6) hs) (by decide) rfl rfl (mm_tw7 159 rfl rfl) rfl rfl (List.forall_mem_cons.mpr ⟨lw_v21, List.forall_mem_cons.mpr ⟨lw_vi _, List.forall_mem_cons.mpr ⟨lw_vi _, fun _ q => nomatch q⟩⟩⟩) r2 (by simp [Value.category]) dl_441 (fun H2 locs2 hS2 => ?_)
  refine lv_icmp_eq (tgt := 1276) X.1.1 X.1.2.1 dl_444 rfl (fun _ => ?_) (fun z => absurd rfl z)
  exact W.widen (Nat.le_succ _) (Nat.le_add_right _ 6) (hB H2 locs2 h2 f ls hS2 hI2 hl)
theorem lw_case_6 : lw_Go 449 := by
  intro p l e s m below meth c b L xs g D cy sa sb out k H locs h f ls cells slots Q X hL hk hl hc hs hB hS hI
  obtain ⟨r, h1, h2, r1, r2, hI2⟩ := k_gap ((xs (6 * k + 1)).toInt) 0 h hI
  refine lv_aload_n X.1.1 X.1.2.1 dl_449 rfl (lv_at hl 3 rfl) ?_
  refine lw_arg X hL hk hl hS 1 (by decide) dl_450 dl_451 dl_453 dl_454 dl_455 ?_
  refine lw_one X hS hl.1 (pc := 456) (i := 51) (q := 110) (v := (20, 0)) (A0 := [(0, (xs (6 * k + 1)).toInt)]) (rest := []) (Nat.le_of_succ_le hc) (Nat.le_trans (Nat.le_add_right _ 6) hs) (by decide) rfl rfl (mm_tw3 147 rfl rfl) rfl rfl (List.forall_mem_cons.mpr ⟨lw_v20, List.forall_mem_cons.mpr ⟨lw_vi _, fun _ q => nomatch q⟩⟩) r1 (by simp) dl_456 (fun H1 locs1 hS1 => ?_)
  refine lv_aload_n X.1.1 X.1.2.1 dl_459 rfl (lv_at hl 2 rfl) ?_
  refine lw_arg X hL hk hl hS1 1 (by decide) dl_460 dl_461 dl_463 dl_464 dl_465 ?_
  refine lw_one X hS1 hl.1 (pc := 466) (i := 55) (q := 207) (v := (21, 133)) (A0 := [(0, (xs (6 * k + 1)).toInt)]) (rest := [.int (Int32.ofInt r)]) (Nat.le_of_succ_le hc) (Nat.le_trans (Nat.le_add_right _ 6) hs) (by decide) rfl rfl (mm_tw7 167 rfl rfl) rfl rfl (List.forall_mem_cons.mpr ⟨lw_v21, List.forall_mem_cons.mpr ⟨lw_vi _, fun _ q => nomatch q⟩⟩) r2 (by simp [Value.category]) dl_466 (fun H2 locs2 hS2 => ?_)
  refine lv_icmp_eq (tgt := 1276) X.1.1 X.1.2.1 dl_469 rfl (fun _ => ?_) (fun z => absurd rfl z)
  exact W.widen (Nat.le_succ _) (Nat.le_add_right _ 6) (hB H2 locs2 h2 f ls hS2 hI2 hl)
theorem lw_case_7 : lw_Go 474 := by
  intro p l e s m below meth c b L xs g D cy sa sb out k H locs h f ls cells slots Q X hL hk hl hc hs hB hS hI
  obtain ⟨r, h1, h2, r1, r2, hI2⟩ := k_now ((xs (6 * k + 1)).toInt) 0 h hI
  refine lv_aload_n X.1.1 X.1.2.1 dl_474 rfl (lv_at hl 3 rfl) ?_
  refine lw_arg X hL hk hl hS 1 (by decide) dl_475 dl_476 dl_478 dl_479 dl_480 ?_
  refine lw_one X hS hl.1 (pc := 481) (i := 56) (q := 111) (v := (20, 0)) (A0 := [(0, (xs (6 * k + 1)).toInt)]) (rest := []) (Nat.le_of_succ_le hc) (Nat.le_trans (Nat.le_add_right _ 6) hs) (by decide) rfl rfl (mm_tw3 152 rfl rfl) rfl rfl (List.forall_mem_cons.mpr ⟨lw_v20, List.forall_mem_cons.mpr ⟨lw_vi _, fun _ q => nomatch q⟩⟩) r1 (by simp) dl_481 (fun H1 locs1 hS1 => ?_)
  refine lv_aload_n X.1.1 X.1.2.1 dl_484 rfl (lv_at hl 2 rfl) ?_
  refine lw_arg X hL hk hl hS1 1 (by decide) dl_485 dl_486 dl_488 dl_489 dl_490 ?_
  refine lw_one X hS1 hl.1 (pc := 491) (i := 59) (q := 208) (v := (21, 133)) (A0 := [(0, (xs (6 * k + 1)).toInt)]) (rest := [.int (Int32.ofInt r)]) (Nat.le_of_succ_le hc) (Nat.le_trans (Nat.le_add_right _ 6) hs) (by decide) rfl rfl (mm_tw7 175 rfl rfl) rfl rfl (List.forall_mem_cons.mpr ⟨lw_v21, List.forall_mem_cons.mpr ⟨lw_vi _, fun _ q => nomatch q⟩⟩) r2 (by simp [Value.category]) dl_491 (fun H2 locs2 hS2 => ?_)
  refine lv_icmp_eq (tgt := 1276) X.1.1 X.1.2.1 dl_494 rfl (fun _ => ?_) (fun z => absurd rfl z)
  exact W.widen (Nat.le_succ _) (Nat.le_add_right _ 6) (hB H2 locs2 h2 f ls hS2 hI2 hl)
theorem lw_case_8 : lw_Go 499 := by
  intro p l e s m below meth c b L xs g D cy sa sb out k H locs h f ls cells slots Q X hL hk hl hc hs hB hS hI
  obtain ⟨r, h1, h2, r1, r2, hI2⟩ := k_fright 0 h hI
  refine lv_aload_n X.1.1 X.1.2.1 dl_499 rfl (lv_at hl 3 rfl) ?_
  refine lw_one X hS hl.1 (pc := 500) (i := 60) (q := 112) (v := (20, 0)) (A0 := []) (rest := []) (Nat.le_of_succ_le hc) (Nat.le_trans (Nat.le_add_right _ 6) hs) (by decide) rfl rfl (mm_tw3 158 rfl rfl) rfl rfl (List.forall_mem_cons.mpr ⟨lw_v20, fun _ q => nomatch q⟩) r1 (by simp) dl_500 (fun H1 locs1 hS1 => ?_)
  refine lv_aload_n X.1.1 X.1.2.1 dl_503 rfl (lv_at hl 2 rfl) ?_
  refine lw_one X hS1 hl.1 (pc := 504) (i := 63) (q := 215) (v := (21, 133)) (A0 := []) (rest := [.int (Int32.ofInt r)]) (Nat.le_of_succ_le hc) (Nat.le_trans (Nat.le_add_right _ 6) hs) (by decide) rfl rfl (mm_tw7 179 rfl rfl) rfl rfl (List.forall_mem_cons.mpr ⟨lw_v21, fun _ q => nomatch q⟩) r2 (by simp [Value.category]) dl_504 (fun H2 locs2 hS2 => ?_)
  refine lv_icmp_eq (tgt := 1276) X.1.1 X.1.2.1 dl_507 rfl (fun _ => ?_) (fun z => absurd rfl z)
  exact W.widen (Nat.le_succ _) (Nat.le_add_right _ 6) (hB H2 locs2 h2 f ls hS2 hI2 hl)
theorem lw_case_9 : lw_Go 512 := by
  intro p l e s m below meth c b L xs g D cy sa sb out k H locs h f ls cells slots Q X hL hk hl hc hs hB hS hI
  obtain ⟨r, h1, h2, r1, r2, hI2⟩ := k_cure 0 h hI
  refine lv_aload_n X.1.1 X.1.2.1 dl_512 rfl (lv_at hl 3 rfl) ?_
  refine lw_one X hS hl.1 (pc := 513) (i := 64) (q := 113) (v := (20, 0)) (A0 := []) (rest := []) (Nat.le_of_succ_le hc) (Nat.le_trans (Nat.le_add_right _ 6) hs) (by decide) rfl rfl (mm_tw4 3 rfl rfl) rfl rfl (List.forall_mem_cons.mpr ⟨lw_v20, fun _ q => nomatch q⟩) r1 (by simp) dl_513 (fun H1 locs1 hS1 => ?_)
  refine lv_aload_n X.1.1 X.1.2.1 dl_516 rfl (lv_at hl 2 rfl) ?_
  refine lw_one X hS1 hl.1 (pc := 517) (i := 67) (q := 216) (v := (21, 133)) (A0 := []) (rest := [.int (Int32.ofInt r)]) (Nat.le_of_succ_le hc) (Nat.le_trans (Nat.le_add_right _ 6) hs) (by decide) rfl rfl (mm_tw7 210 rfl rfl) rfl rfl (List.forall_mem_cons.mpr ⟨lw_v21, fun _ q => nomatch q⟩) r2 (by simp [Value.category]) dl_517 (fun H2 locs2 hS2 => ?_)
  refine lv_icmp_eq (tgt := 1276) X.1.1 X.1.2.1 dl_520 rfl (fun _ => ?_) (fun z => absurd rfl z)
  exact W.widen (Nat.le_succ _) (Nat.le_add_right _ 6) (hB H2 locs2 h2 f ls hS2 hI2 hl)
theorem lw_case_10 : lw_Go 525 := by
  intro p l e s m below meth c b L xs g D cy sa sb out k H locs h f ls cells slots Q X hL hk hl hc hs hB hS hI
  obtain ⟨r, h1, h2, r1, r2, hI2⟩ := k_fly 0 h hI
  refine lv_aload_n X.1.1 X.1.2.1 dl_525 rfl (lv_at hl 3 rfl) ?_
  refine lw_one X hS hl.1 (pc := 526) (i := 68) (q := 114) (v := (20, 0)) (A0 := []) (rest := []) (Nat.le_of_succ_le hc) (Nat.le_trans (Nat.le_add_right _ 6) hs) (by decide) rfl rfl (mm_tw4 7 rfl rfl) rfl rfl (List.forall_mem_cons.mpr ⟨lw_v20, fun _ q => nomatch q⟩) r1 (by simp) dl_526 (fun H1 locs1 hS1 => ?_)
  refine lv_aload_n X.1.1 X.1.2.1 dl_529 rfl (lv_at hl 2 rfl) ?_
  refine lw_one X hS1 hl.1 (pc := 530) (i := 71) (q := 217) (v := (21, 133)) (A0 := []) (rest := [.int (Int32.ofInt r)]) (Nat.le_of_succ_le hc) (Nat.le_trans (Nat.le_add_right _ 6) hs) (by decide) rfl rfl (mm_tw7 214 rfl rfl) rfl rfl (List.forall_mem_cons.mpr ⟨lw_v21, fun _ q => nomatch q⟩) r2 (by simp [Value.category]) dl_530 (fun H2 locs2 hS2 => ?_)
  refine lv_icmp_eq (tgt := 1276) X.1.1 X.1.2.1 dl_533 rfl (fun _ => ?_) (fun z => absurd rfl z)
  exact W.widen (Nat.le_succ _) (Nat.le_add_right _ 6) (hB H2 locs2 h2 f ls hS2 hI2 hl)
theorem lw_case_11 : lw_Go 538 := by
  intro p l e s m below meth c b L xs g D cy sa sb out k H locs h f ls cells slots Q X hL hk hl hc hs hB hS hI
  obtain ⟨r, h1, h2, r1, r2, hI2⟩ := k_relieve ((xs (6 * k + 1)).toInt) 0 h hI
  refine lv_aload_n X.1.1 X.1.2.1 dl_538 rfl (lv_at hl 3 rfl) ?_
  refine lw_arg X hL hk hl hS 1 (by decide) dl_539 dl_540 dl_542 dl_543 dl_544 ?_
  refine lw_one X hS hl.1 (pc := 545) (i := 72) (q := 115) (v := (20, 0)) (A0 := [(0, (xs (6 * k + 1)).toInt)]) (rest := []) (Nat.le_of_succ_le hc) (Nat.le_trans (Nat.le_add_right _ 6) hs) (by decide) rfl rfl (mm_tw4 11 rfl rfl) rfl rfl (List.forall_mem_cons.mpr ⟨lw_v20, List.forall_mem_cons.mpr ⟨lw_vi _, fun _ q => nomatch q⟩⟩) r1 (by simp) dl_545 (fun H1 locs1 hS1 => ?_)
  refine lv_aload_n X.1.1 X.1.2.1 dl_548 rfl (lv_at hl 2 rfl) ?_
  refine lw_arg X hL hk hl hS1 1 (by decide) dl_549 dl_550 dl_552 dl_553 dl_554 ?_
  refine lw_one X hS1 hl.1 (pc := 555) (i := 75) (q := 218) (v := (21, 133)) (A0 := [(0, (xs (6 * k + 1)).toInt)]) (rest := [.int (Int32.ofInt r)]) (Nat.le_of_succ_le hc) (Nat.le_trans (Nat.le_add_right _ 6) hs) (by decide) rfl rfl (mm_tw7 218 rfl rfl) rfl rfl (List.forall_mem_cons.mpr ⟨lw_v21, List.forall_mem_cons.mpr ⟨lw_vi _, fun _ q => nomatch q⟩⟩) r2 (by simp [Value.category]) dl_555 (fun H2 locs2 hS2 => ?_)
  refine lv_icmp_eq (tgt := 1276) X.1.1 X.1.2.1 dl_558 rfl (fun _ => ?_) (fun z => absurd rfl z)
  exact W.widen (Nat.le_succ _) (Nat.le_add_right _ 6) (hB H2 locs2 h2 f ls hS2 hI2 hl)
theorem lw_case_12 : lw_Go 563 := by
  intro p l e s m below meth c b L xs g D cy sa sb out k H locs h f ls cells slots Q X hL hk hl hc hs hB hS hI
  obtain ⟨r, h1, h2, r1, r2, hI2⟩ := k_leave ((xs (6 * k + 1)).toInt) 0 h hI
  refine lv_aload_n X.1.1 X.1.2.1 dl_563 rfl (lv_at hl 3 rfl) ?_
  refine lw_arg X hL hk hl hS 1 (by decide) dl_564 dl_565 dl_567 dl_568 dl_569 ?_
  refine lw_one X hS hl.1 (pc := 570) (i := 76) (q := 116) (v := (20, 0)) (A0 := [(0, (xs (6 * k + 1)).toInt)]) (rest := []) (Nat.le_of_succ_le hc) (Nat.le_trans (Nat.le_add_right _ 6) hs) (by decide) rfl rfl (mm_tw4 16 rfl rfl) rfl rfl (List.forall_mem_cons.mpr ⟨lw_v20, List.forall_mem_cons.mpr ⟨lw_vi _, fun _ q => nomatch q⟩⟩) r1 (by simp) dl_570 (fun H1 locs1 hS1 => ?_)
  refine lv_aload_n X.1.1 X.1.2.1 dl_573 rfl (lv_at hl 2 rfl) ?_
  refine lw_arg X hL hk hl hS1 1 (by decide) dl_574 dl_575 dl_577 dl_578 dl_579 ?_
  refine lw_one X hS1 hl.1 (pc := 580) (i := 79) (q := 219) (v := (21, 133)) (A0 := [(0, (xs (6 * k + 1)).toInt)]) (rest := [.int (Int32.ofInt r)]) (Nat.le_of_succ_le hc) (Nat.le_trans (Nat.le_add_right _ 6) hs) (by decide) rfl rfl (mm_tw7 222 rfl rfl) rfl rfl (List.forall_mem_cons.mpr ⟨lw_v21, List.forall_mem_cons.mpr ⟨lw_vi _, fun _ q => nomatch q⟩⟩) r2 (by simp [Value.category]) dl_580 (fun H2 locs2 hS2 => ?_)
  refine lv_icmp_eq (tgt := 1276) X.1.1 X.1.2.1 dl_583 rfl (fun _ => ?_) (fun z => absurd rfl z)
  exact W.widen (Nat.le_succ _) (Nat.le_add_right _ 6) (hB H2 locs2 h2 f ls hS2 hI2 hl)
theorem lw_case_13 : lw_Go 588 := by
  intro p l e s m below meth c b L xs g D cy sa sb out k H locs h f ls cells slots Q X hL hk hl hc hs hB hS hI
  obtain ⟨r, h1, h2, r1, r2, hI2⟩ := k_join ((xs (6 * k + 1)).toInt) 0 h hI
  refine lv_aload_n X.1.1 X.1.2.1 dl_588 rfl (lv_at hl 3 rfl) ?_
  refine lw_arg X hL hk hl hS 1 (by decide) dl_589 dl_590 dl_592 dl_593 dl_594 ?_
  refine lw_one X hS hl.1 (pc := 595) (i := 80) (q := 117) (v := (20, 0)) (A0 := [(0, (xs (6 * k + 1)).toInt)]) (rest := []) (Nat.le_of_succ_le hc) (Nat.le_trans (Nat.le_add_right _ 6) hs) (by decide) rfl rfl (mm_tw4 20 rfl rfl) rfl rfl (List.forall_mem_cons.mpr ⟨lw_v20, List.forall_mem_cons.mpr ⟨lw_vi _, fun _ q => nomatch q⟩⟩) r1 (by simp) dl_595 (fun H1 locs1 hS1 => ?_)
  refine lv_aload_n X.1.1 X.1.2.1 dl_598 rfl (lv_at hl 2 rfl) ?_
  refine lw_arg X hL hk hl hS1 1 (by decide) dl_599 dl_600 dl_602 dl_603 dl_604 ?_
  refine lw_one X hS1 hl.1 (pc := 605) (i := 83) (q := 220) (v := (21, 133)) (A0 := [(0, (xs (6 * k + 1)).toInt)]) (rest := [.int (Int32.ofInt r)]) (Nat.le_of_succ_le hc) (Nat.le_trans (Nat.le_add_right _ 6) hs) (by decide) rfl rfl (mm_tw7 226 rfl rfl) rfl rfl (List.forall_mem_cons.mpr ⟨lw_v21, List.forall_mem_cons.mpr ⟨lw_vi _, fun _ q => nomatch q⟩⟩) r2 (by simp [Value.category]) dl_605 (fun H2 locs2 hS2 => ?_)
  refine lv_icmp_eq (tgt := 1276) X.1.1 X.1.2.1 dl_608 rfl (fun _ => ?_) (fun z => absurd rfl z)
  exact W.widen (Nat.le_succ _) (Nat.le_add_right _ 6) (hB H2 locs2 h2 f ls hS2 hI2 hl)
theorem lw_case_14 : lw_Go 613 := by
  intro p l e s m below meth c b L xs g D cy sa sb out k H locs h f ls cells slots Q X hL hk hl hc hs hB hS hI
  obtain ⟨r, h1, h2, r1, r2, hI2⟩ := k_seconds ((xs (6 * k + 1)).toInt) 0 h hI
  refine lv_aload_n X.1.1 X.1.2.1 dl_613 rfl (lv_at hl 3 rfl) ?_
  refine lw_arg X hL hk hl hS 1 (by decide) dl_614 dl_615 dl_617 dl_618 dl_619 ?_
  refine lw_one X hS hl.1 (pc := 620) (i := 84) (q := 118) (v := (20, 0)) (A0 := [(0, (xs (6 * k + 1)).toInt)]) (rest := []) (Nat.le_of_succ_le hc) (Nat.le_trans (Nat.le_add_right _ 6) hs) (by decide) rfl rfl (mm_tw4 24 rfl rfl) rfl rfl (List.forall_mem_cons.mpr ⟨lw_v20, List.forall_mem_cons.mpr ⟨lw_vi _, fun _ q => nomatch q⟩⟩) r1 (by simp) dl_620 (fun H1 locs1 hS1 => ?_)
  refine lv_aload_n X.1.1 X.1.2.1 dl_623 rfl (lv_at hl 2 rfl) ?_
  refine lw_arg X hL hk hl hS1 1 (by decide) dl_624 dl_625 dl_627 dl_628 dl_629 ?_
  refine lw_one X hS1 hl.1 (pc := 630) (i := 87) (q := 225) (v := (21, 133)) (A0 := [(0, (xs (6 * k + 1)).toInt)]) (rest := [.int (Int32.ofInt r)]) (Nat.le_of_succ_le hc) (Nat.le_trans (Nat.le_add_right _ 6) hs) (by decide) rfl rfl (mm_tw7 234 rfl rfl) rfl rfl (List.forall_mem_cons.mpr ⟨lw_v21, List.forall_mem_cons.mpr ⟨lw_vi _, fun _ q => nomatch q⟩⟩) r2 (by simp [Value.category]) dl_630 (fun H2 locs2 hS2 => ?_)
  refine lv_icmp_eq (tgt := 1276) X.1.1 X.1.2.1 dl_633 rfl (fun _ => ?_) (fun z => absurd rfl z)
  exact W.widen (Nat.le_succ _) (Nat.le_add_right _ 6) (hB H2 locs2 h2 f ls hS2 hI2 hl)
theorem lw_case_15 : lw_Go 638 := by
  intro p l e s m below meth c b L xs g D cy sa sb out k H locs h f ls cells slots Q X hL hk hl hc hs hB hS hI
  obtain ⟨r, h1, h2, r1, r2, hI2⟩ := k_undo 0 h hI
  refine lv_aload_n X.1.1 X.1.2.1 dl_638 rfl (lv_at hl 3 rfl) ?_
  refine lw_one X hS hl.1 (pc := 639) (i := 88) (q := 119) (v := (20, 0)) (A0 := []) (rest := []) (Nat.le_of_succ_le hc) (Nat.le_trans (Nat.le_add_right _ 6) hs) (by decide) rfl rfl (mm_tw4 30 rfl rfl) rfl rfl (List.forall_mem_cons.mpr ⟨lw_v20, fun _ q => nomatch q⟩) r1 (by simp) dl_639 (fun H1 locs1 hS1 => ?_)
  refine lv_aload_n X.1.1 X.1.2.1 dl_642 rfl (lv_at hl 2 rfl) ?_
  refine lw_one X hS1 hl.1 (pc := 643) (i := 91) (q := 221) (v := (21, 133)) (A0 := []) (rest := [.int (Int32.ofInt r)]) (Nat.le_of_succ_le hc) (Nat.le_trans (Nat.le_add_right _ 6) hs) (by decide) rfl rfl (mm_tw7 230 rfl rfl) rfl rfl (List.forall_mem_cons.mpr ⟨lw_v21, fun _ q => nomatch q⟩) r2 (by simp [Value.category]) dl_643 (fun H2 locs2 hS2 => ?_)
  refine lv_icmp_eq (tgt := 1276) X.1.1 X.1.2.1 dl_646 rfl (fun _ => ?_) (fun z => absurd rfl z)
  exact W.widen (Nat.le_succ _) (Nat.le_add_right _ 6) (hB H2 locs2 h2 f ls hS2 hI2 hl)
theorem lw_case_16 : lw_Go 651 := by
  intro p l e s m below meth c b L xs g D cy sa sb out k H locs h f ls cells slots Q X hL hk hl hc hs hB hS hI
  obtain ⟨r, h1, h2, r1, r2, hI2⟩ := k_at ((xs (6 * k + 1)).toInt) ((xs (6 * k + 2)).toInt) 0 h hI
  refine lv_aload_n X.1.1 X.1.2.1 dl_651 rfl (lv_at hl 3 rfl) ?_
  refine lw_arg X hL hk hl hS 1 (by decide) dl_652 dl_653 dl_655 dl_656 dl_657 ?_
  refine lw_arg X hL hk hl hS 2 (by decide) dl_658 dl_659 dl_661 dl_662 dl_663 ?_
  refine lw_one X hS hl.1 (pc := 664) (i := 92) (q := 120) (v := (20, 0)) (A0 := [(0, (xs (6 * k + 1)).toInt), (0, (xs (6 * k + 2)).toInt)]) (rest := []) (Nat.le_of_succ_le hc) (Nat.le_trans (Nat.le_add_right _ 6) hs) (by decide) rfl rfl (mm_tw4 38 rfl rfl) rfl rfl (List.forall_mem_cons.mpr ⟨lw_v20, List.forall_mem_cons.mpr ⟨lw_vi _, List.forall_mem_cons.mpr ⟨lw_vi _, fun _ q => nomatch q⟩⟩⟩) r1 (by simp) dl_664 (fun H1 locs1 hS1 => ?_)
  refine lv_aload_n X.1.1 X.1.2.1 dl_667 rfl (lv_at hl 2 rfl) ?_
  refine lw_arg X hL hk hl hS1 1 (by decide) dl_668 dl_669 dl_671 dl_672 dl_673 ?_
  refine lw_arg X hL hk hl hS1 2 (by decide) dl_674 dl_675 dl_677 dl_678 dl_679 ?_
  refine lw_one X hS1 hl.1 (pc := 680) (i := 95) (q := 227) (v := (21, 133)) (A0 := [(0, (xs (6 * k + 1)).toInt), (0, (xs (6 * k + 2)).toInt)]) (rest := [.int (Int32.ofInt r)]) (Nat.le_of_succ_le hc) (Nat.le_trans (Nat.le_add_right _ 6) hs) (by decide) rfl rfl (mm_tw8 14 rfl rfl) rfl rfl (List.forall_mem_cons.mpr ⟨lw_v21, List.forall_mem_cons.mpr ⟨lw_vi _, List.forall_mem_cons.mpr ⟨lw_vi _, fun _ q => nomatch q⟩⟩⟩) r2 (by simp [Value.category]) dl_680 (fun H2 locs2 hS2 => ?_)
  refine lv_icmp_eq (tgt := 1276) X.1.1 X.1.2.1 dl_683 rfl (fun _ => ?_) (fun z => absurd rfl z)
  exact W.widen (Nat.le_succ _) (Nat.le_add_right _ 6) (hB H2 locs2 h2 f ls hS2 hI2 hl)
theorem lw_case_17 : lw_Go 688 := by
  intro p l e s m below meth c b L xs g D cy sa sb out k H locs h f ls cells slots Q X hL hk hl hc hs hB hS hI
  obtain ⟨r, h1, h2, r1, r2, hI2⟩ := k_meet ((xs (6 * k + 1)).toInt) ((xs (6 * k + 2)).toInt) 0 h hI
  refine lv_aload_n X.1.1 X.1.2.1 dl_688 rfl (lv_at hl 3 rfl) ?_
  refine lw_arg X hL hk hl hS 1 (by decide) dl_689 dl_690 dl_692 dl_693 dl_694 ?_
  refine lw_arg X hL hk hl hS 2 (by decide) dl_695 dl_696 dl_698 dl_699 dl_700 ?_
  refine lw_one X hS hl.1 (pc := 701) (i := 96) (q := 121) (v := (20, 0)) (A0 := [(0, (xs (6 * k + 1)).toInt), (0, (xs (6 * k + 2)).toInt)]) (rest := []) (Nat.le_of_succ_le hc) (Nat.le_trans (Nat.le_add_right _ 6) hs) (by decide) rfl rfl (mm_tw4 46 rfl rfl) rfl rfl (List.forall_mem_cons.mpr ⟨lw_v20, List.forall_mem_cons.mpr ⟨lw_vi _, List.forall_mem_cons.mpr ⟨lw_vi _, fun _ q => nomatch q⟩⟩⟩) r1 (by simp) dl_701 (fun H1 locs1 hS1 => ?_)
  refine lv_aload_n X.1.1 X.1.2.1 dl_704 rfl (lv_at hl 2 rfl) ?_
  refine lw_arg X hL hk hl hS1 1 (by decide) dl_705 dl_706 dl_708 dl_709 dl_710 ?_
  refine lw_arg X hL hk hl hS1 2 (by decide) dl_711 dl_712 dl_714 dl_715 dl_716 ?_
  refine lw_one X hS1 hl.1 (pc := 717) (i := 99) (q := 228) (v := (21, 133)) (A0 := [(0, (xs (6 * k + 1)).toInt), (0, (xs (6 * k + 2)).toInt)]) (rest := [.int (Int32.ofInt r)]) (Nat.le_of_succ_le hc) (Nat.le_trans (Nat.le_add_right _ 6) hs) (by decide) rfl rfl (mm_tw8 22 rfl rfl) rfl rfl (List.forall_mem_cons.mpr ⟨lw_v21, List.forall_mem_cons.mpr ⟨lw_vi _, List.forall_mem_cons.mpr ⟨lw_vi _, fun _ q => nomatch q⟩⟩⟩) r2 (by simp [Value.category]) dl_717 (fun H2 locs2 hS2 => ?_)
  refine lv_icmp_eq (tgt := 1276) X.1.1 X.1.2.1 dl_720 rfl (fun _ => ?_) (fun z => absurd rfl z)
  exact W.widen (Nat.le_succ _) (Nat.le_add_right _ 6) (hB H2 locs2 h2 f ls hS2 hI2 hl)
theorem lw_case_18 : lw_Go 725 := by
  intro p l e s m below meth c b L xs g D cy sa sb out k H locs h f ls cells slots Q X hL hk hl hc hs hB hS hI
  obtain ⟨r, h1, h2, r1, r2, hI2⟩ := k_when ((xs (6 * k + 1)).toInt) 0 h hI
  refine lv_aload_n X.1.1 X.1.2.1 dl_725 rfl (lv_at hl 3 rfl) ?_
  refine lw_arg X hL hk hl hS 1 (by decide) dl_726 dl_727 dl_729 dl_730 dl_731 ?_
  refine lw_one X hS hl.1 (pc := 732) (i := 100) (q := 122) (v := (20, 0)) (A0 := [(0, (xs (6 * k + 1)).toInt)]) (rest := []) (Nat.le_of_succ_le hc) (Nat.le_trans (Nat.le_add_right _ 6) hs) (by decide) rfl rfl (mm_tw4 50 rfl rfl) rfl rfl (List.forall_mem_cons.mpr ⟨lw_v20, List.forall_mem_cons.mpr ⟨lw_vi _, fun _ q => nomatch q⟩⟩) r1 (by simp) dl_732 (fun H1 locs1 hS1 => ?_)
  refine lv_aload_n X.1.1 X.1.2.1 dl_735 rfl (lv_at hl 2 rfl) ?_
  refine lw_arg X hL hk hl hS1 1 (by decide) dl_736 dl_737 dl_739 dl_740 dl_741 ?_
  refine lw_one X hS1 hl.1 (pc := 742) (i := 103) (q := 232) (v := (21, 133)) (A0 := [(0, (xs (6 * k + 1)).toInt)]) (rest := [.int (Int32.ofInt r)]) (Nat.le_of_succ_le hc) (Nat.le_trans (Nat.le_add_right _ 6) hs) (by decide) rfl rfl (mm_tw8 26 rfl rfl) rfl rfl (List.forall_mem_cons.mpr ⟨lw_v21, List.forall_mem_cons.mpr ⟨lw_vi _, fun _ q => nomatch q⟩⟩) r2 (by simp [Value.category]) dl_742 (fun H2 locs2 hS2 => ?_)
  refine lv_icmp_eq (tgt := 1276) X.1.1 X.1.2.1 dl_745 rfl (fun _ => ?_) (fun z => absurd rfl z)
  exact W.widen (Nat.le_succ _) (Nat.le_add_right _ 6) (hB H2 locs2 h2 f ls hS2 hI2 hl)
theorem lw_case_19 : lw_Go 750 := by
  intro p l e s m below meth c b L xs g D cy sa sb out k H locs h f ls cells slots Q X hL hk hl hc hs hB hS hI
  obtain ⟨r, h1, h2, r1, r2, hI2⟩ := k_once ((xs (6 * k + 1)).toInt) ((xs (6 * k + 2)).toInt) 0 h hI
  refine lv_aload_n X.1.1 X.1.2.1 dl_750 rfl (lv_at hl 3 rfl) ?_
  refine lw_arg X hL hk hl hS 1 (by decide) dl_751 dl_752 dl_754 dl_755 dl_756 ?_
  refine lw_arg X hL hk hl hS 2 (by decide) dl_757 dl_758 dl_760 dl_761 dl_762 ?_
  refine lw_one X hS hl.1 (pc := 763) (i := 104) (q := 123) (v := (20, 0)) (A0 := [(0, (xs (6 * k + 1)).toInt), (0, (xs (6 * k + 2)).toInt)]) (rest := []) (Nat.le_of_succ_le hc) (Nat.le_trans (Nat.le_add_right _ 6) hs) (by decide) rfl rfl (mm_tw4 58 rfl rfl) rfl rfl (List.forall_mem_cons.mpr ⟨lw_v20, List.forall_mem_cons.mpr ⟨lw_vi _, List.forall_mem_cons.mpr ⟨lw_vi _, fun _ q => nomatch q⟩⟩⟩) r1 (by simp) dl_763 (fun H1 locs1 hS1 => ?_)
  refine lv_aload_n X.1.1 X.1.2.1 dl_766 rfl (lv_at hl 2 rfl) ?_
  refine lw_arg X hL hk hl hS1 1 (by decide) dl_767 dl_768 dl_770 dl_771 dl_772 ?_
  refine lw_arg X hL hk hl hS1 2 (by decide) dl_773 dl_774 dl_776 dl_777 dl_778 ?_
  refine lw_one X hS1 hl.1 (pc := 779) (i := 107) (q := 235) (v := (21, 133)) (A0 := [(0, (xs (6 * k + 1)).toInt), (0, (xs (6 * k + 2)).toInt)]) (rest := [.int (Int32.ofInt r)]) (Nat.le_of_succ_le hc) (Nat.le_trans (Nat.le_add_right _ 6) hs) (by decide) rfl rfl (mm_tw8 51 rfl rfl) rfl rfl (List.forall_mem_cons.mpr ⟨lw_v21, List.forall_mem_cons.mpr ⟨lw_vi _, List.forall_mem_cons.mpr ⟨lw_vi _, fun _ q => nomatch q⟩⟩⟩) r2 (by simp [Value.category]) dl_779 (fun H2 locs2 hS2 => ?_)
  refine lv_icmp_eq (tgt := 1276) X.1.1 X.1.2.1 dl_782 rfl (fun _ => ?_) (fun z => absurd rfl z)
  exact W.widen (Nat.le_succ _) (Nat.le_add_right _ 6) (hB H2 locs2 h2 f ls hS2 hI2 hl)
theorem lw_case_20 : lw_Go 787 := by
  intro p l e s m below meth c b L xs g D cy sa sb out k H locs h f ls cells slots Q X hL hk hl hc hs hB hS hI
  obtain ⟨r, h1, h2, r1, r2, hI2⟩ := k_stood 0 h hI
  refine lv_aload_n X.1.1 X.1.2.1 dl_787 rfl (lv_at hl 3 rfl) ?_
  refine lw_one X hS hl.1 (pc := 788) (i := 108) (q := 124) (v := (20, 0)) (A0 := []) (rest := []) (Nat.le_of_succ_le hc) (Nat.le_trans (Nat.le_add_right _ 6) hs) (by decide) rfl rfl (mm_tw4 63 rfl rfl) rfl rfl (List.forall_mem_cons.mpr ⟨lw_v20, fun _ q => nomatch q⟩) r1 (by simp) dl_788 (fun H1 locs1 hS1 => ?_)
  refine lv_aload_n X.1.1 X.1.2.1 dl_791 rfl (lv_at hl 2 rfl) ?_
  refine lw_one X hS1 hl.1 (pc := 792) (i := 111) (q := 238) (v := (21, 133)) (A0 := []) (rest := [.int (Int32.ofInt r)]) (Nat.le_of_succ_le hc) (Nat.le_trans (Nat.le_add_right _ 6) hs) (by decide) rfl rfl (mm_tw8 58 rfl rfl) rfl rfl (List.forall_mem_cons.mpr ⟨lw_v21, fun _ q => nomatch q⟩) r2 (by simp [Value.category]) dl_792 (fun H2 locs2 hS2 => ?_)
  refine lv_icmp_eq (tgt := 1276) X.1.1 X.1.2.1 dl_795 rfl (fun _ => ?_) (fun z => absurd rfl z)
  exact W.widen (Nat.le_succ _) (Nat.le_add_right _ 6) (hB H2 locs2 h2 f ls hS2 hI2 hl)
theorem lw_case_21 : lw_Go 800 := by
  intro p l e s m below meth c b L xs g D cy sa sb out k H locs h f ls cells slots Q X hL hk hl hc hs hB hS hI
  obtain ⟨r, h1, h2, r1, r2, hI2⟩ := k_stoodLeast 0 h hI
  refine lv_aload_n X.1.1 X.1.2.1 dl_800 rfl (lv_at hl 3 rfl) ?_
  refine lw_one X hS hl.1 (pc := 801) (i := 112) (q := 125) (v := (20, 0)) (A0 := []) (rest := []) (Nat.le_of_succ_le hc) (Nat.le_trans (Nat.le_add_right _ 6) hs) (by decide) rfl rfl (mm_tw4 98 rfl rfl) rfl rfl (List.forall_mem_cons.mpr ⟨lw_v20, fun _ q => nomatch q⟩) r1 (by simp) dl_801 (fun H1 locs1 hS1 => ?_)
  refine lv_aload_n X.1.1 X.1.2.1 dl_804 rfl (lv_at hl 2 rfl) ?_
  refine lw_one X hS1 hl.1 (pc := 805) (i := 115) (q := 239) (v := (21, 133)) (A0 := []) (rest := [.int (Int32.ofInt r)]) (Nat.le_of_succ_le hc) (Nat.le_trans (Nat.le_add_right _ 6) hs) (by decide) rfl rfl (mm_tw8 70 rfl rfl) rfl rfl (List.forall_mem_cons.mpr ⟨lw_v21, fun _ q => nomatch q⟩) r2 (by simp [Value.category]) dl_805 (fun H2 locs2 hS2 => ?_)
  refine lv_icmp_eq (tgt := 1276) X.1.1 X.1.2.1 dl_808 rfl (fun _ => ?_) (fun z => absurd rfl z)
  exact W.widen (Nat.le_succ _) (Nat.le_add_right _ 6) (hB H2 locs2 h2 f ls hS2 hI2 hl)
theorem lw_case_22 : lw_Go 813 := by
  intro p l e s m below meth c b L xs g D cy sa sb out k H locs h f ls cells slots Q X hL hk hl hc hs hB hS hI
  obtain ⟨r, h1, h2, r1, r2, hI2⟩ := k_stoodMost 0 h hI
  refine lv_aload_n X.1.1 X.1.2.1 dl_813 rfl (lv_at hl 3 rfl) ?_
  refine lw_one X hS hl.1 (pc := 814) (i := 116) (q := 126) (v := (20, 0)) (A0 := []) (rest := []) (Nat.le_of_succ_le hc) (Nat.le_trans (Nat.le_add_right _ 6) hs) (by decide) rfl rfl (mm_tw4 102 rfl rfl) rfl rfl (List.forall_mem_cons.mpr ⟨lw_v20, fun _ q => nomatch q⟩) r1 (by simp) dl_814 (fun H1 locs1 hS1 => ?_)
  refine lv_aload_n X.1.1 X.1.2.1 dl_817 rfl (lv_at hl 2 rfl) ?_
  refine lw_one X hS1 hl.1 (pc := 818) (i := 119) (q := 240) (v := (21, 133)) (A0 := []) (rest := [.int (Int32.ofInt r)]) (Nat.le_of_succ_le hc) (Nat.le_trans (Nat.le_add_right _ 6) hs) (by decide) rfl rfl (mm_tw8 74 rfl rfl) rfl rfl (List.forall_mem_cons.mpr ⟨lw_v21, fun _ q => nomatch q⟩) r2 (by simp [Value.category]) dl_818 (fun H2 locs2 hS2 => ?_)
  refine lv_icmp_eq (tgt := 1276) X.1.1 X.1.2.1 dl_821 rfl (fun _ => ?_) (fun z => absurd rfl z)
  exact W.widen (Nat.le_succ _) (Nat.le_add_right _ 6) (hB H2 locs2 h2 f ls hS2 hI2 hl)
theorem lw_case_23 : lw_Go 826 := by
  intro p l e s m below meth c b L xs g D cy sa sb out k H locs h f ls cells slots Q X hL hk hl hc hs hB hS hI
  obtain ⟨r, h1, h2, r1, r2, hI2⟩ := k_next 0 h hI
  refine lv_aload_n X.1.1 X.1.2.1 dl_826 rfl (lv_at hl 3 rfl) ?_
  refine lw_one X hS hl.1 (pc := 827) (i := 120) (q := 127) (v := (20, 0)) (A0 := []) (rest := []) (Nat.le_of_succ_le hc) (Nat.le_trans (Nat.le_add_right _ 6) hs) (by decide) rfl rfl (mm_tw4 106 rfl rfl) rfl rfl (List.forall_mem_cons.mpr ⟨lw_v20, fun _ q => nomatch q⟩) r1 (by simp) dl_827 (fun H1 locs1 hS1 => ?_)
  refine lv_aload_n X.1.1 X.1.2.1 dl_830 rfl (lv_at hl 2 rfl) ?_
  refine lw_one X hS1 hl.1 (pc := 831) (i := 123) (q := 241) (v := (21, 133)) (A0 := []) (rest := [.int (Int32.ofInt r)]) (Nat.le_of_succ_le hc) (Nat.le_trans (Nat.le_add_right _ 6) hs) (by decide) rfl rfl (mm_tw8 78 rfl rfl) rfl rfl (List.forall_mem_cons.mpr ⟨lw_v21, fun _ q => nomatch q⟩) r2 (by simp [Value.category]) dl_831 (fun H2 locs2 hS2 => ?_)
  refine lv_icmp_eq (tgt := 1276) X.1.1 X.1.2.1 dl_834 rfl (fun _ => ?_) (fun z => absurd rfl z)
  exact W.widen (Nat.le_succ _) (Nat.le_add_right _ 6) (hB H2 locs2 h2 f ls hS2 hI2 hl)
theorem lw_case_24 : lw_Go 839 := by
  intro p l e s m below meth c b L xs g D cy sa sb out k H locs h f ls cells slots Q X hL hk hl hc hs hB hS hI
  obtain ⟨r, h1, h2, r1, r2, hI2⟩ := k_rows ((xs (6 * k + 1)).toInt) ((xs (6 * k + 2)).toInt) 0 h hI
  refine lv_aload_n X.1.1 X.1.2.1 dl_839 rfl (lv_at hl 3 rfl) ?_
  refine lw_arg X hL hk hl hS 1 (by decide) dl_840 dl_841 dl_843 dl_844 dl_845 ?_
  refine lw_arg X hL hk hl hS 2 (by decide) dl_846 dl_847 dl_849 dl_850 dl_851 ?_
  refine lw_one X hS hl.1 (pc := 852) (i := 124) (q := 128) (v := (20, 0)) (A0 := [(0, (xs (6 * k + 1)).toInt), (0, (xs (6 * k + 2)).toInt)]) (rest := []) (Nat.le_of_succ_le hc) (Nat.le_trans (Nat.le_add_right _ 6) hs) (by decide) rfl rfl (mm_tw4 110 rfl rfl) rfl rfl (List.forall_mem_cons.mpr ⟨lw_v20, List.forall_mem_cons.mpr ⟨lw_vi _, List.forall_mem_cons.mpr ⟨lw_vi _, fun _ q => nomatch q⟩⟩⟩) r1 (by simp) dl_852 (fun H1 locs1 hS1 => ?_)
  refine lv_aload_n X.1.1 X.1.2.1 dl_855 rfl (lv_at hl 2 rfl) ?_
  refine lw_arg X hL hk hl hS1 1 (by decide) dl_856 dl_857 dl_859 dl_860 dl_861 ?_
  refine lw_arg X hL hk hl hS1 2 (by decide) dl_862 dl_863 dl_865 dl_866 dl_867 ?_
  refine lw_one X hS1 hl.1 (pc := 868) (i := 127) (q := 244) (v := (21, 133)) (A0 := [(0, (xs (6 * k + 1)).toInt), (0, (xs (6 * k + 2)).toInt)]) (rest := [.int (Int32.ofInt r)]) (Nat.le_of_succ_le hc) (Nat.le_trans (Nat.le_add_right _ 6) hs) (by decide) rfl rfl (mm_tw8 82 rfl rfl) rfl rfl (List.forall_mem_cons.mpr ⟨lw_v21, List.forall_mem_cons.mpr ⟨lw_vi _, List.forall_mem_cons.mpr ⟨lw_vi _, fun _ q => nomatch q⟩⟩⟩) r2 (by simp [Value.category]) dl_868 (fun H2 locs2 hS2 => ?_)
  refine lv_icmp_eq (tgt := 1276) X.1.1 X.1.2.1 dl_871 rfl (fun _ => ?_) (fun z => absurd rfl z)
  exact W.widen (Nat.le_succ _) (Nat.le_add_right _ 6) (hB H2 locs2 h2 f ls hS2 hI2 hl)
theorem lw_case_25 : lw_Go 876 := by
  intro p l e s m below meth c b L xs g D cy sa sb out k H locs h f ls cells slots Q X hL hk hl hc hs hB hS hI
  obtain ⟨r, h1, h2, r1, r2, hI2⟩ := k_rowAt ((xs (6 * k + 1)).toInt) 0 h hI
  refine lv_aload_n X.1.1 X.1.2.1 dl_876 rfl (lv_at hl 3 rfl) ?_
  refine lw_arg X hL hk hl hS 1 (by decide) dl_877 dl_878 dl_880 dl_881 dl_882 ?_
  refine lw_one X hS hl.1 (pc := 883) (i := 128) (q := 129) (v := (20, 0)) (A0 := [(0, (xs (6 * k + 1)).toInt)]) (rest := []) (Nat.le_of_succ_le hc) (Nat.le_trans (Nat.le_add_right _ 6) hs) (by decide) rfl rfl (mm_tw4 134 rfl rfl) rfl rfl (List.forall_mem_cons.mpr ⟨lw_v20, List.forall_mem_cons.mpr ⟨lw_vi _, fun _ q => nomatch q⟩⟩) r1 (by simp) dl_883 (fun H1 locs1 hS1 => ?_)
  refine lv_aload_n X.1.1 X.1.2.1 dl_886 rfl (lv_at hl 2 rfl) ?_
  refine lw_arg X hL hk hl hS1 1 (by decide) dl_887 dl_888 dl_890 dl_891 dl_892 ?_
  refine lw_one X hS1 hl.1 (pc := 893) (i := 131) (q := 245) (v := (21, 133)) (A0 := [(0, (xs (6 * k + 1)).toInt)]) (rest := [.int (Int32.ofInt r)]) (Nat.le_of_succ_le hc) (Nat.le_trans (Nat.le_add_right _ 6) hs) (by decide) rfl rfl (mm_tw8 94 rfl rfl) rfl rfl (List.forall_mem_cons.mpr ⟨lw_v21, List.forall_mem_cons.mpr ⟨lw_vi _, fun _ q => nomatch q⟩⟩) r2 (by simp [Value.category]) dl_893 (fun H2 locs2 hS2 => ?_)
  refine lv_icmp_eq (tgt := 1276) X.1.1 X.1.2.1 dl_896 rfl (fun _ => ?_) (fun z => absurd rfl z)
  exact W.widen (Nat.le_succ _) (Nat.le_add_right _ 6) (hB H2 locs2 h2 f ls hS2 hI2 hl)
theorem lw_case_26 : lw_Go 901 := by
  intro p l e s m below meth c b L xs g D cy sa sb out k H locs h f ls cells slots Q X hL hk hl hc hs hB hS hI
  obtain ⟨r, h1, h2, r1, r2, hI2⟩ := k_swift ((xs (6 * k + 1)).toInt) 0 h hI
  refine lv_aload_n X.1.1 X.1.2.1 dl_901 rfl (lv_at hl 3 rfl) ?_
  refine lw_arg X hL hk hl hS 1 (by decide) dl_902 dl_903 dl_905 dl_906 dl_907 ?_
  refine lw_one X hS hl.1 (pc := 908) (i := 132) (q := 130) (v := (20, 0)) (A0 := [(0, (xs (6 * k + 1)).toInt)]) (rest := []) (Nat.le_of_succ_le hc) (Nat.le_trans (Nat.le_add_right _ 6) hs) (by decide) rfl rfl (mm_tw4 138 rfl rfl) rfl rfl (List.forall_mem_cons.mpr ⟨lw_v20, List.forall_mem_cons.mpr ⟨lw_vi _, fun _ q => nomatch q⟩⟩) r1 (by simp) dl_908 (fun H1 locs1 hS1 => ?_)
  refine lv_aload_n X.1.1 X.1.2.1 dl_911 rfl (lv_at hl 2 rfl) ?_
  refine lw_arg X hL hk hl hS1 1 (by decide) dl_912 dl_913 dl_915 dl_916 dl_917 ?_
  refine lw_one X hS1 hl.1 (pc := 918) (i := 135) (q := 233) (v := (21, 133)) (A0 := [(0, (xs (6 * k + 1)).toInt)]) (rest := [.int (Int32.ofInt r)]) (Nat.le_of_succ_le hc) (Nat.le_trans (Nat.le_add_right _ 6) hs) (by decide) rfl rfl (mm_tw8 43 rfl rfl) rfl rfl (List.forall_mem_cons.mpr ⟨lw_v21, List.forall_mem_cons.mpr ⟨lw_vi _, fun _ q => nomatch q⟩⟩) r2 (by simp [Value.category]) dl_918 (fun H2 locs2 hS2 => ?_)
  refine lv_icmp_eq (tgt := 1276) X.1.1 X.1.2.1 dl_921 rfl (fun _ => ?_) (fun z => absurd rfl z)
  exact W.widen (Nat.le_succ _) (Nat.le_add_right _ 6) (hB H2 locs2 h2 f ls hS2 hI2 hl)
theorem lw_case_27 : lw_Go 926 := by
  intro p l e s m below meth c b L xs g D cy sa sb out k H locs h f ls cells slots Q X hL hk hl hc hs hB hS hI
  obtain ⟨r, h1, h2, r1, r2, hI2⟩ := k_joins ((xs (6 * k + 1)).toInt) 0 h hI
  refine lv_aload_n X.1.1 X.1.2.1 dl_926 rfl (lv_at hl 3 rfl) ?_
  refine lw_arg X hL hk hl hS 1 (by decide) dl_927 dl_928 dl_930 dl_931 dl_932 ?_
  refine lw_one X hS hl.1 (pc := 933) (i := 136) (q := 131) (v := (20, 0)) (A0 := [(0, (xs (6 * k + 1)).toInt)]) (rest := []) (Nat.le_of_succ_le hc) (Nat.le_trans (Nat.le_add_right _ 6) hs) (by decide) rfl rfl (mm_tw4 144 rfl rfl) rfl rfl (List.forall_mem_cons.mpr ⟨lw_v20, List.forall_mem_cons.mpr ⟨lw_vi _, fun _ q => nomatch q⟩⟩) r1 (by simp) dl_933 (fun H1 locs1 hS1 => ?_)
  refine lv_aload_n X.1.1 X.1.2.1 dl_936 rfl (lv_at hl 2 rfl) ?_
  refine lw_arg X hL hk hl hS1 1 (by decide) dl_937 dl_938 dl_940 dl_941 dl_942 ?_
  refine lw_one X hS1 hl.1 (pc := 943) (i := 139) (q := 234) (v := (21, 133)) (A0 := [(0, (xs (6 * k + 1)).toInt)]) (rest := [.int (Int32.ofInt r)]) (Nat.le_of_succ_le hc) (Nat.le_trans (Nat.le_add_right _ 6) hs) (by decide) rfl rfl (mm_tw8 47 rfl rfl) rfl rfl (List.forall_mem_cons.mpr ⟨lw_v21, List.forall_mem_cons.mpr ⟨lw_vi _, fun _ q => nomatch q⟩⟩) r2 (by simp [Value.category]) dl_943 (fun H2 locs2 hS2 => ?_)
  refine lv_icmp_eq (tgt := 1276) X.1.1 X.1.2.1 dl_946 rfl (fun _ => ?_) (fun z => absurd rfl z)
  exact W.widen (Nat.le_succ _) (Nat.le_add_right _ 6) (hB H2 locs2 h2 f ls hS2 hI2 hl)
theorem lw_case_28 : lw_Go 951 := by
  intro p l e s m below meth c b L xs g D cy sa sb out k H locs h f ls cells slots Q X hL hk hl hc hs hB hS hI
  obtain ⟨r, h1, h2, r1, r2, hI2⟩ := k_vote 0 h hI
  refine lv_aload_n X.1.1 X.1.2.1 dl_951 rfl (lv_at hl 3 rfl) ?_
  refine lw_one X hS hl.1 (pc := 952) (i := 140) (q := 132) (v := (20, 0)) (A0 := []) (rest := []) (Nat.le_of_succ_le hc) (Nat.le_trans (Nat.le_add_right _ 6) hs) (by decide) rfl rfl (mm_tw4 153 rfl rfl) rfl rfl (List.forall_mem_cons.mpr ⟨lw_v20, fun _ q => nomatch q⟩) r1 (by simp) dl_952 (fun H1 locs1 hS1 => ?_)
  refine lv_aload_n X.1.1 X.1.2.1 dl_955 rfl (lv_at hl 2 rfl) ?_
  refine lw_one X hS1 hl.1 (pc := 956) (i := 143) (q := 248) (v := (21, 133)) (A0 := []) (rest := [.int (Int32.ofInt r)]) (Nat.le_of_succ_le hc) (Nat.le_trans (Nat.le_add_right _ 6) hs) (by decide) rfl rfl (mm_tw8 98 rfl rfl) rfl rfl (List.forall_mem_cons.mpr ⟨lw_v21, fun _ q => nomatch q⟩) r2 (by simp [Value.category]) dl_956 (fun H2 locs2 hS2 => ?_)
  refine lv_icmp_eq (tgt := 1276) X.1.1 X.1.2.1 dl_959 rfl (fun _ => ?_) (fun z => absurd rfl z)
  exact W.widen (Nat.le_succ _) (Nat.le_add_right _ 6) (hB H2 locs2 h2 f ls hS2 hI2 hl)
theorem lw_case_29 : lw_Go 964 := by
  intro p l e s m below meth c b L xs g D cy sa sb out k H locs h f ls cells slots Q X hL hk hl hc hs hB hS hI
  obtain ⟨r, h1, h2, r1, r2, hI2⟩ := k_voted 0 h hI
  refine lv_aload_n X.1.1 X.1.2.1 dl_964 rfl (lv_at hl 3 rfl) ?_
  refine lw_one X hS hl.1 (pc := 965) (i := 144) (q := 133) (v := (20, 0)) (A0 := []) (rest := []) (Nat.le_of_succ_le hc) (Nat.le_trans (Nat.le_add_right _ 6) hs) (by decide) rfl rfl (mm_tw4 173 rfl rfl) rfl rfl (List.forall_mem_cons.mpr ⟨lw_v20, fun _ q => nomatch q⟩) r1 (by simp) dl_965 (fun H1 locs1 hS1 => ?_)
  refine lv_aload_n X.1.1 X.1.2.1 dl_968 rfl (lv_at hl 2 rfl) ?_
  refine lw_one X hS1 hl.1 (pc := 969) (i := 147) (q := 249) (v := (21, 133)) (A0 := []) (rest := [.int (Int32.ofInt r)]) (Nat.le_of_succ_le hc) (Nat.le_trans (Nat.le_add_right _ 6) hs) (by decide) rfl rfl (mm_tw8 113 rfl rfl) rfl rfl (List.forall_mem_cons.mpr ⟨lw_v21, fun _ q => nomatch q⟩) r2 (by simp [Value.category]) dl_969 (fun H2 locs2 hS2 => ?_)
  refine lv_icmp_eq (tgt := 1276) X.1.1 X.1.2.1 dl_972 rfl (fun _ => ?_) (fun z => absurd rfl z)
  exact W.widen (Nat.le_succ _) (Nat.le_add_right _ 6) (hB H2 locs2 h2 f ls hS2 hI2 hl)
theorem lw_case_30 : lw_Go 977 := by
  intro p l e s m below meth c b L xs g D cy sa sb out k H locs h f ls cells slots Q X hL hk hl hc hs hB hS hI
  obtain ⟨r, h1, h2, r1, r2, hI2⟩ := k_tag ((xs (6 * k + 1)).toInt) 0 h hI
  refine lv_aload_n X.1.1 X.1.2.1 dl_977 rfl (lv_at hl 3 rfl) ?_
  refine lw_arg X hL hk hl hS 1 (by decide) dl_978 dl_979 dl_981 dl_982 dl_983 ?_
  refine lw_one X hS hl.1 (pc := 984) (i := 148) (q := 134) (v := (20, 0)) (A0 := [(0, (xs (6 * k + 1)).toInt)]) (rest := []) (Nat.le_of_succ_le hc) (Nat.le_trans (Nat.le_add_right _ 6) hs) (by decide) rfl rfl (mm_tw4 177 rfl rfl) rfl rfl (List.forall_mem_cons.mpr ⟨lw_v20, List.forall_mem_cons.mpr ⟨lw_vi _, fun _ q => nomatch q⟩⟩) r1 (by simp) dl_984 (fun H1 locs1 hS1 => ?_)
  refine lv_aload_n X.1.1 X.1.2.1 dl_987 rfl (lv_at hl 2 rfl) ?_
  refine lw_arg X hL hk hl hS1 1 (by decide) dl_988 dl_989 dl_991 dl_992 dl_993 ?_
  refine lw_one X hS1 hl.1 (pc := 994) (i := 151) (q := 254) (v := (21, 133)) (A0 := [(0, (xs (6 * k + 1)).toInt)]) (rest := [.int (Int32.ofInt r)]) (Nat.le_of_succ_le hc) (Nat.le_trans (Nat.le_add_right _ 6) hs) (by decide) rfl rfl (mm_tw8 117 rfl rfl) rfl rfl (List.forall_mem_cons.mpr ⟨lw_v21, List.forall_mem_cons.mpr ⟨lw_vi _, fun _ q => nomatch q⟩⟩) r2 (by simp [Value.category]) dl_994 (fun H2 locs2 hS2 => ?_)
  refine lv_icmp_eq (tgt := 1276) X.1.1 X.1.2.1 dl_997 rfl (fun _ => ?_) (fun z => absurd rfl z)
  exact W.widen (Nat.le_succ _) (Nat.le_add_right _ 6) (hB H2 locs2 h2 f ls hS2 hI2 hl)
theorem lw_case_31 : lw_Go 1002 := by
  intro p l e s m below meth c b L xs g D cy sa sb out k H locs h f ls cells slots Q X hL hk hl hc hs hB hS hI
  obtain ⟨r, h1, h2, r1, r2, hI2⟩ := k_byteAt ((xs (6 * k + 1)).toInt) 0 h hI
  refine lv_aload_n X.1.1 X.1.2.1 dl_1002 rfl (lv_at hl 3 rfl) ?_
  refine lw_arg X hL hk hl hS 1 (by decide) dl_1003 dl_1004 dl_1006 dl_1007 dl_1008 ?_
  refine lw_one X hS hl.1 (pc := 1009) (i := 152) (q := 135) (v := (20, 0)) (A0 := [(0, (xs (6 * k + 1)).toInt)]) (rest := []) (Nat.le_of_succ_le hc) (Nat.le_trans (Nat.le_add_right _ 6) hs) (by decide) rfl rfl (mm_tw5 14 rfl rfl) rfl rfl (List.forall_mem_cons.mpr ⟨lw_v20, List.forall_mem_cons.mpr ⟨lw_vi _, fun _ q => nomatch q⟩⟩) r1 (by simp) dl_1009 (fun H1 locs1 hS1 => ?_)
  refine lv_aload_n X.1.1 X.1.2.1 dl_1012 rfl (lv_at hl 2 rfl) ?_
  refine lw_arg X hL hk hl hS1 1 (by decide) dl_1013 dl_1014 dl_1016 dl_1017 dl_1018 ?_
  refine lw_one X hS1 hl.1 (pc := 1019) (i := 155) (q := 255) (v := (21, 133)) (A0 := [(0, (xs (6 * k + 1)).toInt)]) (rest := [.int (Int32.ofInt r)]) (Nat.le_of_succ_le hc) (Nat.le_trans (Nat.le_add_right _ 6) hs) (by decide) rfl rfl (mm_tw8 137 rfl rfl) rfl rfl (List.forall_mem_cons.mpr ⟨lw_v21, List.forall_mem_cons.mpr ⟨lw_vi _, fun _ q => nomatch q⟩⟩) r2 (by simp [Value.category]) dl_1019 (fun H2 locs2 hS2 => ?_)
  refine lv_icmp_eq (tgt := 1276) X.1.1 X.1.2.1 dl_1022 rfl (fun _ => ?_) (fun z => absurd rfl z)
  exact W.widen (Nat.le_succ _) (Nat.le_add_right _ 6) (hB H2 locs2 h2 f ls hS2 hI2 hl)
theorem lw_case_32 : lw_Go 1027 := by
  intro p l e s m below meth c b L xs g D cy sa sb out k H locs h f ls cells slots Q X hL hk hl hc hs hB hS hI
  obtain ⟨r, h1, h2, r1, r2, hI2⟩ := k_drawn ((xs (6 * k + 1)).toInt) ((xs (6 * k + 2)).toInt) 0 h hI
  refine lv_aload_n X.1.1 X.1.2.1 dl_1027 rfl (lv_at hl 3 rfl) ?_
  refine lw_arg X hL hk hl hS 1 (by decide) dl_1028 dl_1029 dl_1031 dl_1032 dl_1033 ?_
  refine lw_arg X hL hk hl hS 2 (by decide) dl_1034 dl_1035 dl_1037 dl_1038 dl_1039 ?_
  refine lw_one X hS hl.1 (pc := 1040) (i := 156) (q := 136) (v := (20, 0)) (A0 := [(0, (xs (6 * k + 1)).toInt), (0, (xs (6 * k + 2)).toInt)]) (rest := []) (Nat.le_of_succ_le hc) (Nat.le_trans (Nat.le_add_right _ 6) hs) (by decide) rfl rfl (mm_tw5 18 rfl rfl) rfl rfl (List.forall_mem_cons.mpr ⟨lw_v20, List.forall_mem_cons.mpr ⟨lw_vi _, List.forall_mem_cons.mpr ⟨lw_vi _, fun _ q => nomatch q⟩⟩⟩) r1 (by simp) dl_1040 (fun H1 locs1 hS1 => ?_)
  refine lv_aload_n X.1.1 X.1.2.1 dl_1043 rfl (lv_at hl 2 rfl) ?_
  refine lw_arg X hL hk hl hS1 1 (by decide) dl_1044 dl_1045 dl_1047 dl_1048 dl_1049 ?_
  refine lw_arg X hL hk hl hS1 2 (by decide) dl_1050 dl_1051 dl_1053 dl_1054 dl_1055 ?_
  refine lw_one X hS1 hl.1 (pc := 1056) (i := 159) (q := 259) (v := (21, 133)) (A0 := [(0, (xs (6 * k + 1)).toInt), (0, (xs (6 * k + 2)).toInt)]) (rest := [.int (Int32.ofInt r)]) (Nat.le_of_succ_le hc) (Nat.le_trans (Nat.le_add_right _ 6) hs) (by decide) rfl rfl (mm_tw8 141 rfl rfl) rfl rfl (List.forall_mem_cons.mpr ⟨lw_v21, List.forall_mem_cons.mpr ⟨lw_vi _, List.forall_mem_cons.mpr ⟨lw_vi _, fun _ q => nomatch q⟩⟩⟩) r2 (by simp [Value.category]) dl_1056 (fun H2 locs2 hS2 => ?_)
  refine lv_icmp_eq (tgt := 1276) X.1.1 X.1.2.1 dl_1059 rfl (fun _ => ?_) (fun z => absurd rfl z)
  exact W.widen (Nat.le_succ _) (Nat.le_add_right _ 6) (hB H2 locs2 h2 f ls hS2 hI2 hl)
theorem lw_case_33 : lw_Go 1064 := by
  intro p l e s m below meth c b L xs g D cy sa sb out k H locs h f ls cells slots Q X hL hk hl hc hs hB hS hI
  obtain ⟨r, h1, h2, r1, r2, hI2⟩ := k_odds ((xs (6 * k + 1)).toInt) ((xs (6 * k + 2)).toInt) ((xs (6 * k + 3)).toInt) 0 h hI
  refine lv_aload_n X.1.1 X.1.2.1 dl_1064 rfl (lv_at hl 3 rfl) ?_
  refine lw_arg X hL hk hl hS 1 (by decide) dl_1065 dl_1066 dl_1068 dl_1069 dl_1070 ?_
  refine lw_arg X hL hk hl hS 2 (by decide) dl_1071 dl_1072 dl_1074 dl_1075 dl_1076 ?_
  refine lw_arg X hL hk hl hS 3 (by decide) dl_1077 dl_1078 dl_1080 dl_1081 dl_1082 ?_
  refine lw_one X hS hl.1 (pc := 1083) (i := 160) (q := 137) (v := (20, 0)) (A0 := [(0, (xs (6 * k + 1)).toInt), (0, (xs (6 * k + 2)).toInt), (0, (xs (6 * k + 3)).toInt)]) (rest := []) (Nat.le_of_succ_le hc) (Nat.le_trans (Nat.le_add_right _ 6) hs) (by decide) rfl rfl (mm_tw5 42 rfl rfl) rfl rfl (List.forall_mem_cons.mpr ⟨lw_v20, List.forall_mem_cons.mpr ⟨lw_vi _, List.forall_mem_cons.mpr ⟨lw_vi _, List.forall_mem_cons.mpr ⟨lw_vi _, fun _ q => nomatch q⟩⟩⟩⟩) r1 (by simp) dl_1083 (fun H1 locs1 hS1 => ?_)
  refine lv_aload_n X.1.1 X.1.2.1 dl_1086 rfl (lv_at hl 2 rfl) ?_
  refine lw_arg X hL hk hl hS1 1 (by decide) dl_1087 dl_1088 dl_1090 dl_1091 dl_1092 ?_
  refine lw_arg X hL hk hl hS1 2 (by decide) dl_1093 dl_1094 dl_1096 dl_1097 dl_1098 ?_
  refine lw_arg X hL hk hl hS1 3 (by decide) dl_1099 dl_1100 dl_1102 dl_1103 dl_1104 ?_
  refine lw_one X hS1 hl.1 (pc := 1105) (i := 164) (q := 260) (v := (21, 133)) (A0 := [(0, (xs (6 * k + 1)).toInt), (0, (xs (6 * k + 2)).toInt), (0, (xs (6 * k + 3)).toInt)]) (rest := [.int (Int32.ofInt r)]) (Nat.le_of_succ_le hc) (Nat.le_trans (Nat.le_add_right _ 6) hs) (by decide) rfl rfl (mm_tw8 158 rfl rfl) rfl rfl (List.forall_mem_cons.mpr ⟨lw_v21, List.forall_mem_cons.mpr ⟨lw_vi _, List.forall_mem_cons.mpr ⟨lw_vi _, List.forall_mem_cons.mpr ⟨lw_vi _, fun _ q => nomatch q⟩⟩⟩⟩) r2 (by simp [Value.category]) dl_1105 (fun H2 locs2 hS2 => ?_)
  refine lv_icmp_eq (tgt := 1276) X.1.1 X.1.2.1 dl_1108 rfl (fun _ => ?_) (fun z => absurd rfl z)
  exact W.widen (Nat.le_succ _) (Nat.le_add_right _ 6) (hB H2 locs2 h2 f ls hS2 hI2 hl)
theorem lw_case_34 : lw_Go 1113 := by
  intro p l e s m below meth c b L xs g D cy sa sb out k H locs h f ls cells slots Q X hL hk hl hc hs hB hS hI
  obtain ⟨r, h1, h2, r1, r2, hI2⟩ := k_book ((xs (6 * k + 1)).toInt) 0 h hI
  refine lv_aload_n X.1.1 X.1.2.1 dl_1113 rfl (lv_at hl 3 rfl) ?_
  refine lw_arg X hL hk hl hS 1 (by decide) dl_1114 dl_1115 dl_1117 dl_1118 dl_1119 ?_
  refine lw_one X hS hl.1 (pc := 1120) (i := 165) (q := 138) (v := (20, 0)) (A0 := [(0, (xs (6 * k + 1)).toInt)]) (rest := []) (Nat.le_of_succ_le hc) (Nat.le_trans (Nat.le_add_right _ 6) hs) (by decide) rfl rfl (mm_tw5 46 rfl rfl) rfl rfl (List.forall_mem_cons.mpr ⟨lw_v20, List.forall_mem_cons.mpr ⟨lw_vi _, fun _ q => nomatch q⟩⟩) r1 (by simp) dl_1120 (fun H1 locs1 hS1 => ?_)
  refine lv_aload_n X.1.1 X.1.2.1 dl_1123 rfl (lv_at hl 2 rfl) ?_
  refine lw_arg X hL hk hl hS1 1 (by decide) dl_1124 dl_1125 dl_1127 dl_1128 dl_1129 ?_
  refine lw_one X hS1 hl.1 (pc := 1130) (i := 168) (q := 267) (v := (21, 133)) (A0 := [(0, (xs (6 * k + 1)).toInt)]) (rest := [.int (Int32.ofInt r)]) (Nat.le_of_succ_le hc) (Nat.le_trans (Nat.le_add_right _ 6) hs) (by decide) rfl rfl (mm_tw8 162 rfl rfl) rfl rfl (List.forall_mem_cons.mpr ⟨lw_v21, List.forall_mem_cons.mpr ⟨lw_vi _, fun _ q => nomatch q⟩⟩) r2 (by simp [Value.category]) dl_1130 (fun H2 locs2 hS2 => ?_)
  refine lv_icmp_eq (tgt := 1276) X.1.1 X.1.2.1 dl_1133 rfl (fun _ => ?_) (fun z => absurd rfl z)
  exact W.widen (Nat.le_succ _) (Nat.le_add_right _ 6) (hB H2 locs2 h2 f ls hS2 hI2 hl)
theorem lw_case_35 : lw_Go 1138 := by
  intro p l e s m below meth c b L xs g D cy sa sb out k H locs h f ls cells slots Q X hL hk hl hc hs hB hS hI
  obtain ⟨r, h1, h2, r1, r2, hI2⟩ := k_told ((xs (6 * k + 1)).toInt) 0 h hI
  refine lv_aload_n X.1.1 X.1.2.1 dl_1138 rfl (lv_at hl 3 rfl) ?_
  refine lw_arg X hL hk hl hS 1 (by decide) dl_1139 dl_1140 dl_1142 dl_1143 dl_1144 ?_
  refine lw_one X hS hl.1 (pc := 1145) (i := 169) (q := 139) (v := (20, 0)) (A0 := [(0, (xs (6 * k + 1)).toInt)]) (rest := []) (Nat.le_of_succ_le hc) (Nat.le_trans (Nat.le_add_right _ 6) hs) (by decide) rfl rfl (mm_tw5 107 rfl rfl) rfl rfl (List.forall_mem_cons.mpr ⟨lw_v20, List.forall_mem_cons.mpr ⟨lw_vi _, fun _ q => nomatch q⟩⟩) r1 (by simp) dl_1145 (fun H1 locs1 hS1 => ?_)
  refine lv_aload_n X.1.1 X.1.2.1 dl_1148 rfl (lv_at hl 2 rfl) ?_
  refine lw_arg X hL hk hl hS1 1 (by decide) dl_1149 dl_1150 dl_1152 dl_1153 dl_1154 ?_
  refine lw_one X hS1 hl.1 (pc := 1155) (i := 172) (q := 269) (v := (21, 133)) (A0 := [(0, (xs (6 * k + 1)).toInt)]) (rest := [.int (Int32.ofInt r)]) (Nat.le_of_succ_le hc) (Nat.le_trans (Nat.le_add_right _ 6) hs) (by decide) rfl rfl (mm_tw8 194 rfl rfl) rfl rfl (List.forall_mem_cons.mpr ⟨lw_v21, List.forall_mem_cons.mpr ⟨lw_vi _, fun _ q => nomatch q⟩⟩) r2 (by simp [Value.category]) dl_1155 (fun H2 locs2 hS2 => ?_)
  refine lv_icmp_eq (tgt := 1276) X.1.1 X.1.2.1 dl_1158 rfl (fun _ => ?_) (fun z => absurd rfl z)
  exact W.widen (Nat.le_succ _) (Nat.le_add_right _ 6) (hB H2 locs2 h2 f ls hS2 hI2 hl)
theorem lw_case_36 : lw_Go 1163 := by
  intro p l e s m below meth c b L xs g D cy sa sb out k H locs h f ls cells slots Q X hL hk hl hc hs hB hS hI
  obtain ⟨r, h1, h2, r1, r2, hI2⟩ := k_sentence 0 h hI
  refine lv_aload_n X.1.1 X.1.2.1 dl_1163 rfl (lv_at hl 3 rfl) ?_
  refine lw_one X hS hl.1 (pc := 1164) (i := 173) (q := 140) (v := (20, 0)) (A0 := []) (rest := []) (Nat.le_of_succ_le hc) (Nat.le_trans (Nat.le_add_right _ 6) hs) (by decide) rfl rfl (mm_tw5 115 rfl rfl) rfl rfl (List.forall_mem_cons.mpr ⟨lw_v20, fun _ q => nomatch q⟩) r1 (by simp) dl_1164 (fun H1 locs1 hS1 => ?_)
  refine lv_aload_n X.1.1 X.1.2.1 dl_1167 rfl (lv_at hl 2 rfl) ?_
  refine lw_one X hS1 hl.1 (pc := 1168) (i := 176) (q := 278) (v := (21, 133)) (A0 := []) (rest := [.int (Int32.ofInt r)]) (Nat.le_of_succ_le hc) (Nat.le_trans (Nat.le_add_right _ 6) hs) (by decide) rfl rfl (mm_tw8 198 rfl rfl) rfl rfl (List.forall_mem_cons.mpr ⟨lw_v21, fun _ q => nomatch q⟩) r2 (by simp [Value.category]) dl_1168 (fun H2 locs2 hS2 => ?_)
  refine lv_icmp_eq (tgt := 1276) X.1.1 X.1.2.1 dl_1171 rfl (fun _ => ?_) (fun z => absurd rfl z)
  exact W.widen (Nat.le_succ _) (Nat.le_add_right _ 6) (hB H2 locs2 h2 f ls hS2 hI2 hl)
theorem lw_case_37 : lw_Go 1176 := by
  intro p l e s m below meth c b L xs g D cy sa sb out k H locs h f ls cells slots Q X hL hk hl hc hs hB hS hI
  obtain ⟨r, h1, h2, r1, r2, hI2⟩ := k_said ((xs (6 * k + 1)).toInt) 0 h hI
  refine lv_aload_n X.1.1 X.1.2.1 dl_1176 rfl (lv_at hl 3 rfl) ?_
  refine lw_arg X hL hk hl hS 1 (by decide) dl_1177 dl_1178 dl_1180 dl_1181 dl_1182 ?_
  refine lw_one X hS hl.1 (pc := 1183) (i := 177) (q := 141) (v := (20, 0)) (A0 := [(0, (xs (6 * k + 1)).toInt)]) (rest := []) (Nat.le_of_succ_le hc) (Nat.le_trans (Nat.le_add_right _ 6) hs) (by decide) rfl rfl (mm_tw5 187 rfl rfl) rfl rfl (List.forall_mem_cons.mpr ⟨lw_v20, List.forall_mem_cons.mpr ⟨lw_vi _, fun _ q => nomatch q⟩⟩) r1 (by simp) dl_1183 (fun H1 locs1 hS1 => ?_)
  refine lv_aload_n X.1.1 X.1.2.1 dl_1186 rfl (lv_at hl 2 rfl) ?_
  refine lw_arg X hL hk hl hS1 1 (by decide) dl_1187 dl_1188 dl_1190 dl_1191 dl_1192 ?_
  refine lw_one X hS1 hl.1 (pc := 1193) (i := 180) (q := 280) (v := (21, 133)) (A0 := [(0, (xs (6 * k + 1)).toInt)]) (rest := [.int (Int32.ofInt r)]) (Nat.le_of_succ_le hc) (Nat.le_trans (Nat.le_add_right _ 6) hs) (by decide) rfl rfl (mm_tw8 234 rfl rfl) rfl rfl (List.forall_mem_cons.mpr ⟨lw_v21, List.forall_mem_cons.mpr ⟨lw_vi _, fun _ q => nomatch q⟩⟩) r2 (by simp [Value.category]) dl_1193 (fun H2 locs2 hS2 => ?_)
  refine lv_icmp_eq (tgt := 1276) X.1.1 X.1.2.1 dl_1196 rfl (fun _ => ?_) (fun z => absurd rfl z)
  exact W.widen (Nat.le_succ _) (Nat.le_add_right _ 6) (hB H2 locs2 h2 f ls hS2 hI2 hl)
theorem lw_case_38 : lw_Go 1201 := by
  intro p l e s m below meth c b L xs g D cy sa sb out k H locs h f ls cells slots Q X hL hk hl hc hs hB hS hI
  obtain ⟨r, h1, h2, r1, r2, hI2⟩ := k_image ((xs (6 * k + 1)).toInt) 0 h hI
  refine lv_aload_n X.1.1 X.1.2.1 dl_1201 rfl (lv_at hl 3 rfl) ?_
  refine lw_arg X hL hk hl hS 1 (by decide) dl_1202 dl_1203 dl_1205 dl_1206 dl_1207 ?_
  refine lw_one X hS hl.1 (pc := 1208) (i := 181) (q := 142) (v := (20, 0)) (A0 := [(0, (xs (6 * k + 1)).toInt)]) (rest := []) (Nat.le_of_succ_le hc) (Nat.le_trans (Nat.le_add_right _ 6) hs) (by decide) rfl rfl (mm_tw5 215 rfl rfl) rfl rfl (List.forall_mem_cons.mpr ⟨lw_v20, List.forall_mem_cons.mpr ⟨lw_vi _, fun _ q => nomatch q⟩⟩) r1 (by simp) dl_1208 (fun H1 locs1 hS1 => ?_)
  refine lv_aload_n X.1.1 X.1.2.1 dl_1211 rfl (lv_at hl 2 rfl) ?_
  refine lw_arg X hL hk hl hS1 1 (by decide) dl_1212 dl_1213 dl_1215 dl_1216 dl_1217 ?_
  refine lw_one X hS1 hl.1 (pc := 1218) (i := 184) (q := 281) (v := (21, 133)) (A0 := [(0, (xs (6 * k + 1)).toInt)]) (rest := [.int (Int32.ofInt r)]) (Nat.le_of_succ_le hc) (Nat.le_trans (Nat.le_add_right _ 6) hs) (by decide) rfl rfl (mm_tw9 2 rfl rfl) rfl rfl (List.forall_mem_cons.mpr ⟨lw_v21, List.forall_mem_cons.mpr ⟨lw_vi _, fun _ q => nomatch q⟩⟩) r2 (by simp [Value.category]) dl_1218 (fun H2 locs2 hS2 => ?_)
  refine lv_icmp_eq (tgt := 1276) X.1.1 X.1.2.1 dl_1221 rfl (fun _ => ?_) (fun z => absurd rfl z)
  exact W.widen (Nat.le_succ _) (Nat.le_add_right _ 6) (hB H2 locs2 h2 f ls hS2 hI2 hl)
theorem lw_case_39 : lw_Go 1226 := by
  intro p l e s m below meth c b L xs g D cy sa sb out k H locs h f ls cells slots Q X hL hk hl hc hs hB hS hI
  obtain ⟨r, h1, h2, r1, r2, hI2⟩ := k_restore ((xs (6 * k + 1)).toInt) 0 h hI
  refine lv_aload_n X.1.1 X.1.2.1 dl_1226 rfl (lv_at hl 3 rfl) ?_
  refine lw_arg X hL hk hl hS 1 (by decide) dl_1227 dl_1228 dl_1230 dl_1231 dl_1232 ?_
  refine lw_one X hS hl.1 (pc := 1233) (i := 185) (q := 143) (v := (20, 0)) (A0 := [(0, (xs (6 * k + 1)).toInt)]) (rest := []) (Nat.le_of_succ_le hc) (Nat.le_trans (Nat.le_add_right _ 6) hs) (by decide) rfl rfl (mm_tw5 229 rfl rfl) rfl rfl (List.forall_mem_cons.mpr ⟨lw_v20, List.forall_mem_cons.mpr ⟨lw_vi _, fun _ q => nomatch q⟩⟩) r1 (by simp) dl_1233 (fun H1 locs1 hS1 => ?_)
  refine lv_aload_n X.1.1 X.1.2.1 dl_1236 rfl (lv_at hl 2 rfl) ?_
  refine lw_arg X hL hk hl hS1 1 (by decide) dl_1237 dl_1238 dl_1240 dl_1241 dl_1242 ?_
  refine lw_one X hS1 hl.1 (pc := 1243) (i := 188) (q := 282) (v := (21, 133)) (A0 := [(0, (xs (6 * k + 1)).toInt)]) (rest := [.int (Int32.ofInt r)]) (Nat.le_of_succ_le hc) (Nat.le_trans (Nat.le_add_right _ 6) hs) (by decide) rfl rfl (mm_tw9 6 rfl rfl) rfl rfl (List.forall_mem_cons.mpr ⟨lw_v21, List.forall_mem_cons.mpr ⟨lw_vi _, fun _ q => nomatch q⟩⟩) r2 (by simp [Value.category]) dl_1243 (fun H2 locs2 hS2 => ?_)
  refine lv_icmp_eq (tgt := 1276) X.1.1 X.1.2.1 dl_1246 rfl (fun _ => ?_) (fun z => absurd rfl z)
  exact W.widen (Nat.le_succ _) (Nat.le_add_right _ 6) (hB H2 locs2 h2 f ls hS2 hI2 hl)
theorem lw_case_40 : lw_Go 1251 := by
  intro p l e s m below meth c b L xs g D cy sa sb out k H locs h f ls cells slots Q X hL hk hl hc hs hB hS hI
  obtain ⟨r, h1, h2, r1, r2, hI2⟩ := k_count ((xs (6 * k + 1)).toInt) 0 h hI
  refine lv_aload_n X.1.1 X.1.2.1 dl_1251 rfl (lv_at hl 3 rfl) ?_
  refine lw_arg X hL hk hl hS 1 (by decide) dl_1252 dl_1253 dl_1255 dl_1256 dl_1257 ?_
  refine lw_one X hS hl.1 (pc := 1258) (i := 189) (q := 144) (v := (20, 0)) (A0 := [(0, (xs (6 * k + 1)).toInt)]) (rest := []) (Nat.le_of_succ_le hc) (Nat.le_trans (Nat.le_add_right _ 6) hs) (by decide) rfl rfl (mm_tw5 233 rfl rfl) rfl rfl (List.forall_mem_cons.mpr ⟨lw_v20, List.forall_mem_cons.mpr ⟨lw_vi _, fun _ q => nomatch q⟩⟩) r1 (by simp) dl_1258 (fun H1 locs1 hS1 => ?_)
  refine lv_aload_n X.1.1 X.1.2.1 dl_1261 rfl (lv_at hl 2 rfl) ?_
  refine lw_arg X hL hk hl hS1 1 (by decide) dl_1262 dl_1263 dl_1265 dl_1266 dl_1267 ?_
  refine lw_one X hS1 hl.1 (pc := 1268) (i := 192) (q := 283) (v := (21, 133)) (A0 := [(0, (xs (6 * k + 1)).toInt)]) (rest := [.int (Int32.ofInt r)]) (Nat.le_of_succ_le hc) (Nat.le_trans (Nat.le_add_right _ 6) hs) (by decide) rfl rfl (mm_tw9 10 rfl rfl) rfl rfl (List.forall_mem_cons.mpr ⟨lw_v21, List.forall_mem_cons.mpr ⟨lw_vi _, fun _ q => nomatch q⟩⟩) r2 (by simp [Value.category]) dl_1268 (fun H2 locs2 hS2 => ?_)
  refine lv_icmp_eq (tgt := 1276) X.1.1 X.1.2.1 dl_1271 rfl (fun _ => ?_) (fun z => absurd rfl z)
  exact W.widen (Nat.le_succ _) (Nat.le_add_right _ 6) (hB H2 locs2 h2 f ls hS2 hI2 hl)
