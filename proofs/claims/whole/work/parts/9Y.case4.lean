/-! The case of person -/
theorem lp_G : GoodIn mm_TW (va_wsS R_law 38 lp_y lp_w) := by
  have key : ∀ w, w ∈ mm_TW → w ∈ mm_TW ∧ ((w.onTables && w.keeps) = true ∨ ∃ ty, w = .arrayClass ty) := fun w hw => ⟨hw, good_of_word (List.mem_filter.mp hw).2⟩
  intro w hw
  unfold va_wsS lp_w at hw
  simp only [List.cons_append, List.nil_append, List.mem_cons] at hw
  rcases hw with e | e | e | e | hw
  · subst e; exact key _ (mm_tw5 237 rfl rfl)
  · subst e; exact key _ (mm_tw5 238 rfl rfl)
  · subst e; exact key _ (mm_tw1 0 rfl rfl)
  · subst e; exact key _ (mm_tw5 239 rfl rfl)
  · exact key _ hw
section L4
variable {p : Program} {l : Launch} {e : Env} {s : State} {m : MethodId} {below : List Frame} {meth : Method} {c : Code} {b L : Nat} {xs : Nat → Int32} {g : Nat → Nat → Nat} {D : va_G} {cy : Nat → ClassId} {sa sb out k : Nat} {H : Heap} {locs : List Loc} {h : mm_H} {f : Nat → Int64} {ls : Array Slot} {cells slots : Nat} {Q : State → Prop}
/-- the law's own person is called -/
theorem lw_pers {x y : Int} {kq : Int32} {vq : Int64 → Prop} (X : lw_X p l s m meth c b L xs g D cy sa sb out) (hl : lw_L b g out k ls) (hc : cells + 1 ≤ 601024) (hs : slots + 6 ≤ 7293034) (hS : lw_S s g D cy out H locs h f)
    (hM : Met l lp_y lp_w lp_rm (va_Pc [.ref (g 0 0), .int (Int32.ofInt x), .int (Int32.ofInt y), .ref out] (lp_U g D cy h sa sb out f)) (lp_Q g D cy h out kq vq) 1 6 (lp_A g out))
    (kk : ∀ (H1 : Heap) (locs1 : List Loc) (u : Nat → Int64), vq (u 0) → lw_S s g D cy out H1 locs1 h u → W p l e room_1 s m #[Value.ref b] below meth c H1 locs1 (cells + 1) (slots + 6) Q (F0 m 361 ls [.int kq])) :
    W p l e room_1 s m #[Value.ref b] below meth c H locs cells slots Q (F0 m 358 ls [.ref out, .int (Int32.ofInt y), .int (Int32.ofInt x), .ref (g 0 0)]) := by
  obtain ⟨⟨hx, hb, hr, hml, hown, hts0, hX, hbl, hlk, hgv⟩, hst, hg, hK, hZ, hN, hXN, hgA, hoA, hno⟩ := X
  obtain ⟨hR, hP, hSS⟩ := hS
  have hts : ∀ w ∈ mm_TW, w.before #[Value.ref b] s = true := fun w hw => hts0 w (List.mem_filter.mp hw).1
  have hA' : ∀ q, lp_A g out q → s.heap.size ≤ q := fun q z => z.elim (hgA q) (fun w => by rw [w]; exact hoA)
  have hpre : PreS s H (va_Pc [.ref (g 0 0), .int (Int32.ofInt x), .int (Int32.ofInt y), .ref out] (lp_U g D cy h sa sb out f)) [.ref (g 0 0), .int (Int32.ofInt x), .int (Int32.ofInt y), .ref out] :=
    ⟨lp_FB, fun U hU hW => ⟨rfl, ⟨by rw [hU]; exact hP, va_K.moved hW.alike hK, by rw [hU]; exact ((hZ.kept hSS.2.1).narrow hA').moved hW.alike, mm_nw.warm hW hN, hR⟩, by rw [hU]; exact ((hXN.kept hSS.2.1).narrow hA').warm hW⟩⟩
  have cw : vx_CSW room_1 s #[Value.ref b] R_law 38 lp_y method_3_code 5 (some .int) [(0, 10, 13, 13)] lp_w lp_rm 1 6 4 := vx_cwSW 4 hts lp_G rfl rfl rfl ⟨by decide +kernel, by decide +kernel, by decide +kernel⟩ ⟨Nat.le_of_ble_eq_true rfl, Nat.le_of_ble_eq_true rfl⟩
  refine va_calli (vx_runSW (As := [.ref (g 0 0), .int (Int32.ofInt x), .int (Int32.ofInt y), .ref out]) (rest := []) ⟨hx, hb, hml, hown, hts⟩ hM cw hpre rfl rfl hl.1 rfl (lv_room (by simp)) dl_358 ⟨hc, hs⟩) hSS (fun q _ z => hA' q z) hA' (fun r u t H1 locs1 ht hvm hpost hB hz hk hS1 => ?_)
  obtain ⟨h1, h2⟩ := hpost
  subst h1
  rw [ht] at hB
  exact kk H1 locs1 u h2 ⟨hR, hB, hS1⟩
end L4
set_option maxHeartbeats 2000000 in
theorem lw_case_4 : lw_Go 344 := by
  intro p l e s m below meth c b L xs g D cy sa sb out k H locs h f ls cells slots Q X hL hk hl hc hs hB hS hI
  have hx := X.1.1
  have hb := X.1.2.1
  have hc9 : cells + 1 ≤ 601024 := hc
  refine lv_aload_n hx hb dl_344 rfl (lv_at hl 3 rfl) ?_
  refine lw_arg X hL hk hl hS 1 (by decide) dl_345 dl_346 dl_348 dl_349 dl_350 ?_
  refine lw_arg X hL hk hl hS 2 (by decide) dl_351 dl_352 dl_354 dl_355 dl_356 ?_
  refine lv_aload_n hx hb dl_357 rfl (lv_at hl 1 rfl) ?_
  by_cases hy : (0 ≤ (xs (6 * k + 1)).toInt ∧ (xs (6 * k + 1)).toInt < h 135 2) ∧ 0 ≤ (xs (6 * k + 2)).toInt ∧ (xs (6 * k + 2)).toInt ≤ 4
  · refine lw_pers X hl hc hs hS (lp_ok l X.2.2.1 X.2.2.2.2.2.2.2.2.2 hI (lw_i32 _) (lw_i32 _) hy) (fun H1 locs1 u hu hS1 => ?_)
    have r2 := (k_personOk _ _ 0 h hI hy.1 hy.2).2
    refine lv_istore (lv' := [(5, .int 0), (4, .int (Int32.ofNat (6 * k))), (3, .ref out), (2, .ref (g 0 133)), (1, .ref (g 0 0)), (0, .ref b)]) hx hb dl_361 hl (by decide) rfl (fun ls1 hl1 => ?_)
    have hl1' : lw_L b g out k ls1 := lv_sub hl1 [1, 2, 3, 4, 5] rfl
    refine lv_aload_n hx hb dl_363 rfl (lv_at hl1 3 rfl) ?_
    refine lw_arg X hL hk hl1' hS1 1 (by decide) dl_364 dl_365 dl_367 dl_368 dl_369 ?_
    refine lw_arg X hL hk hl1' hS1 2 (by decide) dl_370 dl_371 dl_373 dl_374 dl_375 ?_
    refine lw_one X hS1 hl1.1 (pc := 376) (i := 43) (q := 205) (v := (21, 133)) (A0 := [(0, (xs (6 * k + 1)).toInt), (0, (xs (6 * k + 2)).toInt)]) (rest := []) hc hs (by decide) rfl rfl (mm_tw7 131 rfl rfl) rfl rfl (List.forall_mem_cons.mpr ⟨lw_v21, List.forall_mem_cons.mpr ⟨lw_vi _, List.forall_mem_cons.mpr ⟨lw_vi _, fun _ q => nomatch q⟩⟩⟩) r2 (by simp) dl_376 (fun H2 locs2 hS2 => ?_)
    refine lv_istore (lv' := [(6, .int (Int32.ofInt (f_per (h 135) (xs (6 * k + 1)).toInt (xs (6 * k + 2)).toInt))), (5, .int 0), (4, .int (Int32.ofNat (6 * k))), (3, .ref out), (2, .ref (g 0 133)), (1, .ref (g 0 0)), (0, .ref b)]) hx hb dl_379 hl1 (by decide) rfl (fun ls2 hl2 => ?_)
    have hl2' : lw_L b g out k ls2 := lv_sub hl2 [2, 3, 4, 5, 6] rfl
    refine lv_aload_n hx hb dl_381 rfl (lv_at hl2 4 rfl) ?_
    refine lw_one X hS2 hl2.1 (pc := 382) (i := 44) (q := 154) (v := (21, 133)) (A0 := []) (rest := []) hc hs (by decide) rfl rfl (mm_tw6 72 rfl rfl) rfl rfl (List.forall_mem_cons.mpr ⟨lw_v21, fun _ q => nomatch q⟩) (e_X12_thrown 99 _ 133) (by simp) dl_382 (fun H3 locs3 hS3 => ?_)
    rw [mm_up_eq]
    refine lv_iload hx hb dl_385 (lv_at hl2 1 rfl) ?_
    refine lv_icmp_eq (tgt := 392) hx hb dl_387 rfl (fun _ => ?_) (fun z => absurd rfl z)
    refine lv_iload hx hb dl_392 (lv_at hl2 1 rfl) ?_
    refine lv_if_ne (tgt := 409) hx hb dl_394 rfl (fun z => absurd rfl z) (fun _ => ?_)
    refine lv_aload_n hx hb dl_397 rfl (lv_at hl2 3 rfl) ?_
    refine lv_iconst (v := 0) hx hb dl_398 rfl ?_
    refine va_lald hx hb X.2.2.2.1 hS3.2.1 153 1 lp_at (mm_tys_get (by decide)) (i := 0) (by unfold vp_in; decide) dl_399 ?_
    have e0 : (0 : Int32).toNatClampNeg = 0 := by decide
    rw [e0, hu]
    refine lv_iload hx hb dl_400 (lv_at hl2 0 rfl) ?_
    refine lv_i2l hx hb dl_402 rfl ?_
    refine W.lcmp hx hb dl_403 ?_
    have e1 : ∀ z : Int64, lg_cmp z z = 0 := fun z => by simp [lg_cmp]
    rw [e1]
    refine lv_if_eq (tgt := 409) hx hb dl_404 rfl (fun _ => ?_) (fun z => absurd rfl z)
    refine lv_goto (tgt := 1276) hx hb dl_409 rfl ?_
    exact hB H3 locs3 _ u ls2 hS3 (hI.th 0) hl2'
  · refine lw_pers X hl hc hs hS (lp_no l X.2.1 X.2.2.1 X.2.2.2.2.2.2.2.2.2 hI (lw_i32 _) (lw_i32 _) hy) (fun H1 locs1 u hu hS1 => ?_)
    have r2 := k_personNo _ _ 0 h hI hy
    refine lv_istore (lv' := [(5, .int 1), (4, .int (Int32.ofNat (6 * k))), (3, .ref out), (2, .ref (g 0 133)), (1, .ref (g 0 0)), (0, .ref b)]) hx hb dl_361 hl (by decide) rfl (fun ls1 hl1 => ?_)
    have hl1' : lw_L b g out k ls1 := lv_sub hl1 [1, 2, 3, 4, 5] rfl
    refine lv_aload_n hx hb dl_363 rfl (lv_at hl1 3 rfl) ?_
    refine lw_arg X hL hk hl1' hS1 1 (by decide) dl_364 dl_365 dl_367 dl_368 dl_369 ?_
    refine lw_arg X hL hk hl1' hS1 2 (by decide) dl_370 dl_371 dl_373 dl_374 dl_375 ?_
    refine lw_one X hS1 hl1.1 (pc := 376) (i := 43) (q := 205) (v := (21, 133)) (A0 := [(0, (xs (6 * k + 1)).toInt), (0, (xs (6 * k + 2)).toInt)]) (rest := []) hc hs (by decide) rfl rfl (mm_tw7 131 rfl rfl) rfl rfl (List.forall_mem_cons.mpr ⟨lw_v21, List.forall_mem_cons.mpr ⟨lw_vi _, List.forall_mem_cons.mpr ⟨lw_vi _, fun _ q => nomatch q⟩⟩⟩) r2 (by simp) dl_376 (fun H2 locs2 hS2 => ?_)
    refine lv_istore (lv' := [(6, .int (Int32.ofInt 0)), (5, .int 1), (4, .int (Int32.ofNat (6 * k))), (3, .ref out), (2, .ref (g 0 133)), (1, .ref (g 0 0)), (0, .ref b)]) hx hb dl_379 hl1 (by decide) rfl (fun ls2 hl2 => ?_)
    have hl2' : lw_L b g out k ls2 := lv_sub hl2 [2, 3, 4, 5, 6] rfl
    refine lv_aload_n hx hb dl_381 rfl (lv_at hl2 4 rfl) ?_
    refine lw_one X hS2 hl2.1 (pc := 382) (i := 44) (q := 154) (v := (21, 133)) (A0 := []) (rest := []) hc hs (by decide) rfl rfl (mm_tw6 72 rfl rfl) rfl rfl (List.forall_mem_cons.mpr ⟨lw_v21, fun _ q => nomatch q⟩) (e_X12_thrown 99 _ 133) (by simp) dl_382 (fun H3 locs3 hS3 => ?_)
    rw [mm_up_eq]
    refine lv_iload hx hb dl_385 (lv_at hl2 1 rfl) ?_
    refine lv_icmp_eq (tgt := 392) hx hb dl_387 rfl (fun _ => ?_) (fun z => absurd rfl z)
    refine lv_iload hx hb dl_392 (lv_at hl2 1 rfl) ?_
    refine lv_if_ne (tgt := 409) hx hb dl_394 rfl (fun _ => ?_) (fun z => absurd z (by decide))
    refine lv_goto (tgt := 1276) hx hb dl_409 rfl ?_
    exact hB H3 locs3 _ u ls2 hS3 (hI.th 1) hl2'
