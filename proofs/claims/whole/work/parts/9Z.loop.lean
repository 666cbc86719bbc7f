/-! The loop -/
section LY
variable {p : Program} {l : Launch} {e : Env} {s : State} {m : MethodId} {below : List Frame} {meth : Method} {c : Code} {b L : Nat} {xs : Nat → Int32} {g : Nat → Nat → Nat} {D : va_G} {cy : Nat → ClassId} {sa sb out : Nat}
theorem lw_switch {k : Nat} {H : Heap} {locs : List Loc} {h : mm_H} {f : Nat → Int64} {ls : Array Slot} {cells slots : Nat} {Q : State → Prop} {x : Int32} (X : lw_X p l s m meth c b L xs g D cy sa sb out) (hL : L ≤ 3072) (hk : 6 * k + 6 ≤ L) (hl : lw_L b g out k ls) (hc : cells + 1 ≤ 601024) (hs : slots + 6 ≤ 7293034) (hB : lw_B p l e s m below meth c b g D cy out k cells slots Q) (hS : lw_S s g D cy out H locs h f) (hI : Inv h) : W p l e room_1 s m #[Value.ref b] below meth c H locs cells slots Q (F0 m 40 ls [.int x]) := by
  have hx := X.1.1
  have hb := X.1.2.1
  by_cases c0 : 0 ≤ x.toInt ∧ x.toInt ≤ 40
  · obtain ⟨n, hn⟩ : ∃ n : Nat, x.toInt = n := ⟨x.toInt.toNat, by omega⟩
    have hn40 : n ≤ 40 := by omega
    match n, hn, hn40 with
    | 0, hn, _ => exact lv_tableIn (off := 180) (tgt := 220) hx hb dl_40 (by rw [hn]; decide) (by rw [hn]; decide) (by rw [hn]; rfl) rfl (lw_case_0 X hL hk hl hc hs hB hS hI)
    | 1, hn, _ => exact lv_tableIn (off := 253) (tgt := 293) hx hb dl_40 (by rw [hn]; decide) (by rw [hn]; decide) (by rw [hn]; rfl) rfl (lw_case_1 X hL hk hl hc hs hB hS hI)
    | 2, hn, _ => exact lv_tableIn (off := 278) (tgt := 318) hx hb dl_40 (by rw [hn]; decide) (by rw [hn]; decide) (by rw [hn]; rfl) rfl (lw_case_2 X hL hk hl hc hs hB hS hI)
    | 3, hn, _ => exact lv_tableIn (off := 291) (tgt := 331) hx hb dl_40 (by rw [hn]; decide) (by rw [hn]; decide) (by rw [hn]; rfl) rfl (lw_case_3 X hL hk hl hc hs hB hS hI)
    | 4, hn, _ => exact lv_tableIn (off := 304) (tgt := 344) hx hb dl_40 (by rw [hn]; decide) (by rw [hn]; decide) (by rw [hn]; rfl) rfl (lw_case_4 X hL hk hl hc hs hB hS hI)
    | 5, hn, _ => exact lv_tableIn (off := 372) (tgt := 412) hx hb dl_40 (by rw [hn]; decide) (by rw [hn]; decide) (by rw [hn]; rfl) rfl (lw_case_5 X hL hk hl hc hs hB hS hI)
    | 6, hn, _ => exact lv_tableIn (off := 409) (tgt := 449) hx hb dl_40 (by rw [hn]; decide) (by rw [hn]; decide) (by rw [hn]; rfl) rfl (lw_case_6 X hL hk hl hc hs hB hS hI)
    | 7, hn, _ => exact lv_tableIn (off := 434) (tgt := 474) hx hb dl_40 (by rw [hn]; decide) (by rw [hn]; decide) (by rw [hn]; rfl) rfl (lw_case_7 X hL hk hl hc hs hB hS hI)
    | 8, hn, _ => exact lv_tableIn (off := 459) (tgt := 499) hx hb dl_40 (by rw [hn]; decide) (by rw [hn]; decide) (by rw [hn]; rfl) rfl (lw_case_8 X hL hk hl hc hs hB hS hI)
    | 9, hn, _ => exact lv_tableIn (off := 472) (tgt := 512) hx hb dl_40 (by rw [hn]; decide) (by rw [hn]; decide) (by rw [hn]; rfl) rfl (lw_case_9 X hL hk hl hc hs hB hS hI)
    | 10, hn, _ => exact lv_tableIn (off := 485) (tgt := 525) hx hb dl_40 (by rw [hn]; decide) (by rw [hn]; decide) (by rw [hn]; rfl) rfl (lw_case_10 X hL hk hl hc hs hB hS hI)
    | 11, hn, _ => exact lv_tableIn (off := 498) (tgt := 538) hx hb dl_40 (by rw [hn]; decide) (by rw [hn]; decide) (by rw [hn]; rfl) rfl (lw_case_11 X hL hk hl hc hs hB hS hI)
    | 12, hn, _ => exact lv_tableIn (off := 523) (tgt := 563) hx hb dl_40 (by rw [hn]; decide) (by rw [hn]; decide) (by rw [hn]; rfl) rfl (lw_case_12 X hL hk hl hc hs hB hS hI)
    | 13, hn, _ => exact lv_tableIn (off := 548) (tgt := 588) hx hb dl_40 (by rw [hn]; decide) (by rw [hn]; decide) (by rw [hn]; rfl) rfl (lw_case_13 X hL hk hl hc hs hB hS hI)
    | 14, hn, _ => exact lv_tableIn (off := 573) (tgt := 613) hx hb dl_40 (by rw [hn]; decide) (by rw [hn]; decide) (by rw [hn]; rfl) rfl (lw_case_14 X hL hk hl hc hs hB hS hI)
    | 15, hn, _ => exact lv_tableIn (off := 598) (tgt := 638) hx hb dl_40 (by rw [hn]; decide) (by rw [hn]; decide) (by rw [hn]; rfl) rfl (lw_case_15 X hL hk hl hc hs hB hS hI)
    | 16, hn, _ => exact lv_tableIn (off := 611) (tgt := 651) hx hb dl_40 (by rw [hn]; decide) (by rw [hn]; decide) (by rw [hn]; rfl) rfl (lw_case_16 X hL hk hl hc hs hB hS hI)
    | 17, hn, _ => exact lv_tableIn (off := 648) (tgt := 688) hx hb dl_40 (by rw [hn]; decide) (by rw [hn]; decide) (by rw [hn]; rfl) rfl (lw_case_17 X hL hk hl hc hs hB hS hI)
    | 18, hn, _ => exact lv_tableIn (off := 685) (tgt := 725) hx hb dl_40 (by rw [hn]; decide) (by rw [hn]; decide) (by rw [hn]; rfl) rfl (lw_case_18 X hL hk hl hc hs hB hS hI)
    | 19, hn, _ => exact lv_tableIn (off := 710) (tgt := 750) hx hb dl_40 (by rw [hn]; decide) (by rw [hn]; decide) (by rw [hn]; rfl) rfl (lw_case_19 X hL hk hl hc hs hB hS hI)
    | 20, hn, _ => exact lv_tableIn (off := 747) (tgt := 787) hx hb dl_40 (by rw [hn]; decide) (by rw [hn]; decide) (by rw [hn]; rfl) rfl (lw_case_20 X hL hk hl hc hs hB hS hI)
    | 21, hn, _ => exact lv_tableIn (off := 760) (tgt := 800) hx hb dl_40 (by rw [hn]; decide) (by rw [hn]; decide) (by rw [hn]; rfl) rfl (lw_case_21 X hL hk hl hc hs hB hS hI)
    | 22, hn, _ => exact lv_tableIn (off := 773) (tgt := 813) hx hb dl_40 (by rw [hn]; decide) (by rw [hn]; decide) (by rw [hn]; rfl) rfl (lw_case_22 X hL hk hl hc hs hB hS hI)
    | 23, hn, _ => exact lv_tableIn (off := 786) (tgt := 826) hx hb dl_40 (by rw [hn]; decide) (by rw [hn]; decide) (by rw [hn]; rfl) rfl (lw_case_23 X hL hk hl hc hs hB hS hI)
    | 24, hn, _ => exact lv_tableIn (off := 799) (tgt := 839) hx hb dl_40 (by rw [hn]; decide) (by rw [hn]; decide) (by rw [hn]; rfl) rfl (lw_case_24 X hL hk hl hc hs hB hS hI)
    | 25, hn, _ => exact lv_tableIn (off := 836) (tgt := 876) hx hb dl_40 (by rw [hn]; decide) (by rw [hn]; decide) (by rw [hn]; rfl) rfl (lw_case_25 X hL hk hl hc hs hB hS hI)
    | 26, hn, _ => exact lv_tableIn (off := 861) (tgt := 901) hx hb dl_40 (by rw [hn]; decide) (by rw [hn]; decide) (by rw [hn]; rfl) rfl (lw_case_26 X hL hk hl hc hs hB hS hI)
    | 27, hn, _ => exact lv_tableIn (off := 886) (tgt := 926) hx hb dl_40 (by rw [hn]; decide) (by rw [hn]; decide) (by rw [hn]; rfl) rfl (lw_case_27 X hL hk hl hc hs hB hS hI)
    | 28, hn, _ => exact lv_tableIn (off := 911) (tgt := 951) hx hb dl_40 (by rw [hn]; decide) (by rw [hn]; decide) (by rw [hn]; rfl) rfl (lw_case_28 X hL hk hl hc hs hB hS hI)
    | 29, hn, _ => exact lv_tableIn (off := 924) (tgt := 964) hx hb dl_40 (by rw [hn]; decide) (by rw [hn]; decide) (by rw [hn]; rfl) rfl (lw_case_29 X hL hk hl hc hs hB hS hI)
    | 30, hn, _ => exact lv_tableIn (off := 937) (tgt := 977) hx hb dl_40 (by rw [hn]; decide) (by rw [hn]; decide) (by rw [hn]; rfl) rfl (lw_case_30 X hL hk hl hc hs hB hS hI)
    | 31, hn, _ => exact lv_tableIn (off := 962) (tgt := 1002) hx hb dl_40 (by rw [hn]; decide) (by rw [hn]; decide) (by rw [hn]; rfl) rfl (lw_case_31 X hL hk hl hc hs hB hS hI)
    | 32, hn, _ => exact lv_tableIn (off := 987) (tgt := 1027) hx hb dl_40 (by rw [hn]; decide) (by rw [hn]; decide) (by rw [hn]; rfl) rfl (lw_case_32 X hL hk hl hc hs hB hS hI)
    | 33, hn, _ => exact lv_tableIn (off := 1024) (tgt := 1064) hx hb dl_40 (by rw [hn]; decide) (by rw [hn]; decide) (by rw [hn]; rfl) rfl (lw_case_33 X hL hk hl hc hs hB hS hI)
    | 34, hn, _ => exact lv_tableIn (off := 1073) (tgt := 1113) hx hb dl_40 (by rw [hn]; decide) (by rw [hn]; decide) (by rw [hn]; rfl) rfl (lw_case_34 X hL hk hl hc hs hB hS hI)
    | 35, hn, _ => exact lv_tableIn (off := 1098) (tgt := 1138) hx hb dl_40 (by rw [hn]; decide) (by rw [hn]; decide) (by rw [hn]; rfl) rfl (lw_case_35 X hL hk hl hc hs hB hS hI)
    | 36, hn, _ => exact lv_tableIn (off := 1123) (tgt := 1163) hx hb dl_40 (by rw [hn]; decide) (by rw [hn]; decide) (by rw [hn]; rfl) rfl (lw_case_36 X hL hk hl hc hs hB hS hI)
    | 37, hn, _ => exact lv_tableIn (off := 1136) (tgt := 1176) hx hb dl_40 (by rw [hn]; decide) (by rw [hn]; decide) (by rw [hn]; rfl) rfl (lw_case_37 X hL hk hl hc hs hB hS hI)
    | 38, hn, _ => exact lv_tableIn (off := 1161) (tgt := 1201) hx hb dl_40 (by rw [hn]; decide) (by rw [hn]; decide) (by rw [hn]; rfl) rfl (lw_case_38 X hL hk hl hc hs hB hS hI)
    | 39, hn, _ => exact lv_tableIn (off := 1186) (tgt := 1226) hx hb dl_40 (by rw [hn]; decide) (by rw [hn]; decide) (by rw [hn]; rfl) rfl (lw_case_39 X hL hk hl hc hs hB hS hI)
    | 40, hn, _ => exact lv_tableIn (off := 1211) (tgt := 1251) hx hb dl_40 (by rw [hn]; decide) (by rw [hn]; decide) (by rw [hn]; rfl) rfl (lw_case_40 X hL hk hl hc hs hB hS hI)
    | n + 41, _, h9 => exact absurd h9 (by omega)
  · exact lv_tableOut (tgt := 1276) hx hb dl_40 (by omega) rfl (W.widen (Nat.le_succ _) (Nat.le_add_right _ 6) (hB H locs h f ls hS hI hl))
theorem lw_loop (X : lw_X p l s m meth c b L xs g D cy sa sb out) (hL : L ≤ 3072) : ∀ (n k : Nat), L < 6 * (k + n) → 6 * k ≤ L → ∀ (H : Heap) (locs : List Loc) (h : mm_H) (f : Nat → Int64) (ls : Array Slot), lw_S s g D cy out H locs h f → Inv h → lw_L b g out k ls → W p l e room_1 s m #[Value.ref b] below meth c H locs (154 + k) (6344 + 6 * k) (lw_Z below #[Value.ref b] s) (F0 m 23 ls []) := by
  intro n
  induction n with
  | zero => intro k h1 h2; omega
  | succ n ih =>
    intro k h1 h2 H locs h f ls hS hI hl
    obtain ⟨hx, hb, hr, hml, hown, hts0, hX, hbl, hlk, hgv⟩ := id X.1
    refine lv_iload hx hb dl_23 (lv_at hl 0 rfl) ?_
    refine lv_aload_n hx hb dl_25 rfl (lv_at hl 4 rfl) ?_
    refine va_slen hx hb hX hbl (Nat.not_le.mpr hbl) hS.2.2 dl_26 ?_
    refine lv_bipush (v := 6) hx hb dl_27 (by decide) ?_
    refine lv_isub hx hb dl_29 ?_
    have e1 : (Int32.ofNat (6 * k)).toInt = ((6 * k : Nat) : Int) := Int32.toInt_ofNat_of_lt (by omega)
    have e2 : (Int32.ofNat L - 6).toInt = (L : Int) - 6 := by
      rw [show Int32.ofNat L - 6 = Int32.ofInt ((L : Int) - 6) by rw [Int32.ofInt_sub, ← lw_of]; rfl]
      exact mm_toI ⟨by omega, by omega⟩
    refine lv_icmp_gt (tgt := 1282) hx hb dl_30 rfl (fun q => ?_) (fun q => ?_)
    · refine lv_iconst (v := 1) hx hb dl_1282 rfl ?_
      refine va_forget hS.2.2.2.2 ?_
      refine W.widen (k := 601024) (n := 7293034) (by omega) (by omega) ?_
      exact lw_ret hx hb hr hlk dl_1283
    · rw [Int32.lt_iff_toInt_lt, e1, e2] at q
      have hk : 6 * k + 6 ≤ L := by omega
      refine lv_aload_n hx hb dl_33 rfl (lv_at hl 4 rfl) ?_
      refine lv_iload hx hb dl_34 (lv_at hl 0 rfl) ?_
      have e3 : (Int32.ofNat (6 * k)).toNatClampNeg = 6 * k := Int32.toNatClampNeg_ofNat_of_lt (by omega)
      refine va_sld hx hb hX hbl (Nat.not_le.mpr hbl) hS.2.2 ?_ dl_36 ?_
      · rintro (w | w)
        · rw [Int32.lt_iff_toInt_lt, e1] at w
          have w : ((6 * k : Nat) : Int) < 0 := w
          omega
        · rw [e3] at w
          omega
      refine lv_bipush (v := 63) hx hb dl_37 (by decide) ?_
      refine lv_iand hx hb dl_39 ?_
      refine lw_switch X hL hk hl (by omega) (by omega) (fun H locs h f ls hS hI hl => ?_) hS hI
      refine lv_iinc (lv' := [(4, .int (Int32.ofNat (6 * (k + 1)))), (3, .ref out), (2, .ref (g 0 133)), (1, .ref (g 0 0)), (0, .ref b)]) hx hb dl_1276 hl (k := 0) rfl (v := Int32.ofNat (6 * (k + 1))) ?_ (by decide) rfl (fun ls2 hl2 => ?_)
      · rw [show 6 * (k + 1) = 6 * k + 6 by omega, Int32.ofNat_add]
        rfl
      refine lv_goto (tgt := 23) hx hb dl_1279 rfl ?_
      refine W.widen (k := 154 + (k + 1)) (n := 6344 + 6 * (k + 1)) (by omega) (by omega) ?_
      exact ih (k + 1) (by omega) (by omega) H locs h f ls2 hS hI hl2
end LY
