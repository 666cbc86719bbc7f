/-! One token more, on both sides -/
section
variable {c r : mm_H} {n most p : Int}
/-- the class's fields at a token's beginning -/
theorem cl_tk0 {c2 : mm_H} {p1 : Int} (hB : TB c2 r n most) (h3 : c2 1 3 = p1) (h5 : c2 1 5 = p1) (h6 : c2 1 6 = 0) (h7 : c2 1 7 = 0) (p0 : 0 ≤ p1) (pn : p1 < n) (hA : ¬ AL (r 134 p1)) (d : Nat) : mm_M mm_prog (d + 2) 86 [(18, 1)] c2 = some (0, mm_up (mm_up (mm_up c2 1 7 (r 134 p1)) 1 4 1) 1 3 (p1 + 1)) := by
  have bn := hB.2.2.1
  obtain ⟨b0, b1⟩ := hB.2.2.2.2.2.2 p1 p0 pn
  have w := w8c b0.1 b0.2
  rw [← b1] at w
  unfold AL at hA
  have eg : mm_and (c2 2 p1) 255 = r 134 p1 := by
    rw [b1]
    have := pu_w8a (r 134 p1).toNat (by omega)
    rw [show (((r 134 p1).toNat : Nat) : Int) = r 134 p1 by omega] at this
    exact this
  have fin : some ((0 : Int), mm_up (mm_up (mm_up c2 1 7 (mm_and (c2 2 p1) 255)) 1 4 1) 1 3 (mm_w (((mm_up (mm_up c2 1 7 (mm_and (c2 2 p1) 255)) 1 4 1) 1 3) + 1))) = some (0, mm_up (mm_up (mm_up c2 1 7 (r 134 p1)) 1 4 1) 1 3 (p1 + 1)) := by
    rw [eg, pu_sl (show (3 : Int) ≠ 4 by decide), pu_sl (show (3 : Int) ≠ 7 by decide), h3, pu_w (by omega) (by omega)]
  rw [e_X8_readToken, e_X8_readToken_4, h3, hB.1, if_pos pn, if_pos (by omega), show (1 : Int) + 1 = 2 from rfl]
  by_cases z1 : c2 2 p1 < 97
  · rw [if_pos z1]
    by_cases z2 : c2 2 p1 < 48
    · rw [if_pos z2, if_pos rfl, if_pos rfl, if_pos pn, if_pos (by omega), fin]
    · rw [if_neg z2, if_pos (by omega), if_pos rfl, if_pos rfl, if_pos pn, if_pos (by omega), fin]
  · rw [if_neg z1, if_pos (by omega), if_neg (by omega), if_pos (by omega), if_pos rfl, if_pos rfl, if_pos pn, if_pos (by omega), fin]
theorem cl_tk1 {c2 : mm_H} {p1 q : Int} (hB : TB c2 r n most) (h3 : c2 1 3 = p1) (h5 : c2 1 5 = p1) (h6 : c2 1 6 = 0) (h7 : c2 1 7 = 0) (p0 : 0 ≤ p1) (pq : p1 < q) (qn : q ≤ n) (hA : ∀ j, p1 ≤ j → j < q → AL (r 134 j)) (hq : q < n → ¬ AL (r 134 q)) (d : Nat) : ∃ c3, tkF c2 c3 ∧ c3 1 3 = q ∧
    ((∀ j, p1 ≤ j → j < q → 97 ≤ r 134 j ∧ r 134 j ≤ 122) → q - p1 ≤ 7 → mm_M mm_prog (d + 3) 86 [(18, 1)] c2 = some (0, mm_up c3 1 4 2) ∧ c3 1 7 = f_enc 256 0 (chs (r 134) p1 (q - p1).toNat)) ∧
    ((∀ j, p1 ≤ j → j < q → 48 ≤ r 134 j ∧ r 134 j ≤ 57) → q - p1 ≤ 3 → mm_M mm_prog (d + 3) 86 [(18, 1)] c2 = some (0, mm_up (mm_up c3 1 7 0) 1 4 3) ∧ c3 1 6 = f_enc 10 48 (chs (r 134) p1 (q - p1).toNat)) ∧
    (¬ ((∀ j, p1 ≤ j → j < q → 97 ≤ r 134 j ∧ r 134 j ≤ 122) ∧ q - p1 ≤ 7) → ¬ ((∀ j, p1 ≤ j → j < q → 48 ≤ r 134 j ∧ r 134 j ≤ 57) ∧ q - p1 ≤ 3) → mm_M mm_prog (d + 3) 86 [(18, 1)] c2 = some (0, mm_up (mm_up c3 1 7 0) 1 4 1)) := by
  have bn := hB.2.2.1
  have zz : (p1 - p1).toNat = 0 := by omega
  obtain ⟨a, b, u, c3, e, ⟨a0, b0, ab, ha, hb, ga, gb⟩, hJ, f3, k3⟩ := cl_cnt p0 qn (d + 2) (q - p1).toNat p1 0 0 (9, 0) c2 r hB hA h3 (Int.le_refl _) (by omega) ⟨by decide, by decide, by omega, fun _ j j0 j1 => by omega, fun _ j j0 j1 => by omega, fun _ => rfl, fun _ => rfl⟩ ⟨fun _ _ => by rw [h7, zz]; rfl, fun _ _ => by rw [h6, zz]; rfl⟩
  have T := cl_tend (u := u) (hB.tkF f3) (by omega) k3 hq a0 b0 (by omega) (d + 2)
  rw [e_X8_readToken, e, T]
  refine ⟨c3, f3, k3, fun hl l7 => ?_, fun hl l3 => ?_, fun n1 n2 => ?_⟩
  · have bz : b = 0 := gb hl
    exact ⟨by rw [if_pos ⟨bz, by omega⟩], hJ.1 bz l7⟩
  · have az : a = 0 := ga hl
    exact ⟨by rw [if_neg (by omega), if_pos ⟨az, by omega⟩], hJ.2 az l3⟩
  · rw [if_neg (fun z => n1 ⟨hb z.1, by omega⟩), if_neg (fun z => n2 ⟨ha z.1, by omega⟩)]
/-- the reference's token from p1 on -/
theorem rf_tk0 {r2 : mm_H} {p1 : Int} (hB : TB c r2 n most) (h5 : r2 133 5 = p1) (p0 : 0 ≤ p1) (pn : p1 < n) (hA : ¬ AL (r2 134 p1)) (d : Nat) : mm_R mm_prog (d + 1) T_X12_go 96 goL [] r2 = some (0, mm_up (mm_up (mm_up r2 133 7 (if r2 134 p1 = 59 ∨ r2 134 p1 = 60 ∨ r2 134 p1 = 61 ∨ r2 134 p1 = 62 ∨ r2 134 p1 = 40 ∨ r2 134 p1 = 41 then 4 else 1)) 133 9 (r2 134 p1)) 133 5 (p1 + 1)) := by
  have bn := hB.2.2.1
  obtain ⟨z1, z2⟩ := AL_n hA
  rw [e_X12_go_96, h5, hB.2.2.2.2.1, if_pos pn, if_pos (by omega), show (133 : Int) + 1 = 134 from rfl, rf_isLetter, Option.bind_some]
  dsimp only
  rw [z1]
  show (if (0 : Int) = 0 then _ else _) = _
  rw [if_pos rfl, rf_isDigit, Option.bind_some]
  dsimp only
  rw [z2]
  show (if (0 : Int) = 0 then _ else _) = _
  rw [if_pos rfl]
  simp only [e_X12_go_174, e_X12_go_179]
  rw [pu_sl (show (5 : Int) ≠ 9 by decide), pu_sl (show (5 : Int) ≠ 7 by decide), pu_sl (show (5 : Int) ≠ 9 by decide), pu_sl (show (5 : Int) ≠ 7 by decide), h5, pu_w (by omega) (by omega)]
  (repeat' split) <;> first | rfl | (exfalso; omega)
theorem rf_tk1 {r2 : mm_H} {p1 q : Int} (hB : TB c r2 n most) (h5 : r2 133 5 = p1) (h6 : r2 133 6 = p1) (p0 : 0 ≤ p1) (pq : p1 < q) (qn : q ≤ n) (hA : ∀ j, p1 ≤ j → j < q → AL (r2 134 j)) (hq : q < n → ¬ AL (r2 134 q)) (d : Nat) : ∃ r', mm_R mm_prog (d + 1) T_X12_go 96 goL [] r2 = some (0, r') ∧ goF r2 r' ∧ r' 133 5 = q ∧ r' 133 6 = p1 ∧
    ((∀ j, p1 ≤ j → j < q → 97 ≤ r2 134 j ∧ r2 134 j ≤ 122) → q - p1 ≤ 7 → r' 133 7 = 2 ∧ r' 133 12 = f_enc 27 96 (chs (r2 134) p1 (q - p1).toNat)) ∧
    ((∀ j, p1 ≤ j → j < q → 48 ≤ r2 134 j ∧ r2 134 j ≤ 57) → q - p1 ≤ 3 → r' 133 7 = 3 ∧ r' 133 8 = f_enc 10 48 (chs (r2 134) p1 (q - p1).toNat)) ∧
    (¬ ((∀ j, p1 ≤ j → j < q → 97 ≤ r2 134 j ∧ r2 134 j ≤ 122) ∧ q - p1 ≤ 7) → ¬ ((∀ j, p1 ≤ j → j < q → 48 ≤ r2 134 j ∧ r2 134 j ≤ 57) ∧ q - p1 ≤ 3) → r' 133 7 = 1) := by
  have bn := hB.2.2.1
  obtain ⟨fl, hf⟩ : ∃ fl, fl = isLb (r2 134 p1) := ⟨_, rfl⟩
  obtain ⟨r3, e3⟩ : ∃ r3, r3 = mm_up (mm_up r2 133 12 0) 133 8 0 := ⟨_, rfl⟩
  have f3 : goF r2 r3 := by rw [e3]; exact ((goF.rf r2).up (by omega)).up (by omega)
  have k5 : r3 133 5 = p1 := by rw [e3, pu_sl (by decide), pu_sl (by decide), h5]
  have k6 : r3 133 6 = p1 := by rw [e3, pu_sl (by decide), pu_sl (by decide), h6]
  have zz : (p1 - p1).toNat = 0 := by omega
  have I0 : goI r3 p1 p1 fl 1 := ⟨Or.inl ⟨rfl, fun j j0 j1 => by omega⟩, fun _ _ _ => by rw [e3, pu_sl (by decide), pu_eq, zz]; rfl, fun _ _ _ => by rw [e3, pu_eq, zz]; rfl⟩
  have row : r3 134 = r2 134 := f3.row (by decide)
  have s215 : mm_R mm_prog (d + 1) T_X12_go 96 goL [] r2 = mm_R mm_prog (d + 1) T_X12_go 215 [(21, 133), (0, r2 134 p1), (0, sp_b fl), (0, 1), (9, 0)] [] r3 := by
    have s198 : mm_R mm_prog (d + 1) T_X12_go 198 [(21, 133), (0, r2 134 p1), (9, 0), (9, 0), (9, 0)] [] r2 = mm_R mm_prog (d + 1) T_X12_go 215 [(21, 133), (0, r2 134 p1), (0, sp_b fl), (0, 1), (9, 0)] [] r3 := by
      rw [e_X12_go_198, rf_isLetter, Option.bind_some]
      dsimp only
      rw [← hf, ← e3]
    rw [e_X12_go_96, h5, hB.2.2.2.2.1, if_pos (by omega), if_pos (by omega), show (133 : Int) + 1 = 134 from rfl, rf_isLetter, Option.bind_some]
    dsimp only
    rcases AL_b (hA p1 (Int.le_refl _) pq) with z | z
    · rw [z.1]
      show (if (1 : Int) = 0 then _ else _) = _
      rw [if_neg (by decide), s198]
    · rw [z.1]
      show (if (0 : Int) = 0 then _ else _) = _
      rw [if_pos rfl, rf_isDigit, Option.bind_some]
      dsimp only
      rw [z.2.1]
      show (if (1 : Int) = 0 then _ else _) = _
      rw [if_neg (by decide), s198]
  obtain ⟨g, u, r4, e4, i4, f4, a4, b4⟩ := rf_goL (x1 := r2 134 p1) (fl := fl) p0 qn d (q - p1).toNat p1 1 (9, 0) r3 (hB.goF f3) (by rw [row]; exact hA) k5 k6 (Int.le_refl _) (by omega) I0
  have row4 : r4 134 = r2 134 := (f4.row (by decide)).trans row
  have hB4 : TB c r4 n most := (hB.goF f3).goF f4
  -- the loop's end
  obtain ⟨K, hK⟩ : ∃ K : Int, K = if g = 0 then 1 else if fl = true then (if 7 < q - p1 then 1 else 2) else (if 3 < q - p1 then 1 else 3) := ⟨_, rfl⟩
  have fin : mm_R mm_prog (d + 1) T_X12_go 215 [(21, 133), (0, r2 134 p1), (0, sp_b fl), (0, g), u] [] r4 = some (0, mm_up r4 133 7 K) := by
    have t1 : isLb (if q < n then r4 134 q else 0) = false ∧ isDb (if q < n then r4 134 q else 0) = false := by
      by_cases z : q < n
      · rw [if_pos z, row4]; exact AL_n (hq z)
      · rw [if_neg z]; exact ⟨by decide, by decide⟩
    rw [e_X12_go_215, a4, rf_tapeAt hB4 (by omega), Option.bind_some]
    dsimp only
    rw [rf_isLetter, Option.bind_some, t1.1]
    show (if (0 : Int) = 0 then _ else _) = _
    rw [if_pos rfl]
    dsimp only
    rw [a4, rf_tapeAt hB4 (by omega), Option.bind_some]
    dsimp only
    rw [rf_isDigit, Option.bind_some, t1.2]
    show (if (0 : Int) = 0 then _ else _) = _
    rw [if_pos rfl]
    dsimp only
    rw [a4, b4, pu_w (x := q - p1) (by omega) (by omega), hK]
    by_cases z : g = 0
    · rw [if_pos z, if_pos z, e_X12_go_377, e_X12_go_390]
    · rw [if_neg z, if_neg z]
      cases fl with
      | true =>
        show (if (1 : Int) = 0 then _ else _) = _
        rw [if_neg (by decide), if_pos rfl, e_X12_go_374]
        by_cases y : 7 < q - p1
        · rw [if_pos y, if_pos y, e_X12_go_377, e_X12_go_390]
        · rw [if_neg y, if_neg y]
          show (if (1 : Int) = 0 then _ else _) = _
          rw [if_neg (by decide), e_X12_go_390]
      | false =>
        show (if (0 : Int) = 0 then _ else _) = _
        rw [if_pos rfl, if_neg (by decide), e_X12_go_374]
        by_cases y : 3 < q - p1
        · rw [if_pos y, if_pos y, e_X12_go_377, e_X12_go_390]
        · rw [if_neg y, if_neg y]
          show (if (0 : Int) = 0 then _ else _) = _
          rw [if_pos rfl, e_X12_go_390]
  have goodL : (∀ j, p1 ≤ j → j < q → 97 ≤ r2 134 j ∧ r2 134 j ≤ 122) → fl = true ∧ g = 1 := fun hl => by
    have a : fl = true := by rw [hf]; exact decide_eq_true (hl p1 (Int.le_refl _) pq)
    refine ⟨a, ?_⟩
    rcases i4.1 with w | w
    · exact w.1
    · exact absurd (fun j j0 j1 => by rw [row4, a]; exact decide_eq_true (hl j j0 j1)) w.2
  have goodD : (∀ j, p1 ≤ j → j < q → 48 ≤ r2 134 j ∧ r2 134 j ≤ 57) → fl = false ∧ g = 1 := fun hl => by
    have fj : ∀ j, p1 ≤ j → j < q → isLb (r2 134 j) = false := fun j j0 j1 => decide_eq_false (by have := hl j j0 j1; omega)
    have a : fl = false := by rw [hf]; exact fj p1 (Int.le_refl _) pq
    refine ⟨a, ?_⟩
    rcases i4.1 with w | w
    · exact w.1
    · exact absurd (fun j j0 j1 => by rw [row4, a]; exact fj j j0 j1) w.2
  refine ⟨mm_up r4 133 7 K, by rw [s215, e4, fin], (f3.tr f4).up (by omega), by rw [pu_sl (by decide), a4], by rw [pu_sl (by decide), b4], fun hl l7 => ?_, fun hl l3 => ?_, fun n1 n2 => ?_⟩
  · obtain ⟨x1, x2⟩ := goodL hl
    rw [pu_eq, pu_sl (by decide), hK, if_neg (by omega), if_pos x1, if_neg (by omega), i4.2.1 x2 x1 (by omega), row4]
    exact ⟨rfl, rfl⟩
  · obtain ⟨x1, x2⟩ := goodD hl
    rw [pu_eq, pu_sl (by decide), hK, if_neg (by omega), if_neg (by rw [x1]; decide), if_neg (by omega), i4.2.2 x2 x1 (by omega), row4]
    exact ⟨rfl, rfl⟩
  · rw [pu_eq, hK]
    rcases i4.1 with w | w
    · rw [if_neg (by omega)]
      cases hfl : fl with
      | true =>
        have hl : ∀ j, p1 ≤ j → j < q → 97 ≤ r2 134 j ∧ r2 134 j ≤ 122 := fun j j0 j1 => by
          have := w.2 j j0 j1
          rw [hfl, row4] at this
          exact of_decide_eq_true this
        rw [if_pos rfl]
        by_cases y : 7 < q - p1
        · rw [if_pos y]
        · exact absurd ⟨hl, by omega⟩ n1
      | false =>
        have hl : ∀ j, p1 ≤ j → j < q → 48 ≤ r2 134 j ∧ r2 134 j ≤ 57 := fun j j0 j1 => by
          have a := w.2 j j0 j1
          rw [hfl, row4] at a
          rcases AL_b (hA j j0 j1) with b | b
          · rw [b.1] at a; cases a
          · exact b.2.2
        rw [if_neg (by decide)]
        by_cases y : 3 < q - p1
        · rw [if_pos y]
        · exact absurd ⟨hl, by omega⟩ n2
    · rw [if_pos w.1]
/-- advance, behind the blanks -/
noncomputable def adK (d : Nat) (c2 : mm_H) : Option mm_O := if c2 1 2 < c2 1 1 then (if c2 1 3 < c2 1 2 then (if c2 1 3 < c2 1 1 then ((mm_M mm_prog d 86 [(18, 1)] c2).bind fun o2 => ((mm_M mm_prog d 104 [(1, o2.2 1 7), (2, o2.2 1 4)] o2.2).bind fun o3 => (some (0, mm_up o3.2 1 4 o3.1)))) else (some (0, mm_up c2 1 4 0))) else (some (0, mm_up (mm_up c2 1 4 1) 1 5 ((mm_up c2 1 4 1) 1 2)))) else (if c2 1 3 < c2 1 1 then ((mm_M mm_prog d 86 [(18, 1)] c2).bind fun o2 => ((mm_M mm_prog d 104 [(1, o2.2 1 7), (2, o2.2 1 4)] o2.2).bind fun o3 => (some (0, mm_up o3.2 1 4 o3.1)))) else (some (0, mm_up c2 1 4 0)))
theorem e_adv (d : Nat) (c : mm_H) : mm_M mm_prog (d + 1) 84 [(18, 1)] c = (mm_M mm_prog d 85 [(18, 1)] c).bind fun o1 => adK d (mm_up (mm_up (mm_up o1.2 1 5 (o1.2 1 3)) 1 6 0) 1 7 0) := e_X8_advance d c 1
theorem tk_adv (hB : TB c r n most) (h3 : c 1 3 = p) (h5 : r 133 5 = p) (p0 : 0 ≤ p) (pn : p ≤ n) (d d' : Nat) : ∃ c' r' p' t, mm_M mm_prog (d + 4) 84 [(18, 1)] c = some (0, c') ∧ mm_M mm_prog (d' + 4) 168 [(21, 133)] r = some (0, r') ∧ TK c' r' n most p' t ∧ p + gd t ≤ p' ∧ adF c c' ∧ goF r r' := by
  have bn := hB.2.2.1
  have bm := hB.2.2.2.1
  obtain ⟨p1, q0, q1, q2, q3⟩ := tk_skip (d + 2) (d' + 3) (n - p).toNat p c r hB h3 h5 p0 (by omega)
  obtain ⟨c2, e2⟩ : ∃ c2, c2 = mm_up (mm_up (mm_up (mm_up c 1 3 p1) 1 5 p1) 1 6 0) 1 7 0 := ⟨_, rfl⟩
  obtain ⟨r2, u2⟩ : ∃ r2, r2 = mm_up (mm_up r 133 5 p1) 133 6 p1 := ⟨_, rfl⟩
  have fc : adF c c2 := by rw [e2]; exact ((((adF.rf c).up (by omega)).up (by omega)).up (by omega)).up (by omega)
  have fr2 : goF r r2 := by rw [u2]; exact ((goF.rf r).up (by omega)).up (by omega)
  have hB2 : TB c2 r2 n most := (hB.adF fc).goF fr2
  have k3 : c2 1 3 = p1 := by rw [e2, pu_sl (by decide), pu_sl (by decide), pu_sl (by decide), pu_eq]
  have k5 : c2 1 5 = p1 := by rw [e2, pu_sl (by decide), pu_sl (by decide), pu_eq]
  have k6 : c2 1 6 = 0 := by rw [e2, pu_sl (by decide), pu_eq]
  have k7 : c2 1 7 = 0 := by rw [e2, pu_eq]
  have m5 : r2 133 5 = p1 := by rw [u2, pu_sl (by decide), pu_eq]
  have m6 : r2 133 6 = p1 := by rw [u2, pu_eq]
  have C : mm_M mm_prog (d + 4) 84 [(18, 1)] c = if most < n then (if p1 < most then (if p1 < n then ((mm_M mm_prog (d + 3) 86 [(18, 1)] c2).bind fun o2 => ((mm_M mm_prog (d + 3) 104 [(1, o2.2 1 7), (2, o2.2 1 4)] o2.2).bind fun o3 => (some (0, mm_up o3.2 1 4 o3.1)))) else (some (0, mm_up c2 1 4 0))) else (some (0, mm_up (mm_up c2 1 4 1) 1 5 most))) else (if p1 < n then ((mm_M mm_prog (d + 3) 86 [(18, 1)] c2).bind fun o2 => ((mm_M mm_prog (d + 3) 104 [(1, o2.2 1 7), (2, o2.2 1 4)] o2.2).bind fun o3 => (some (0, mm_up o3.2 1 4 o3.1)))) else (some (0, mm_up c2 1 4 0))) := by
    have s85 : mm_M mm_prog (d + 3) 85 [(18, 1)] c = some (0, mm_up c 1 3 p1) := by
      rw [e_X8_skipBlanks, ← e_X8_skipBlanks_0, q2]
    rw [e_adv, s85, Option.bind_some]
    dsimp only
    rw [pu_eq c 1 3 p1, ← e2]
    unfold adK
    rw [hB2.2.1, hB2.1, k3, pu_sl (show (2 : Int) ≠ 4 by decide), hB2.2.1]
  have R : mm_M mm_prog (d' + 4) 168 [(21, 133)] r = if most < n then (if p1 < most then mm_R mm_prog (d' + 3) T_X12_go 96 goL [] r2 else some (0, mm_up (mm_up r2 133 6 most) 133 7 1)) else mm_R mm_prog (d' + 3) T_X12_go 96 goL [] r2 := by
    rw [e_X12_go, ← e_X12_go_0, q3, e_X12_go_52, pu_eq r 133 5 p1, ← u2, hB2.2.2.2.2.2.1, hB2.2.2.2.2.1, m6]
  by_cases over : most < n ∧ most ≤ p1
  · refine ⟨mm_up (mm_up c2 1 4 1) 1 5 most, mm_up (mm_up r2 133 6 most) 133 7 1, p1, 1, by rw [C, if_pos over.1, if_neg (by omega)], by rw [R, if_pos over.1, if_neg (by omega)], ⟨(((hB2.upc (by decide)).upc (by decide)).upr (by decide)).upr (by decide), ⟨by rw [pu_sl (by decide), pu_sl (by decide), k3], by rw [pu_sl (by decide), pu_sl (by decide), m5]⟩, by omega, by rw [pu_sl (by decide), pu_eq], by rw [pu_eq, pu_sl (by decide), pu_eq], by rw [pu_sl (by decide), pu_eq]; omega, Or.inr (Or.inl ⟨rfl, pu_eq _ _ _ _⟩)⟩, by show p + 0 ≤ p1; omega, (fc.up (by omega)).up (by omega), (fr2.up (by omega)).up (by omega)⟩
  have C2 : mm_M mm_prog (d + 4) 84 [(18, 1)] c = if p1 < n then ((mm_M mm_prog (d + 3) 86 [(18, 1)] c2).bind fun o2 => ((mm_M mm_prog (d + 3) 104 [(1, o2.2 1 7), (2, o2.2 1 4)] o2.2).bind fun o3 => (some (0, mm_up o3.2 1 4 o3.1)))) else (some (0, mm_up c2 1 4 0)) := by
    rw [C]
    by_cases z : most < n
    · rw [if_pos z, if_pos (by omega)]
    · rw [if_neg z]
  have R2 : mm_M mm_prog (d' + 4) 168 [(21, 133)] r = mm_R mm_prog (d' + 3) T_X12_go 96 goL [] r2 := by
    rw [R]
    by_cases z : most < n
    · rw [if_pos z, if_pos (by omega)]
    · rw [if_neg z]
  by_cases fin : p1 < n
  · rw [if_pos fin] at C2
    simp only [cl_find] at C2
    by_cases al : AL (r2 134 p1)
    · obtain ⟨q, a1, a2, a3, a4⟩ := al_run (r2 134) n (n - p1).toNat p1 (by omega)
      have pq : p1 < q := by
        by_cases z : q = p1
        · rw [z] at a4
          exact absurd al (a4 fin)
        · omega
      obtain ⟨c3, f3, j3, L1, L2, L3⟩ := cl_tk1 hB2 k3 k5 k6 k7 (by omega) pq a2 a3 a4 d
      have hB3 : TB c3 r2 n most := hB2.tkF f3
      have fc3 : adF c c3 := fc.tr (fun o k z => f3 o k (fun w => z ⟨w.1, by omega, by omega⟩))
      have j5 : c3 1 5 = p1 := (f3 _ _ (by omega)).trans k5
      obtain ⟨r', g1, g2, g3, g4, G1, G2, G3⟩ := rf_tk1 hB2 m5 m6 (by omega) pq a2 a3 a4 (d' + 2)
      have bq : 0 ≤ q ∧ q ≤ n := by omega
      by_cases l1 : (∀ j, p1 ≤ j → j < q → 97 ≤ r2 134 j ∧ r2 134 j ≤ 122) ∧ q - p1 ≤ 7
      · obtain ⟨x1, x2⟩ := G1 l1.1 l1.2
        obtain ⟨L, hL⟩ : ∃ L, L = chs (r2 134) p1 (q - p1).toNat := ⟨_, rfl⟩
        have lL : ltr L := ⟨by rw [hL]; intro z; have := congrArg List.length z; rw [chs_len] at this; simp at this; omega, by rw [hL, chs_len]; omega, by rw [hL]; exact chs_l l1.1 (by omega)⟩
        rw [← hL] at x2
        obtain ⟨y1, y2⟩ := L1 l1.1 l1.2
        rw [← hL] at y2
        rw [y1, Option.bind_some] at C2
        dsimp only [Option.bind_some] at C2
        rw [pu_sl (show (7 : Int) ≠ 4 by decide), pu_eq c3 1 4 2, y2] at C2
        refine ⟨_, r', q, f_fnd (f_enc 256 0 L) 2, C2, by rw [R2, g1], ⟨(((hB3.upc (by decide)).upc (by decide)).goF g2), ⟨by rw [pu_sl (by decide), pu_sl (by decide), j3], g3⟩, bq, pu_eq _ _ _ _, by rw [pu_sl (by decide), pu_sl (by decide), j5, g4], by rw [g4]; omega, ?_⟩, ?_, (fc3.up (by omega)).up (by omega), fr2.tr g2⟩
        · rcases fnd_l lL with w | w
          · exact Or.inr (Or.inr (Or.inl ⟨w.1, x1, L, lL, by rw [pu_sl (by decide), pu_sl (by decide), y2], x2, w.2⟩))
          · refine Or.inr (Or.inr (Or.inr (Or.inr (Or.inr ⟨w.1, x1, ?_⟩))))
            rw [x2, ← w.2]
        · unfold gd
          split <;> omega
      · by_cases l2 : (∀ j, p1 ≤ j → j < q → 48 ≤ r2 134 j ∧ r2 134 j ≤ 57) ∧ q - p1 ≤ 3
        · obtain ⟨x1, x2⟩ := G2 l2.1 l2.2
          have bd := dec_bd l2.1 (q - p1).toNat (by omega) (by omega)
          have pw := p10 (q - p1).toNat (by omega)
          obtain ⟨y1, y2⟩ := L2 l2.1 l2.2
          rw [y1, Option.bind_some] at C2
          dsimp only [Option.bind_some] at C2
          rw [pu_sl (show (7 : Int) ≠ 4 by decide), pu_eq c3 1 7 0, pu_eq (mm_up c3 1 7 0) 1 4 3, fnd_0.1] at C2
          refine ⟨_, r', q, 3, C2, by rw [R2, g1], ⟨((((hB3.upc (by decide)).upc (by decide)).upc (by decide)).goF g2), ⟨by rw [pu_sl (by decide), pu_sl (by decide), pu_sl (by decide), j3], g3⟩, bq, pu_eq _ _ _ _, by rw [pu_sl (by decide), pu_sl (by decide), pu_sl (by decide), j5, g4], by rw [g4]; omega, Or.inr (Or.inr (Or.inr (Or.inl ⟨rfl, x1, by rw [pu_sl (by decide), pu_sl (by decide), pu_sl (by decide), y2, x2], by omega, by omega⟩)))⟩, by show p + 1 ≤ q; omega, ((fc3.up (by omega)).up (by omega)).up (by omega), fr2.tr g2⟩
        · rw [L3 l1 l2, Option.bind_some] at C2
          dsimp only [Option.bind_some] at C2
          rw [pu_sl (show (7 : Int) ≠ 4 by decide), pu_eq c3 1 7 0, pu_eq (mm_up c3 1 7 0) 1 4 1, fnd_0.2] at C2
          refine ⟨_, r', q, 1, C2, by rw [R2, g1], ⟨((((hB3.upc (by decide)).upc (by decide)).upc (by decide)).goF g2), ⟨by rw [pu_sl (by decide), pu_sl (by decide), pu_sl (by decide), j3], g3⟩, bq, pu_eq _ _ _ _, by rw [pu_sl (by decide), pu_sl (by decide), pu_sl (by decide), j5, g4], by rw [g4]; omega, Or.inr (Or.inl ⟨rfl, G3 l1 l2⟩)⟩, by show p + 0 ≤ q; omega, ((fc3.up (by omega)).up (by omega)).up (by omega), fr2.tr g2⟩
    · have b0 := (hB2.2.2.2.2.2.2 p1 (by omega) fin).1
      have fs := fnd_s (r2 134 p1).toNat (by omega)
      rw [show (((r2 134 p1).toNat : Nat) : Int) = r2 134 p1 by omega] at fs
      rw [cl_tk0 hB2 k3 k5 k6 k7 (by omega) fin al, Option.bind_some] at C2
      dsimp only [Option.bind_some] at C2
      rw [pu_sl (by decide), pu_sl (by decide), pu_eq, pu_sl (by decide), pu_eq] at C2
      refine ⟨_, _, p1 + 1, f_fnd (r2 134 p1) 1, C2, by rw [R2]; exact rf_tk0 hB2 m5 (by omega) fin al (d' + 2), ⟨(((((((hB2.upc (by decide)).upc (by decide)).upc (by decide)).upc (by decide)).upr (by decide)).upr (by decide)).upr (by decide)), ⟨by rw [pu_sl (by decide), pu_eq], pu_eq _ _ _ _⟩, by omega, pu_eq _ _ _ _, by rw [pu_sl (by decide), pu_sl (by decide), pu_sl (by decide), pu_sl (by decide), k5, pu_sl (by decide), pu_sl (by decide), pu_sl (by decide), m6], by rw [pu_sl (by decide), pu_sl (by decide), pu_sl (by decide), m6]; omega, ?_⟩, ?_, (((fc.up (by omega)).up (by omega)).up (by omega)).up (by omega), ((fr2.up (by omega)).up (by omega)).up (by omega)⟩
      · rw [fs]
        unfold rk sgc
        rw [pu_sl (show (7 : Int) ≠ 5 by decide), pu_sl (show (7 : Int) ≠ 9 by decide), pu_eq, pu_sl (show (9 : Int) ≠ 5 by decide), pu_eq]
        by_cases s1 : r2 134 p1 = 59
        · rw [if_pos (by omega), if_pos (by omega), s1]; exact Or.inr (Or.inr (Or.inr (Or.inr (Or.inl ⟨by decide, rfl, by decide⟩))))
        by_cases s2 : r2 134 p1 = 60
        · rw [if_neg (by omega), if_pos (by omega), if_pos (by omega), s2]; exact Or.inr (Or.inr (Or.inr (Or.inr (Or.inl ⟨by decide, rfl, by decide⟩))))
        by_cases s3 : r2 134 p1 = 61
        · rw [if_neg (by omega), if_neg (by omega), if_pos (by omega), if_pos (by omega), s3]; exact Or.inr (Or.inr (Or.inr (Or.inr (Or.inl ⟨by decide, rfl, by decide⟩))))
        by_cases s4 : r2 134 p1 = 62
        · rw [if_neg (by omega), if_neg (by omega), if_neg (by omega), if_pos (by omega), if_pos (by omega), s4]; exact Or.inr (Or.inr (Or.inr (Or.inr (Or.inl ⟨by decide, rfl, by decide⟩))))
        by_cases s5 : r2 134 p1 = 40
        · rw [if_neg (by omega), if_neg (by omega), if_neg (by omega), if_neg (by omega), if_pos (by omega), if_pos (by omega), s5]; exact Or.inr (Or.inr (Or.inr (Or.inr (Or.inl ⟨by decide, rfl, by decide⟩))))
        by_cases s6 : r2 134 p1 = 41
        · rw [if_neg (by omega), if_neg (by omega), if_neg (by omega), if_neg (by omega), if_neg (by omega), if_pos (by omega), if_pos (by omega), s6]; exact Or.inr (Or.inr (Or.inr (Or.inr (Or.inl ⟨by decide, rfl, by decide⟩))))
        rw [if_neg (by omega), if_neg (by omega), if_neg (by omega), if_neg (by omega), if_neg (by omega), if_neg (by omega), if_neg (by omega)]
        exact Or.inr (Or.inl ⟨rfl, rfl⟩)
      · unfold gd
        split <;> omega
  · rw [if_neg fin] at C2
    refine ⟨mm_up c2 1 4 0, mm_up r2 133 7 0, p1, 0, C2, ?_, ⟨(hB2.upc (by decide)).upr (by decide), ⟨by rw [pu_sl (by decide), k3], by rw [pu_sl (by decide), m5]⟩, by omega, pu_eq _ _ _ _, by rw [pu_sl (by decide), pu_sl (by decide), k5, m6], by rw [pu_sl (by decide), m6]; omega, Or.inl ⟨rfl, pu_eq _ _ _ _⟩⟩, by show p + 0 ≤ p1; omega, fc.up (by omega), fr2.up (by omega)⟩
    rw [R2, e_X12_go_96, m5, hB2.2.2.2.2.1, if_neg fin]
end
