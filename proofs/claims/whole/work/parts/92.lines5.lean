/-! 'after'; any LINE; all LINES -/
section
variable {c r : mm_H} {n most p t : Int}
theorem tw_here (h : TF c r n most p t) (hW : TW c r) (d d' : Nat) :
    (∃ x, (0 ≤ x ∧ x < r 136 3) ∧ t = 2 ∧ mm_M mm_prog (d + 4) 58 [(14, 4), (0, 2), (1, c 1 7)] c = some (x, c) ∧ mm_M mm_prog (d' + 5) 191 [(21, 133)] r = some (1, mm_up r 133 13 x)) ∨
    (∃ c' r', mm_M mm_prog (d + 5) 93 [(18, 1), (14, 4), (0, 2)] c = some (-1, c') ∧ mm_M mm_prog (d' + 5) 191 [(21, 133)] r = some (0, r') ∧ FL c' r' ∧ cF c c' ∧ rF r r') := by
  have g := h.1.2.2.2.1
  by_cases t2 : t = 2
  · subst t2
    have hk := tk_nmr h.1
    obtain ⟨y, x0, y1, x2⟩ := tw_find hW (s := 2) (by decide) (by decide) hk (d + 3) (d' + 3)
    have x2' : mm_M mm_prog (d' + 4) 180 [(42, 141), (0, 11), (0, r 136 3), (1, r 133 12)] r = some (y, r) := x2
    by_cases z : y = -1
    · right
      have h' : TF c (mm_up r 133 13 (-1)) n most p 2 := h.oth rfl rfl (fun k _ _ => pu_sl (by omega)) (row_ne (by decide))
      obtain ⟨cf, rf, u1, u2, u3, u4, u5⟩ := tf_fail (k := 3) h' (by decide) (fun w => absurd w (by decide)) (d + 2) (d' + 3)
      refine ⟨cf, rf, ?_, ?_, u3, u4, ((rF.rf r).up (by decide)).tr u5⟩
      · rw [e_X8_takeOneOf, if_pos g, y1, Option.bind_some]
        dsimp only
        rw [if_pos z, u1, Option.bind_some]
      · rw [e_X12_isWorkHere, tk_name h.1, Option.bind_some, decide_eq_true rfl]
        show (if (1 : Int) = 0 then _ else _) = _
        rw [if_neg (by decide)]
        simp only [show (133 : Int) + 8 = 141 from rfl, show (133 : Int) + 3 = 136 from rfl]
        rw [x2', Option.bind_some]
        dsimp only
        rw [if_pos (by rw [pu_eq]; exact z), z, u2, Option.bind_some]
        rfl
    · left
      refine ⟨y, ⟨by omega, by have := x0; simp only [Int.reduceAdd] at this; omega⟩, rfl, y1, ?_⟩
      rw [e_X12_isWorkHere, tk_name h.1, Option.bind_some, decide_eq_true rfl]
      show (if (1 : Int) = 0 then _ else _) = _
      rw [if_neg (by decide)]
      simp only [show (133 : Int) + 8 = 141 from rfl, show (133 : Int) + 3 = 136 from rfl]
      rw [x2', Option.bind_some]
      dsimp only
      rw [if_neg (by rw [pu_eq]; exact z)]
  · right
    obtain ⟨cf, rf, u1, u2, u3, u4, u5⟩ := tf_fail (k := 1) h (by decide) (fun _ => rfl) (d + 2) (d' + 3)
    refine ⟨cf, rf, ?_, ?_, u3, u4, u5⟩
    · rw [e_X8_takeOneOf, if_neg (by rw [g]; exact t2), u1, Option.bind_some]
    · rw [e_X12_isWorkHere, tk_name h.1, Option.bind_some, decide_eq_false t2]
      show (if (0 : Int) = 0 then _ else _) = _
      rw [if_pos rfl, u2, Option.bind_some, if_pos (Or.inl rfl)]
theorem fl_one {pl s cnt : Int} (h : FL c r) (s0 : 0 ≤ s) (s1 : s < 4) (hc : c (pl + 1) s = cnt) (c0 : 0 ≤ cnt) (c1 : cnt ≤ 7) (d : Nat) : ∃ x c', mm_M mm_prog (d + 5) 93 [(18, 1), (14, pl), (0, s)] c = some (x, c') ∧ FL c' r ∧ cF c c' := by
  have h' := h
  obtain ⟨hC, h8, f, g, i⟩ := h'
  have ff : ∀ k, mm_M mm_prog (d + 4) 90 [(18, 1), (0, k)] c = some (0, c) := fun k => cl_failf h8 (d + 2)
  obtain ⟨c', e1, e2, e3⟩ := tc_adv hC d
  have F' : FL c' r := ⟨e2, by rw [e3 _ _ (by omega)]; exact h8, by rw [e3 _ _ (by omega)]; exact f, by rw [e3 _ _ (by omega)]; exact g, by rw [e3 _ _ (by omega)]; exact i⟩
  rw [e_X8_takeOneOf]
  by_cases z : c 1 4 = 2
  · rw [if_pos z, cl_numberOf s0 s1 hc c0 c1, Option.bind_some]
    dsimp only
    by_cases y : (sp_find (fun i => decide (c (pl + 2) (7 * s + i) = c 1 7)) cnt.toNat 0).getD (-1) = -1
    · exact ⟨-1, c, by rw [if_pos y, ff, Option.bind_some], h, cF.rf c⟩
    · exact ⟨_, c', by rw [if_neg y, e1, Option.bind_some], F', e3.c⟩
  · exact ⟨-1, c, by rw [if_neg z, ff, Option.bind_some], h, cF.rf c⟩
theorem ln_after (h : TF c r n most p t) (hW : TW c r) (d : Nat) : LR (mm_M mm_prog (d + 8) 102 [(19, 3), (18, 1)] c) (mm_M mm_prog (d + 8) 192 [(21, 133)] r) c r n most p := by
  have a3 := hW.1.2.2.2.1
  obtain ⟨c1, r1, p1, t1, e1, e2, e3, e4, e5, e6⟩ := tf_adv h (d + 3) (d + 3)
  have hW1 : TW c1 r1 := hW.fr e5.c e6.r
  have v1 : r1 136 = r 136 := e6.r.row (by decide)
  rcases tw_here e3 hW1 (d + 2) (d + 2) with ⟨x, x0, x1, x2, x3⟩ | ⟨c2, r2, f1, f2, f3, f4, f5⟩
  · rw [v1] at x0
    have h2 : TF c1 (mm_up r1 133 13 x) n most p1 t1 := e3.oth rfl rfl (fun k _ _ => pu_sl (by omega)) (row_ne (by decide))
    obtain ⟨c2, r2, p2, t2, g1, g2, g3, g4, g5, g6⟩ := tf_adv h2 (d + 2) (d + 3)
    have cone : mm_M mm_prog (d + 7) 93 [(18, 1), (14, 4), (0, 2)] c1 = some (x, c2) := by
      rw [e_X8_takeOneOf, if_pos (e3.1.2.2.2.1.trans x1), x2, Option.bind_some]
      dsimp only
      rw [if_neg (by omega), g1, Option.bind_some]
    have rfm : rF r1 (mm_up r1 133 13 x) := (rF.rf r1).up (by decide)
    have hW2 : TW c2 r2 := hW1.fr g5.c (rfm.tr g6.r)
    have v2 : r2 136 = r 136 := ((rfm.tr g6.r).row (by decide)).trans v1
    have c02 : cF c c2 := e5.c.tr g5.c
    have r02 : rF r r2 := e6.r.tr (rfm.tr g6.r)
    have told : (mm_up r1 133 13 x) 133 13 = x := pu_eq _ _ _ _
    have gt1 : gd t1 = 1 := by rw [x1]; rfl
    rcases tw_here g3 hW2 (d + 2) (d + 2) with ⟨y, y0, y1, y2, y3⟩ | ⟨c3, r3, f1, f2, f3, f4, f5⟩
    · rw [v2] at y0
      have gt2 : gd t2 = 1 := by rw [y1]; rfl
      have bits := (hW2.1.2.2.2.2.2.2.2.2.1 x x0.1 (by rw [v2]; exact x0.2)).2.2
      rw [v2] at bits
      have cb : c2 12 x = r 136 (37 + x) := by
        have := (hW2.2.1.2.2.2.2.2.1 x x0.1 (by rw [v2]; exact x0.2)).2.2
        rw [v2] at this
        exact this
      have rb : r2 136 (37 + x) = r 136 (37 + x) := by rw [v2]
      obtain ⟨r3, ur3⟩ : ∃ r3, r3 = mm_up r2 133 13 y := ⟨_, rfl⟩
      rw [← ur3] at y3
      have r23 : rF r2 r3 := by rw [ur3]; exact (rF.rf r2).up (by decide)
      have told3 : r3 133 13 = y := by rw [ur3, pu_eq]
      have rb3 : r3 136 (37 + x) = r 136 (37 + x) := by rw [r23.ob (by decide), rb]
      have h3 : TF c2 r3 n most p2 t2 := g3.oth rfl rfl (fun k _ _ => by rw [ur3, pu_sl (by omega)]) (by rw [ur3]; exact row_ne (by decide))
      have rpre : mm_M mm_prog (d + 8) 192 [(21, 133)] r = if y < x then ((mm_M mm_prog (d + 7) 161 [(0, r 136 (37 + x)), (0, y)] r3).bind fun o5 => (if o5.1 = 0 then ((mm_M mm_prog (d + 7) 168 [(21, 133)] (mm_up o5.2 136 (37 + x) (mm_or (o5.2 136 (37 + x)) (mm_shl 1 (o5.2 133 13))))).bind fun o6 => (some (1, o6.2))) else ((mm_M mm_prog (d + 7) 174 [(21, 133), (0, 3)] o5.2).bind fun o6 => (if o6.1 = 0 ∨ o6.1 = 1 then (some (o6.1, o6.2)) else none)))) else ((mm_M mm_prog (d + 7) 174 [(21, 133), (0, 3)] r3).bind fun o5 => (if o5.1 = 0 ∨ o5.1 = 1 then (some (o5.1, o5.2)) else none)) := by
        rw [e_X12_readAfter, e2, Option.bind_some]
        dsimp only
        rw [x3, Option.bind_some]
        show (if (1 : Int) = 0 then _ else _) = _
        rw [if_neg (by decide)]
        dsimp only
        rw [g2, Option.bind_some]
        dsimp only
        rw [y3, Option.bind_some]
        show (if (1 : Int) = 0 then _ else _) = _
        rw [if_neg (by decide)]
        dsimp only
        simp only [told, told3, show (133 : Int) + 3 = 136 from rfl]
        rw [pu_w (x := 37 + x) (by omega) (by omega), if_pos (show 0 ≤ 37 + x ∧ 37 + x < 48 by omega), rb3]
        simp only [if_pos (show 0 ≤ 37 + x ∧ 37 + x < 48 by omega)]
      have cpre : ∀ c3, mm_M mm_prog (d + 6) 84 [(18, 1)] c2 = some (0, c3) → c3 12 x = r 136 (37 + x) → mm_M mm_prog (d + 8) 102 [(19, 3), (18, 1)] c = if y < x then ((mm_M mm_prog (d + 7) 152 [(0, r 136 (37 + x)), (0, y)] c3).bind fun o4 => (if o4.1 = 0 then (some (1, mm_up o4.2 12 x (mm_or (o4.2 12 x) (mm_shl 1 y)))) else ((mm_M mm_prog (d + 7) 89 [(18, 1), (0, 3), (0, c2 1 5)] o4.2).bind fun o5 => (if o5.1 = 0 ∨ o5.1 = 1 then (some (o5.1, o5.2)) else none)))) else ((mm_M mm_prog (d + 7) 89 [(18, 1), (0, 3), (0, c2 1 5)] c3).bind fun o4 => (if o4.1 = 0 ∨ o4.1 = 1 then (some (o4.1, o4.2)) else none)) := by
        intro c3 q1 q2
        have cone2 : mm_M mm_prog (d + 7) 93 [(18, 1), (14, 4), (0, 2)] c2 = some (y, c3) := by
          rw [e_X8_takeOneOf, if_pos (g3.1.2.2.2.1.trans y1), y2, Option.bind_some]
          dsimp only
          rw [if_neg (by omega), q1, Option.bind_some]
        rw [e_X9_readAfter, e1, Option.bind_some]
        dsimp only
        rw [show (3 : Int) + 1 = 4 from rfl, cone, Option.bind_some]
        dsimp only
        rw [cone2, Option.bind_some]
        dsimp only
        rw [if_neg (by omega), if_neg (by omega), if_pos (show 0 ≤ x ∧ x < 6 by omega), show (4 : Int) + 8 = 12 from rfl, q2]
        simp only [if_pos (show 0 ≤ x ∧ x < 6 by omega)]
      -- the check
      have bad : ∀ (hb : mm_M mm_prog (d + 8) 192 [(21, 133)] r = ((mm_M mm_prog (d + 7) 174 [(21, 133), (0, 3)] r3).bind fun o5 => (if o5.1 = 0 ∨ o5.1 = 1 then (some (o5.1, o5.2)) else none))) (hc : ∀ c3, mm_M mm_prog (d + 6) 84 [(18, 1)] c2 = some (0, c3) → c3 12 x = r 136 (37 + x) → mm_M mm_prog (d + 8) 102 [(19, 3), (18, 1)] c = ((mm_M mm_prog (d + 7) 89 [(18, 1), (0, 3), (0, c2 1 5)] c3).bind fun o4 => (if o4.1 = 0 ∨ o4.1 = 1 then (some (o4.1, o4.2)) else none))), LR (mm_M mm_prog (d + 8) 102 [(19, 3), (18, 1)] c) (mm_M mm_prog (d + 8) 192 [(21, 133)] r) c r n most p := by
        intro hb hc
        right
        obtain ⟨c3, r4, p3, t3, i1, i2, i3, i4, i5, i6⟩ := tf_adv h3 (d + 2) (d + 3)
        obtain ⟨cf, rf, u1, u2, u3, u4, u5⟩ := tf_fail (k := 3) h3 (by decide) (fun w => by omega) (d + 5) (d + 6)
        have c38 : c3 1 8 = 0 := i3.2.1
        have uc : cf = mm_up (mm_up c2 1 8 3) 1 9 (c2 1 5) := by
          rw [cl_fail h3.2.1] at u1
          exact (congrArg Prod.snd (Option.some.inj u1)).symm
        refine ⟨mm_up (mm_up c3 1 8 3) 1 9 (c2 1 5), rf, ?_, ?_, ?_, ?_, ?_⟩
        · rw [hc c3 i1 (by rw [i5.c.ob (by decide), cb]), e_X8_failAt, if_pos c38, Option.bind_some, if_pos (Or.inl rfl)]
        · rw [hb, u2, Option.bind_some, if_pos (Or.inl rfl)]
        · obtain ⟨-, q2, q3, q4, q5⟩ := u3
          rw [uc, pu_sl (by decide), pu_eq] at q2 q3
          rw [uc, pu_eq] at q4 q5
          refine ⟨i3.1.C.cg (fun k hk => by rw [pu_sl (by omega), pu_sl (by omega)]) (fun k => by rw [pu_ob (by decide), pu_ob (by decide)]), ?_, ?_, ?_, ?_⟩
          · rw [pu_sl (by decide), pu_eq]; exact q2
          · rw [pu_sl (by decide), pu_eq]; exact q3
          · rw [pu_eq]; exact q4
          · rw [pu_eq]; exact q5
        · exact (((c02.tr i5.c).up (by decide)).up (by decide)).w
        · exact (r02.tr (r23.tr u5)).x
      by_cases yx : y < x
      · have hb1 : mm_M mm_prog (d + 7) 161 [(0, r 136 (37 + x)), (0, y)] r3 = some (sp_b (f_bit (r 136 (37 + x)) y), r3) := rf_hasb bits.1 (by omega) y0.1 (by omega) (d + 6)
        cases hf : f_bit (r 136 (37 + x)) y with
        | true =>
          refine bad ?_ (fun c3 q1 q2 => ?_)
          · rw [rpre, if_pos yx, hb1, Option.bind_some, hf]
            show (if (1 : Int) = 0 then _ else _) = _
            rw [if_neg (by decide)]
          · rw [cpre c3 q1 q2, if_pos yx, cl_hasBit bits.1 (by omega) y0.1 (by omega), Option.bind_some, hf]
            show (if (1 : Int) = 0 then _ else _) = _
            rw [if_neg (by decide)]
        | false =>
          left
          obtain ⟨B, hB⟩ : ∃ B, B = mm_or (r 136 (37 + x)) (mm_shl 1 y) := ⟨_, rfl⟩
          have bB := (pu_ins (n := 6) bits.1 bits.2 (by decide) y0.1 (show y < 6 by omega)).1
          rw [← hB] at bB
          obtain ⟨c3, r4, p3, t3, i1, i2, i3, i4, i5, i6⟩ := tf_adv (h3.oth (c' := c2) (r' := mm_up r3 136 (37 + x) B) rfl rfl (fun k _ _ => pu_ob (by decide)) (row_ne (by decide))) (d + 2) (d + 3)
          have c3b : c3 12 x = r 136 (37 + x) := by rw [i5.c.ob (by decide), cb]
          refine ⟨mm_up c3 12 x B, r4, p3, t3, ?_, ?_, i3.oth (row_ne (by decide)) (row_ne (by decide)) (fun k _ _ => rfl) rfl, (TW_after hW x0.1 x0.2 bB).fr (c02.tr i5.c).both ((rF.both (r02.tr r23)).tr i6.r), ?_, (c02.tr i5.c).w.up (by decide), (((r02.tr r23).x.up (by omega)).tr i6.r.x)⟩
          · rw [cpre c3 i1 c3b, if_pos yx, cl_hasBit bits.1 (by omega) y0.1 (by omega), Option.bind_some, hf]
            show (if (0 : Int) = 0 then _ else _) = _
            rw [if_pos rfl]
            dsimp only
            rw [c3b, ← hB]
          · rw [rpre, if_pos yx, hb1, Option.bind_some, hf]
            show (if (0 : Int) = 0 then _ else _) = _
            rw [if_pos rfl]
            dsimp only
            rw [rb3, told3, ← hB, i2, Option.bind_some]
          · omega
      · refine bad ?_ (fun c3 q1 q2 => ?_)
        · rw [rpre, if_neg yx]
        · rw [cpre c3 q1 q2, if_neg yx]
    · right
      refine ⟨c3, r3, ?_, ?_, f3, (c02.tr f4).w, (r02.tr f5).x⟩
      · rw [e_X9_readAfter, e1, Option.bind_some]
        dsimp only
        rw [show (3 : Int) + 1 = 4 from rfl, cone, Option.bind_some]
        dsimp only
        rw [f1, Option.bind_some]
        dsimp only
        rw [if_neg (by omega)]
        rfl
      · rw [e_X12_readAfter, e2, Option.bind_some]
        dsimp only
        rw [x3, Option.bind_some]
        show (if (1 : Int) = 0 then _ else _) = _
        rw [if_neg (by decide)]
        dsimp only
        rw [g2, Option.bind_some]
        dsimp only
        rw [f2, Option.bind_some]
        rfl
  · right
    have cnt : c2 (4 + 1) 2 = r 136 3 := by
      have := hW.2.1.2.2.1 2 (by decide) (by decide)
      rw [f4.ob (by decide), e5.c.ob (by decide), this]
      rfl
    obtain ⟨y, c3, g1, g2, g3⟩ := fl_one (pl := 4) (s := 2) f3 (by decide) (by decide) cnt a3.1 (by omega) (d + 2)
    refine ⟨c3, r2, ?_, ?_, g2, ((e5.c.tr f4).tr g3).w, (e6.r.tr f5).x⟩
    · rw [e_X9_readAfter, e1, Option.bind_some]
      dsimp only
      rw [show (3 : Int) + 1 = 4 from rfl, f1, Option.bind_some]
      dsimp only
      rw [g1, Option.bind_some]
      rfl
    · rw [e_X12_readAfter, e2, Option.bind_some]
      dsimp only
      rw [f2, Option.bind_some]
      rfl
end
