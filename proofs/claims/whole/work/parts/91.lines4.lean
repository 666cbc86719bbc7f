/-! LINES read on both sides -/
section
variable {c r : mm_H} {n most p t : Int}
theorem TF.oth {c r c' r' : mm_H} {n most p t : Int} (h : TF c r n most p t) (e1 : c' 1 = c 1) (e2 : c' 2 = c 2) (e3 : ∀ k, 3 ≤ k → k ≤ 12 → r' 133 k = r 133 k) (e4 : r' 134 = r 134) : TF c' r' n most p t := h.cg (fun k => by rw [e1]) (fun k => by rw [e2]) e3 (fun k => by rw [e4])
theorem ln_ring (h : TF c r n most p t) (hW : TW c r) (ht : t ≠ 1) (d : Nat) : LR (mm_M mm_prog (d + 8) 96 [(19, 3), (18, 1)] c) (mm_M mm_prog (d + 8) 186 [(21, 133)] r) c r n most p := by
  have b1 := hW.2.1.2.2.1 1 (by decide) (by decide)
  have b2 := hW.2.1.2.2.1 2 (by decide) (by decide)
  have a2 := hW.1.2.2.1
  have a3 := hW.1.2.2.2.1
  have w5 := hW.2.2.2.2.1
  have w6 := hW.2.2.2.2.2
  simp only [Int.reduceAdd] at b1 b2
  obtain ⟨cf, rf, u1, u2, u3, u4, u5⟩ := tf_fail (k := 3) h (by decide) (fun w => absurd w ht) (d + 5) (d + 6)
  by_cases z2 : 0 < r 136 2 + r 136 3
  · right
    rw [if_pos z2] at w6
    refine ⟨cf, rf, ?_, ?_, u3, u4.w, u5.x⟩
    · rw [e_X9_readRing, show (3 : Int) + 1 + 1 = 5 from rfl, b1, b2, pu_w (by omega) (by omega), if_pos z2]
      by_cases z : c 3 1 = 0
      · rw [if_pos z, u1, Option.bind_some, if_pos (Or.inl rfl)]
      · rw [if_neg z, u1, Option.bind_some, if_pos (Or.inl rfl)]
    · rw [e_X12_readRing, if_neg (by omega), u2, Option.bind_some, if_pos (Or.inl rfl)]
  rw [if_neg z2] at w6
  by_cases z : c 3 1 = 0
  · have z' : r 144 0 = 0 := by omega
    have h1 : TF c (mm_up r 144 0 1) n most p t := h.oth rfl rfl (fun k _ _ => pu_ob (by decide)) (row_ne (by decide))
    obtain ⟨c1, r1, p1, t1, e1, e2, e3, e4, e5, e6⟩ := tf_adv h1 (d + 3) (d + 2)
    have fresh : mm_M mm_prog (d + 7) 185 [(21, 133), (0, 0)] r = some (1, r1) := by
      rw [e_X12_isFresh, if_pos (by decide), show (133 : Int) + 11 = 144 from rfl, if_pos z', if_pos (by decide), e2, Option.bind_some]
    rcases tf_num (a := 3) (b := 12) e3 (d + 2) (d + 2) with ⟨x, c2, r2, p2, t2, f1, f2, f3, f4, f5, f6, f7, f8, f9⟩ | ⟨c2, r2, f1, f2, f3, f4, f5⟩
    · left
      have c12 : cF c c2 := e5.c.tr f7
      have r12 : rF (mm_up r 144 0 1) r2 := e6.r.tr f8
      refine ⟨mm_up (mm_up c2 4 0 x) 3 1 1, mm_up r2 136 0 x, p2, t2, ?_, ?_, f5.oth ((row_ne (by decide)).trans (row_ne (by decide))) ((row_ne (by decide)).trans (row_ne (by decide))) (fun k _ _ => pu_ob (by decide)) (row_ne (by decide)), (TW_ring hW f3 (by omega) (by omega)).fr c12.both.both r12.both, ?_, (c12.w.up (by decide)).up (by decide), ((((xF.rf r).up (by omega)).tr r12.x).up (by omega))⟩
      · rw [e_X9_readRing, show (3 : Int) + 1 + 1 = 5 from rfl, b1, b2, pu_w (by omega) (by omega), if_neg z2, if_pos z, e1, Option.bind_some]
        dsimp only
        rw [f1, Option.bind_some]
        dsimp only
        rw [if_neg (by omega)]
        rfl
      · rw [e_X12_readRing, if_pos w6, fresh, Option.bind_some]
        show (if (1 : Int) = 0 then _ else _) = _
        rw [if_neg (by decide), f2, Option.bind_some]
        dsimp only
        rw [rf_put1 (by decide) (by decide) f4, Option.bind_some]
        show (if (1 : Int) = 0 then _ else _) = _
        rw [if_neg (by decide)]
      · have : gd t1 = 1 := by rw [f9]; rfl
        omega
    · right
      refine ⟨c2, r2, ?_, ?_, f3, (e5.c.tr f4).w, (((xF.rf r).up (by omega)).tr (e6.r.tr f5).x)⟩
      · rw [e_X9_readRing, show (3 : Int) + 1 + 1 = 5 from rfl, b1, b2, pu_w (by omega) (by omega), if_neg z2, if_pos z, e1, Option.bind_some]
        dsimp only
        rw [f1, Option.bind_some]
        rfl
      · rw [e_X12_readRing, if_pos w6, fresh, Option.bind_some]
        show (if (1 : Int) = 0 then _ else _) = _
        rw [if_neg (by decide), f2, Option.bind_some]
        dsimp only
        rw [rf_put0, Option.bind_some]
        rfl
  · right
    obtain ⟨cf, rf, u1, u2, u3, u4, u5⟩ := tf_fail (k := 3) h (by decide) (fun w => absurd w ht) (d + 5) (d + 5)
    refine ⟨cf, rf, ?_, ?_, u3, u4.w, u5.x⟩
    · rw [e_X9_readRing, if_neg z, u1, Option.bind_some, if_pos (Or.inl rfl)]
    · rw [e_X12_readRing, if_pos w6, e_X12_isFresh, if_pos (by decide), show (133 : Int) + 11 = 144 from rfl, if_neg (by omega), u2, Option.bind_some, if_pos (Or.inl rfl), Option.bind_some]
      rfl
theorem ln_cousin (h : TF c r n most p t) (hW : TW c r) (ht : t ≠ 1) (d : Nat) : LR (mm_M mm_prog (d + 8) 99 [(19, 3), (18, 1)] c) (mm_M mm_prog (d + 8) 187 [(21, 133)] r) c r n most p := by
  have W := W_cnt hW.1 (s := 0) (by decide) (by decide)
  have m0 : mm_mos 0 = 4 := rfl
  rcases tw_new (s := 0) h hW ht (by decide) (by decide) (d + 1) (d + 1) with ⟨key, w, c1, r0, r1, p1, t1, n1, n2, n3, n4, n5, n6, n7, n8, n9, n10⟩ | ⟨c1, r1, n1, n2, n3, n4, n5⟩
  · obtain ⟨x, hx⟩ : ∃ x, x = r 136 (1 + 0) := ⟨_, rfl⟩
    rw [← hx] at n1 n4 n5 n9 n10 W
    have hx1 : r0 136 1 = x := by rw [n3, hx]; rfl
    have row1 : r1 136 = r 136 := (n10.row (by decide)).trans (row_ne (by decide))
    have n2' : mm_M mm_prog (d + 7) 183 [(21, 133), (0, 1), (0, 4)] r = some (1, r0) := n2
    have n4' : mm_M mm_prog (d + 7) 182 [(21, 133), (0, x)] r0 = some (1, r1) := by
      rw [show f_nb 0 + x = x from (by show (0 : Int) + x = x; omega)] at n4
      exact n4
    rcases tf_num (a := 1) (b := 9) n7 (d + 2) (d + 2) with ⟨y, c2, r2, p2, t2, f1, f2, f3, f4, f5, f6, f7, f8, f9⟩ | ⟨c2, r2, f1, f2, f3, f4, f5⟩
    · left
      have c12 := n9.tr f7
      have r12 := n10.tr f8
      have row2 : r2 136 1 = x := by rw [f8.ob (by decide), row1, hx]; rfl
      refine ⟨mm_up c2 7 (1 + x) y, mm_up (mm_up r2 136 (6 + x) y) 136 1 (x + 1), p2, t2, ?_, ?_, f5.oth (row_ne (by decide)) (row_ne (by decide)) (fun k _ _ => by rw [pu_ob (by decide), pu_ob (by decide)]) ((row_ne (by decide)).trans (row_ne (by decide))), (TW_cousin hW hx (by omega) f3 n6).fr c12.both r12.both.both, ?_, ((((wF.rf c).up (by decide)).up (by decide)).tr c12.w).up (by decide), ((((xF.rf r).up (by omega)).tr r12.x).up (by omega)).up (by omega)⟩
      · rw [e_X9_readCousin, n1, Option.bind_some]
        dsimp only
        rw [f1, Option.bind_some]
        dsimp only
        rw [if_neg (by omega), if_neg (by omega), pu_w (by omega) (by omega), if_pos (by omega)]
        rfl
      · rw [e_X12_readCousin, n2', Option.bind_some]
        show (if (1 : Int) = 0 then _ else _) = _
        rw [if_neg (by decide)]
        dsimp only
        rw [show (133 : Int) + 3 = 136 from rfl, hx1, n4', Option.bind_some]
        show (if (1 : Int) = 0 then _ else _) = _
        rw [if_neg (by decide)]
        dsimp only
        rw [f2, Option.bind_some]
        dsimp only
        rw [pu_w (x := 6 + x) (by omega) (by omega), rf_put1 (by omega) (by omega) f4, Option.bind_some]
        show (if (1 : Int) = 0 then _ else _) = _
        rw [if_neg (by decide)]
        dsimp only
        rw [pu_sl (by omega), row2, pu_w (by omega) (by omega)]
      · have : gd t1 = 1 := by rw [f9]; rfl
        omega
    · right
      refine ⟨c2, r2, ?_, ?_, f3, (((wF.rf c).up (by decide)).up (by decide)).tr (n9.tr f4).w, ((xF.rf r).up (by omega)).tr (n10.tr f5).x⟩
      · rw [e_X9_readCousin, n1, Option.bind_some]
        dsimp only
        rw [f1, Option.bind_some]
        dsimp only
        rw [if_neg (by omega)]
        rfl
      · rw [e_X12_readCousin, n2', Option.bind_some]
        show (if (1 : Int) = 0 then _ else _) = _
        rw [if_neg (by decide)]
        dsimp only
        rw [show (133 : Int) + 3 = 136 from rfl, hx1, n4', Option.bind_some]
        show (if (1 : Int) = 0 then _ else _) = _
        rw [if_neg (by decide)]
        dsimp only
        rw [f2, Option.bind_some]
        dsimp only
        rw [rf_put0, Option.bind_some]
        rfl
  · right
    obtain ⟨y, c2, f1, f2, f3⟩ := fl_num (a := 1) (b := 9) n3 (d + 2)
    refine ⟨c2, r1, ?_, ?_, f2, (n4.tr f3).w, n5.x⟩
    · rw [e_X9_readCousin, n1, Option.bind_some]
      dsimp only
      rw [f1, Option.bind_some]
      rfl
    · rw [e_X12_readCousin]
      rcases n2 with q | ⟨r0, q1, q2, q3⟩
      · have q' : mm_M mm_prog (d + 7) 183 [(21, 133), (0, 1), (0, 4)] r = some (0, r1) := q
        rw [q', Option.bind_some]
        rfl
      · have q' : mm_M mm_prog (d + 7) 183 [(21, 133), (0, 1), (0, 4)] r = some (1, r0) := q1
        obtain ⟨x, hx⟩ : ∃ x, x = r 136 (1 + 0) := ⟨_, rfl⟩
        rw [← hx] at q3 W
        have hx1 : r0 136 1 = x := by rw [q2, hx]; rfl
        have q3' : mm_M mm_prog (d + 7) 182 [(21, 133), (0, x)] r0 = some (0, r1) := by
          rw [show f_nb 0 + x = x from (by show (0 : Int) + x = x; omega)] at q3
          exact q3
        rw [q', Option.bind_some]
        show (if (1 : Int) = 0 then _ else _) = _
        rw [if_neg (by decide)]
        dsimp only
        rw [show (133 : Int) + 3 = 136 from rfl, hx1, q3', Option.bind_some]
        rfl
theorem ln_thing (h : TF c r n most p t) (hW : TW c r) (ht : t ≠ 1) (d : Nat) : LR (mm_M mm_prog (d + 8) 103 [(19, 3), (18, 1)] c) (mm_M mm_prog (d + 8) 193 [(21, 133)] r) c r n most p := by
  have W := W_cnt hW.1 (s := 3) (by decide) (by decide)
  have m0 : mm_mos 3 = 5 := rfl
  rcases tw_new (s := 3) h hW ht (by decide) (by decide) (d + 1) (d + 1) with ⟨key, w, c1, r0, r1, p1, t1, n1, n2, n3, n4, n5, n6, n7, n8, n9, n10⟩ | ⟨c1, r1, n1, n2, n3, n4, n5⟩
  · obtain ⟨x, hx⟩ : ∃ x, x = r 136 (1 + 3) := ⟨_, rfl⟩
    rw [← hx] at n1 n4 n5 n9 n10 W
    have hx1 : r0 136 4 = x := by rw [n3, hx]; rfl
    have row1 : r1 136 = r 136 := (n10.row (by decide)).trans (row_ne (by decide))
    have n2' : mm_M mm_prog (d + 7) 183 [(21, 133), (0, 4), (0, 5)] r = some (1, r0) := n2
    have n4' : mm_M mm_prog (d + 7) 182 [(21, 133), (0, 17 + x)] r0 = some (1, r1) := by
      rw [show f_nb 3 + x = 17 + x from (by show (17 : Int) + x = 17 + x; omega)] at n4
      exact n4
    rcases tf_num (a := 2) (b := 60) n7 (d + 2) (d + 2) with ⟨y, c2, r2, p2, t2, f1, f2, f3, f4, f5, f6, f7, f8, f9⟩ | ⟨c2, r2, f1, f2, f3, f4, f5⟩
    · left
      have c12 := n9.tr f7
      have r12 := n10.tr f8
      have row2 : r2 136 4 = x := by rw [f8.ob (by decide), row1, hx]; rfl
      refine ⟨mm_up c2 13 (x) y, mm_up (mm_up r2 136 (43 + x) y) 136 4 (x + 1), p2, t2, ?_, ?_, f5.oth (row_ne (by decide)) (row_ne (by decide)) (fun k _ _ => by rw [pu_ob (by decide), pu_ob (by decide)]) ((row_ne (by decide)).trans (row_ne (by decide))), (TW_thing hW hx (by omega) f3 n6).fr c12.both r12.both.both, ?_, ((((wF.rf c).up (by decide)).up (by decide)).tr c12.w).up (by decide), ((((xF.rf r).up (by omega)).tr r12.x).up (by omega)).up (by omega)⟩
      · rw [e_X9_readThing, n1, Option.bind_some]
        dsimp only
        rw [f1, Option.bind_some]
        dsimp only
        rw [if_neg (by omega), if_neg (by omega), if_pos (by omega)]
        rfl
      · rw [e_X12_readThing, n2', Option.bind_some]
        show (if (1 : Int) = 0 then _ else _) = _
        rw [if_neg (by decide)]
        dsimp only
        rw [show (133 : Int) + 3 = 136 from rfl, hx1, pu_w (x := 17 + x) (by omega) (by omega), n4', Option.bind_some]
        show (if (1 : Int) = 0 then _ else _) = _
        rw [if_neg (by decide)]
        dsimp only
        rw [f2, Option.bind_some]
        dsimp only
        rw [pu_w (x := 43 + x) (by omega) (by omega), rf_put1 (by omega) (by omega) f4, Option.bind_some]
        show (if (1 : Int) = 0 then _ else _) = _
        rw [if_neg (by decide)]
        dsimp only
        rw [pu_sl (by omega), row2, pu_w (by omega) (by omega)]
      · have : gd t1 = 1 := by rw [f9]; rfl
        omega
    · right
      refine ⟨c2, r2, ?_, ?_, f3, (((wF.rf c).up (by decide)).up (by decide)).tr (n9.tr f4).w, ((xF.rf r).up (by omega)).tr (n10.tr f5).x⟩
      · rw [e_X9_readThing, n1, Option.bind_some]
        dsimp only
        rw [f1, Option.bind_some]
        dsimp only
        rw [if_neg (by omega)]
        rfl
      · rw [e_X12_readThing, n2', Option.bind_some]
        show (if (1 : Int) = 0 then _ else _) = _
        rw [if_neg (by decide)]
        dsimp only
        rw [show (133 : Int) + 3 = 136 from rfl, hx1, pu_w (x := 17 + x) (by omega) (by omega), n4', Option.bind_some]
        show (if (1 : Int) = 0 then _ else _) = _
        rw [if_neg (by decide)]
        dsimp only
        rw [f2, Option.bind_some]
        dsimp only
        rw [rf_put0, Option.bind_some]
        rfl
  · right
    obtain ⟨y, c2, f1, f2, f3⟩ := fl_num (a := 2) (b := 60) n3 (d + 2)
    refine ⟨c2, r1, ?_, ?_, f2, (n4.tr f3).w, n5.x⟩
    · rw [e_X9_readThing, n1, Option.bind_some]
      dsimp only
      rw [f1, Option.bind_some]
      rfl
    · rw [e_X12_readThing]
      rcases n2 with q | ⟨r0, q1, q2, q3⟩
      · have q' : mm_M mm_prog (d + 7) 183 [(21, 133), (0, 4), (0, 5)] r = some (0, r1) := q
        rw [q', Option.bind_some]
        rfl
      · have q' : mm_M mm_prog (d + 7) 183 [(21, 133), (0, 4), (0, 5)] r = some (1, r0) := q1
        obtain ⟨x, hx⟩ : ∃ x, x = r 136 (1 + 3) := ⟨_, rfl⟩
        rw [← hx] at q3 W
        have hx1 : r0 136 4 = x := by rw [q2, hx]; rfl
        have q3' : mm_M mm_prog (d + 7) 182 [(21, 133), (0, 17 + x)] r0 = some (0, r1) := by
          rw [show f_nb 3 + x = 17 + x from (by show (17 : Int) + x = 17 + x; omega)] at q3
          exact q3
        rw [q', Option.bind_some]
        show (if (1 : Int) = 0 then _ else _) = _
        rw [if_neg (by decide)]
        dsimp only
        rw [show (133 : Int) + 3 = 136 from rfl, hx1, pu_w (x := 17 + x) (by omega) (by omega), q3', Option.bind_some]
        rfl
theorem ln_work (h : TF c r n most p t) (hW : TW c r) (ht : t ≠ 1) (d : Nat) : LR (mm_M mm_prog (d + 8) 101 [(19, 3), (18, 1)] c) (mm_M mm_prog (d + 8) 190 [(21, 133)] r) c r n most p := by
  have W := W_cnt hW.1 (s := 2) (by decide) (by decide)
  have a0 := hW.1.1
  have ra := hW.2.1.1
  have m0 : mm_mos 2 = 6 := rfl
  rcases tw_new (s := 2) h hW ht (by decide) (by decide) (d + 1) (d + 1) with ⟨key, w, c1, r0, r1, p1, t1, n1, n2, n3, n4, n5, n6, n7, n8, n9, n10⟩ | ⟨c1, r1, n1, n2, n3, n4, n5⟩
  · obtain ⟨x, hx⟩ : ∃ x, x = r 136 (1 + 2) := ⟨_, rfl⟩
    rw [← hx] at n1 n4 n5 n9 n10 W
    have hx1 : r0 136 3 = x := by rw [n3, hx]; rfl
    have row1 : r1 136 = r 136 := (n10.row (by decide)).trans (row_ne (by decide))
    have n2' : mm_M mm_prog (d + 7) 183 [(21, 133), (0, 3), (0, 6)] r = some (1, r0) := n2
    have n4' : mm_M mm_prog (d + 7) 182 [(21, 133), (0, 11 + x)] r0 = some (1, r1) := n4
    have ring1 : c1 4 0 = r 136 0 := by rw [n9.ob (by decide), pu_ob (by decide), pu_ob (by decide)]; exact ra
    have h7 : TF c1 (mm_up r1 133 25 1) n most p1 t1 := n7.oth rfl rfl (fun k _ _ => pu_sl (by omega)) (row_ne (by decide))
    rcases tf_num (a := 0) (b := r 136 0 - 1) h7 (d + 2) (d + 1) with ⟨y, c2, r2, p2, t2, f1, f2, f3, f4, f5, f6, f7, f8, f9⟩ | ⟨c2, r2, f1, f2, f3, f4, f5⟩
    · obtain ⟨r3, ur3⟩ : ∃ r3, r3 = mm_up r2 136 (25 + x) y := ⟨_, rfl⟩
      have h8 : TF c2 r3 n most p2 t2 := f5.oth rfl rfl (fun k _ _ => by rw [ur3, pu_ob (by decide)]) (by rw [ur3]; exact row_ne (by decide))
      have r13 : rF (mm_up (mm_up (mm_up r 141 (f_nb 2 + x) w) 133 25 1) 136 (25 + x) y) r3 := by rw [ur3]; exact (n10.both.tr f8).both
      rcases tf_num (a := 1) (b := 30) h8 (d + 2) (d + 2) with ⟨z, c4, r4, p4, t4, g1, g2, g3, g4, g5, g6, g7, g8, g9⟩ | ⟨c4, r4, g1, g2, g3, g4, g5⟩
      · have c14 := (n9.tr f7).tr g7
        have r14 := r13.tr g8
        have v2 : r4 136 3 = x := by rw [r14.ob (by decide), pu_sl (by omega), pu_ob (by decide), pu_ob (by decide), hx]; rfl
        left
        refine ⟨mm_up (mm_up (mm_up c4 10 x y) 11 x z) 12 x 0, mm_up (mm_up r4 136 (31 + x) z) 136 3 (x + 1), p4, t4, ?_, ?_, g5.oth ((row_ne (by decide)).trans ((row_ne (by decide)).trans (row_ne (by decide)))) ((row_ne (by decide)).trans ((row_ne (by decide)).trans (row_ne (by decide)))) (fun k _ _ => by rw [pu_ob (by decide), pu_ob (by decide)]) ((row_ne (by decide)).trans (row_ne (by decide))), (TW_work hW hx (by omega) (by omega) g3 n6).fr c14.both.both.both r14.both.both, ?_, (((((((wF.rf c).up (by decide)).up (by decide)).tr c14.w).up (by decide)).up (by decide)).up (by decide)), ((((((xF.rf r).up (by omega)).up (by omega)).up (by omega)).tr r14.x).up (by omega)).up (by omega)⟩
        · rw [e_X9_readWork, n1, Option.bind_some]
          dsimp only
          rw [show (3 : Int) + 1 = 4 from rfl, ring1, pu_w (x := r 136 0 - 1) (by omega) (by omega), f1, Option.bind_some]
          dsimp only
          rw [g1, Option.bind_some]
          dsimp only
          rw [if_neg (by omega), if_neg (by omega), if_neg (by omega), if_pos (by omega), if_pos (by omega), if_pos (by omega)]
          rfl
        · rw [e_X12_readWork, n2', Option.bind_some]
          show (if (1 : Int) = 0 then _ else _) = _
          rw [if_neg (by decide)]
          dsimp only
          rw [show (133 : Int) + 3 = 136 from rfl, hx1, pu_w (x := 11 + x) (by omega) (by omega), n4', Option.bind_some]
          show (if (1 : Int) = 0 then _ else _) = _
          rw [if_neg (by decide)]
          dsimp only
          rw [pu_w (x := 25 + x) (by omega) (by omega), e_X12_readPlace, show (133 : Int) + 3 = 136 from rfl, pu_ob (show (136 : Int) ≠ 133 by decide), row1, pu_w (x := r 136 0 - 1) (by omega) (by omega), f2, Option.bind_some]
          dsimp only
          rw [rf_put1 (by omega) (by omega) f4, Option.bind_some]
          dsimp only
          rw [if_pos (Or.inr rfl), Option.bind_some]
          show (if (1 : Int) = 0 then _ else _) = _
          rw [if_neg (by decide)]
          dsimp only
          rw [← ur3, g2, Option.bind_some]
          dsimp only
          rw [pu_w (x := 31 + x) (by omega) (by omega), rf_put1 (by omega) (by omega) g4, Option.bind_some]
          show (if (1 : Int) = 0 then _ else _) = _
          rw [if_neg (by decide)]
          dsimp only
          rw [pu_sl (by omega), v2, pu_w (by omega) (by omega)]
        · have gt1 : gd t1 = 1 := by rw [f9]; rfl
          have gt2 : gd t2 = 1 := by rw [g9]; rfl
          omega
      · right
        refine ⟨c4, r4, ?_, ?_, g3, (((wF.rf c).up (by decide)).up (by decide)).tr ((n9.tr f7).tr g4).w, ((((xF.rf r).up (by omega)).up (by omega)).up (by omega)).tr (r13.tr g5).x⟩
        · rw [e_X9_readWork, n1, Option.bind_some]
          dsimp only
          rw [show (3 : Int) + 1 = 4 from rfl, ring1, pu_w (x := r 136 0 - 1) (by omega) (by omega), f1, Option.bind_some]
          dsimp only
          rw [g1, Option.bind_some]
          dsimp only
          rw [if_neg (by omega), if_neg (by omega)]
          rfl
        · rw [e_X12_readWork, n2', Option.bind_some]
          show (if (1 : Int) = 0 then _ else _) = _
          rw [if_neg (by decide)]
          dsimp only
          rw [show (133 : Int) + 3 = 136 from rfl, hx1, pu_w (x := 11 + x) (by omega) (by omega), n4', Option.bind_some]
          show (if (1 : Int) = 0 then _ else _) = _
          rw [if_neg (by decide)]
          dsimp only
          rw [pu_w (x := 25 + x) (by omega) (by omega), e_X12_readPlace, show (133 : Int) + 3 = 136 from rfl, pu_ob (show (136 : Int) ≠ 133 by decide), row1, pu_w (x := r 136 0 - 1) (by omega) (by omega), f2, Option.bind_some]
          dsimp only
          rw [rf_put1 (by omega) (by omega) f4, Option.bind_some]
          dsimp only
          rw [if_pos (Or.inr rfl), Option.bind_some]
          show (if (1 : Int) = 0 then _ else _) = _
          rw [if_neg (by decide)]
          dsimp only
          rw [← ur3, g2, Option.bind_some]
          dsimp only
          rw [rf_put0, Option.bind_some]
          rfl
    · right
      obtain ⟨z, c4, g1, g2, g3⟩ := fl_num (a := 1) (b := 30) f3 (d + 2)
      refine ⟨c4, r2, ?_, ?_, g2, (((wF.rf c).up (by decide)).up (by decide)).tr ((n9.tr f4).tr g3).w, (((xF.rf r).up (by omega)).up (by omega)).tr (n10.both.tr f5).x⟩
      · rw [e_X9_readWork, n1, Option.bind_some]
        dsimp only
        rw [show (3 : Int) + 1 = 4 from rfl, ring1, pu_w (x := r 136 0 - 1) (by omega) (by omega), f1, Option.bind_some]
        dsimp only
        rw [g1, Option.bind_some]
        dsimp only
        rw [if_neg (by omega)]
        rfl
      · rw [e_X12_readWork, n2', Option.bind_some]
        show (if (1 : Int) = 0 then _ else _) = _
        rw [if_neg (by decide)]
        dsimp only
        rw [show (133 : Int) + 3 = 136 from rfl, hx1, pu_w (x := 11 + x) (by omega) (by omega), n4', Option.bind_some]
        show (if (1 : Int) = 0 then _ else _) = _
        rw [if_neg (by decide)]
        dsimp only
        rw [pu_w (x := 25 + x) (by omega) (by omega), e_X12_readPlace, show (133 : Int) + 3 = 136 from rfl, pu_ob (show (136 : Int) ≠ 133 by decide), row1, pu_w (x := r 136 0 - 1) (by omega) (by omega), f2, Option.bind_some]
        dsimp only
        rw [rf_put0, Option.bind_some]
        dsimp only
        rw [if_pos (Or.inl rfl), Option.bind_some]
        rfl
  · right
    obtain ⟨y, c2, f1, f2, f3⟩ := fl_num (a := 0) (b := mm_w (c1 4 0 - 1)) n3 (d + 2)
    obtain ⟨z, c4, g1, g2, g3⟩ := fl_num (a := 1) (b := 30) f2 (d + 2)
    refine ⟨c4, r1, ?_, ?_, g2, ((n4.tr f3).tr g3).w, n5.x⟩
    · rw [e_X9_readWork, n1, Option.bind_some]
      dsimp only
      rw [show (3 : Int) + 1 = 4 from rfl, f1, Option.bind_some]
      dsimp only
      rw [g1, Option.bind_some]
      rfl
    · rw [e_X12_readWork]
      rcases n2 with q | ⟨r0, q1, q2, q3⟩
      · have q' : mm_M mm_prog (d + 7) 183 [(21, 133), (0, 3), (0, 6)] r = some (0, r1) := q
        rw [q', Option.bind_some]
        rfl
      · have q' : mm_M mm_prog (d + 7) 183 [(21, 133), (0, 3), (0, 6)] r = some (1, r0) := q1
        obtain ⟨x, hx⟩ : ∃ x, x = r 136 (1 + 2) := ⟨_, rfl⟩
        rw [← hx] at q3 W
        have hx1 : r0 136 3 = x := by rw [q2, hx]; rfl
        have q3' : mm_M mm_prog (d + 7) 182 [(21, 133), (0, 11 + x)] r0 = some (0, r1) := q3
        rw [q', Option.bind_some]
        show (if (1 : Int) = 0 then _ else _) = _
        rw [if_neg (by decide)]
        dsimp only
        rw [show (133 : Int) + 3 = 136 from rfl, hx1, pu_w (x := 11 + x) (by omega) (by omega), q3', Option.bind_some]
        rfl
theorem ln_person (h : TF c r n most p t) (hW : TW c r) (ht : t ≠ 1) (d : Nat) : LR (mm_M mm_prog (d + 8) 100 [(19, 3), (18, 1)] c) (mm_M mm_prog (d + 8) 189 [(21, 133)] r) c r n most p := by
  have W := W_cnt hW.1 (s := 1) (by decide) (by decide)
  have a0 := hW.1.1
  have ra := hW.2.1.1
  have m0 : mm_mos 1 = 7 := rfl
  rcases tw_new (s := 1) h hW ht (by decide) (by decide) (d + 1) (d + 1) with ⟨key, w, c1, r0, r1, p1, t1, n1, n2, n3, n4, n5, n6, n7, n8, n9, n10⟩ | ⟨c1, r1, n1, n2, n3, n4, n5⟩
  · obtain ⟨x, hx⟩ : ∃ x, x = r 136 (1 + 1) := ⟨_, rfl⟩
    rw [← hx] at n1 n4 n5 n9 n10 W
    have hx1 : r0 136 2 = x := by rw [n3, hx]; rfl
    have row1 : r1 136 = r 136 := (n10.row (by decide)).trans (row_ne (by decide))
    have n2' : mm_M mm_prog (d + 7) 183 [(21, 133), (0, 2), (0, 7)] r = some (1, r0) := n2
    have n4' : mm_M mm_prog (d + 7) 182 [(21, 133), (0, 4 + x)] r0 = some (1, r1) := n4
    have ring1 : c1 4 0 = r 136 0 := by rw [n9.ob (by decide), pu_ob (by decide), pu_ob (by decide)]; exact ra
    have h7 : TF c1 (mm_up r1 133 25 1) n most p1 t1 := n7.oth rfl rfl (fun k _ _ => pu_sl (by omega)) (row_ne (by decide))
    rcases tf_num (a := 0) (b := r 136 0 - 1) h7 (d + 2) (d + 1) with ⟨y, c2, r2, p2, t2, f1, f2, f3, f4, f5, f6, f7, f8, f9⟩ | ⟨c2, r2, f1, f2, f3, f4, f5⟩
    · obtain ⟨r3, ur3⟩ : ∃ r3, r3 = mm_up r2 136 (10 + x) y := ⟨_, rfl⟩
      have h8 : TF c2 r3 n most p2 t2 := f5.oth rfl rfl (fun k _ _ => by rw [ur3, pu_ob (by decide)]) (by rw [ur3]; exact row_ne (by decide))
      have r13 : rF (mm_up (mm_up (mm_up r 141 (f_nb 1 + x) w) 133 25 1) 136 (10 + x) y) r3 := by rw [ur3]; exact (n10.both.tr f8).both
      rcases tf_num (a := 1) (b := 3) h8 (d + 2) (d + 2) with ⟨z, c4, r4, p4, t4, g1, g2, g3, g4, g5, g6, g7, g8, g9⟩ | ⟨c4, r4, g1, g2, g3, g4, g5⟩
      · have c14 := (n9.tr f7).tr g7
        have r14 := r13.tr g8
        have o24 : c4 4 1 = r 136 24 := by rw [c14.ob (by decide), pu_ob (by decide), pu_ob (by decide)]; exact hW.2.1.2.1
        have v24 : r4 136 24 = r 136 24 := by rw [r14.ob (by decide), pu_sl (by omega), pu_ob (by decide), pu_ob (by decide)]
        have v2 : r4 136 2 = x := by rw [r14.ob (by decide), pu_sl (by omega), pu_ob (by decide), pu_ob (by decide), hx]; rfl
        have a7 := hW.1.2.2.2.2.2.2.2.1
        have g4t := g5.1.2.2.2.1
        have wF4 : wF c c4 := (((wF.rf c).up (by decide)).up (by decide)).tr c14.w
        have xF4 : xF r r4 := ((((xF.rf r).up (by omega)).up (by omega)).up (by omega)).tr r14.x
        have gt1 : gd t1 = 1 := by rw [f9]; rfl
        have gt2 : gd t2 = 1 := by rw [g9]; rfl
        obtain ⟨c5, uc5⟩ : ∃ c5, c5 = mm_up (mm_up c4 8 x y) 9 x z := ⟨_, rfl⟩
        obtain ⟨r5, ur5⟩ : ∃ r5, r5 = mm_up r4 136 (17 + x) z := ⟨_, rfl⟩
        have h9 : TF c5 r5 n most p4 t4 := g5.oth (by rw [uc5]; exact (row_ne (by decide)).trans (row_ne (by decide))) (by rw [uc5]; exact (row_ne (by decide)).trans (row_ne (by decide))) (fun k _ _ => by rw [ur5, pu_ob (by decide)]) (by rw [ur5]; exact row_ne (by decide))
        have c15 := cF.both (o := 9) (k := x) (v := z) (cF.both (o := 8) (k := x) (v := y) c14)
        have r15 := rF.both (o := 136) (k := 17 + x) (v := z) r14
        rw [← uc5] at c15
        rw [← ur5] at r15
        have o24' : c5 4 1 = r 136 24 := by rw [uc5, pu_ob (by decide), pu_ob (by decide), o24]
        have v24' : r5 136 24 = r 136 24 := by rw [ur5, pu_sl (by omega), v24]
        have v2' : r5 136 2 = x := by rw [ur5, pu_sl (by omega), v2]
        have k5 : c5 1 4 = t4 := by rw [uc5, pu_ob (by decide), pu_ob (by decide), g4t]
        have rchain : mm_M mm_prog (d + 8) 189 [(21, 133)] r = ((mm_M mm_prog (d + 7) 171 [(21, 133), (0, 18)] r5).bind fun o6 => (if o6.1 = 0 then (some (1, mm_up o6.2 136 2 (mm_w ((o6.2 136 2) + 1)))) else ((mm_M mm_prog (d + 7) 168 [(21, 133)] (mm_up o6.2 136 24 (mm_or (o6.2 136 24) (mm_shl 1 x)))).bind fun o7 => (some (1, mm_up o7.2 136 2 (mm_w ((o7.2 136 2) + 1))))))) := by
          rw [e_X12_readPerson, n2', Option.bind_some]
          show (if (1 : Int) = 0 then _ else _) = _
          rw [if_neg (by decide)]
          dsimp only
          rw [show (133 : Int) + 3 = 136 from rfl, hx1, pu_w (x := 4 + x) (by omega) (by omega), n4', Option.bind_some]
          show (if (1 : Int) = 0 then _ else _) = _
          rw [if_neg (by decide)]
          dsimp only
          rw [pu_w (x := 10 + x) (by omega) (by omega), e_X12_readPlace, show (133 : Int) + 3 = 136 from rfl, pu_ob (show (136 : Int) ≠ 133 by decide), row1, pu_w (x := r 136 0 - 1) (by omega) (by omega), f2, Option.bind_some]
          dsimp only
          rw [rf_put1 (by omega) (by omega) f4, Option.bind_some]
          dsimp only
          rw [if_pos (Or.inr rfl), Option.bind_some]
          show (if (1 : Int) = 0 then _ else _) = _
          rw [if_neg (by decide)]
          dsimp only
          rw [← ur3, g2, Option.bind_some]
          dsimp only
          rw [pu_w (x := 17 + x) (by omega) (by omega), rf_put1 (by omega) (by omega) g4, Option.bind_some]
          show (if (1 : Int) = 0 then _ else _) = _
          rw [if_neg (by decide)]
          dsimp only
          rw [← ur5]
        have cchain : mm_M mm_prog (d + 8) 100 [(19, 3), (18, 1)] c = if c5 1 4 = 17 then ((mm_M mm_prog (d + 7) 84 [(18, 1)] (mm_up c5 4 1 (mm_or (c5 4 1) (mm_shl 1 x)))).bind fun o4 => (some (1, o4.2))) else (some (1, c5)) := by
          rw [e_X9_readPerson, n1, Option.bind_some]
          dsimp only
          rw [show (3 : Int) + 1 = 4 from rfl, ring1, pu_w (x := r 136 0 - 1) (by omega) (by omega), f1, Option.bind_some]
          dsimp only
          rw [g1, Option.bind_some]
          dsimp only
          rw [if_neg (by omega), if_neg (by omega), if_neg (by omega), if_pos (by omega), if_pos (by omega), show (4 : Int) + 4 = 8 from rfl, show (4 : Int) + 5 = 9 from rfl, ← uc5]
        have wk := tk_word (k := 18) h9.1 (by decide) (by decide) (d + 4)
        rw [show wo 18 = 17 from rfl] at wk
        left
        by_cases q : t4 = 17
        · obtain ⟨O, hO⟩ : ∃ O, O = mm_or (r 136 24) (mm_shl 1 x) := ⟨_, rfl⟩
          have bO := (pu_ins (n := 7) a7.1 a7.2 (by decide) (show 0 ≤ x by omega) (show x < 7 by omega)).1
          rw [← hO] at bO
          obtain ⟨c6, r6, p6, t6, i1, i2, i3, i4, i5, i6⟩ := tf_adv (h9.oth (c' := mm_up c5 4 1 O) (r' := mm_up r5 136 24 O) (row_ne (by decide)) (row_ne (by decide)) (fun k _ _ => pu_ob (by decide)) (row_ne (by decide))) (d + 3) (d + 3)
          have r6v : r6 136 2 = x := by rw [i6.r.ob (by decide), pu_sl (by decide), v2']
          refine ⟨c6, mm_up r6 136 2 (x + 1), p6, t6, ?_, ?_, i3.oth rfl rfl (fun k _ _ => pu_ob (by decide)) (row_ne (by decide)), (TW_person hW hx (by omega) (by omega) g3 bO n6).fr (c15.both.tr i5.c) ((r15.both.tr i6.r).both), ?_, ?_, ?_⟩
          · rw [cchain, if_pos (by rw [k5]; exact q), o24', ← hO, i1, Option.bind_some]
          · rw [rchain, wk, Option.bind_some, decide_eq_true q]
            show (if (1 : Int) = 0 then _ else _) = _
            rw [if_neg (by decide)]
            dsimp only
            rw [v24', ← hO, i2, Option.bind_some]
            dsimp only
            rw [r6v, pu_w (by omega) (by omega)]
          · have := gd_nn t4
            omega
          · rw [uc5] at i5
            exact ((((wF4.up (by decide)).up (by decide)).up (by decide)).tr i5.c.w)
          · rw [ur5] at i6
            exact ((((xF4.up (by omega)).up (by omega)).tr i6.r.x).up (by omega))
        · have e1 : mm_up c5 4 1 (r 136 24) = c5 := up_id o24'
          have e2 : mm_up r5 136 24 (r 136 24) = r5 := up_id v24'
          have tw := TW_person (y := y) hW hx (by omega) (by omega) g3 a7 n6
          have c16 := cF.both (o := 4) (k := 1) (v := r 136 24) c15
          have r16 := rF.both (o := 136) (k := 24) (v := r 136 24) r15
          rw [e1] at c16
          rw [e2] at r16
          refine ⟨c5, mm_up r5 136 2 (x + 1), p4, t4, ?_, ?_, h9.oth rfl rfl (fun k _ _ => pu_ob (by decide)) (row_ne (by decide)), tw.fr c16 r16.both, by omega, by rw [uc5]; exact (wF4.up (by decide)).up (by decide), by rw [ur5]; exact (xF4.up (by omega)).up (by omega)⟩
          · rw [cchain, if_neg (by rw [k5]; exact q)]
          · rw [rchain, wk, Option.bind_some, decide_eq_false q]
            show (if (0 : Int) = 0 then _ else _) = _
            rw [if_pos rfl]
            dsimp only
            rw [v2', pu_w (by omega) (by omega)]
      · right
        refine ⟨c4, r4, ?_, ?_, g3, (((wF.rf c).up (by decide)).up (by decide)).tr ((n9.tr f7).tr g4).w, ((((xF.rf r).up (by omega)).up (by omega)).up (by omega)).tr (r13.tr g5).x⟩
        · rw [e_X9_readPerson, n1, Option.bind_some]
          dsimp only
          rw [show (3 : Int) + 1 = 4 from rfl, ring1, pu_w (x := r 136 0 - 1) (by omega) (by omega), f1, Option.bind_some]
          dsimp only
          rw [g1, Option.bind_some]
          dsimp only
          rw [if_neg (by omega), if_neg (by omega)]
          rfl
        · rw [e_X12_readPerson, n2', Option.bind_some]
          show (if (1 : Int) = 0 then _ else _) = _
          rw [if_neg (by decide)]
          dsimp only
          rw [show (133 : Int) + 3 = 136 from rfl, hx1, pu_w (x := 4 + x) (by omega) (by omega), n4', Option.bind_some]
          show (if (1 : Int) = 0 then _ else _) = _
          rw [if_neg (by decide)]
          dsimp only
          rw [pu_w (x := 10 + x) (by omega) (by omega), e_X12_readPlace, show (133 : Int) + 3 = 136 from rfl, pu_ob (show (136 : Int) ≠ 133 by decide), row1, pu_w (x := r 136 0 - 1) (by omega) (by omega), f2, Option.bind_some]
          dsimp only
          rw [rf_put1 (by omega) (by omega) f4, Option.bind_some]
          dsimp only
          rw [if_pos (Or.inr rfl), Option.bind_some]
          show (if (1 : Int) = 0 then _ else _) = _
          rw [if_neg (by decide)]
          dsimp only
          rw [← ur3, g2, Option.bind_some]
          dsimp only
          rw [rf_put0, Option.bind_some]
          rfl
    · right
      obtain ⟨z, c4, g1, g2, g3⟩ := fl_num (a := 1) (b := 3) f3 (d + 2)
      refine ⟨c4, r2, ?_, ?_, g2, (((wF.rf c).up (by decide)).up (by decide)).tr ((n9.tr f4).tr g3).w, (((xF.rf r).up (by omega)).up (by omega)).tr (n10.both.tr f5).x⟩
      · rw [e_X9_readPerson, n1, Option.bind_some]
        dsimp only
        rw [show (3 : Int) + 1 = 4 from rfl, ring1, pu_w (x := r 136 0 - 1) (by omega) (by omega), f1, Option.bind_some]
        dsimp only
        rw [g1, Option.bind_some]
        dsimp only
        rw [if_neg (by omega)]
        rfl
      · rw [e_X12_readPerson, n2', Option.bind_some]
        show (if (1 : Int) = 0 then _ else _) = _
        rw [if_neg (by decide)]
        dsimp only
        rw [show (133 : Int) + 3 = 136 from rfl, hx1, pu_w (x := 4 + x) (by omega) (by omega), n4', Option.bind_some]
        show (if (1 : Int) = 0 then _ else _) = _
        rw [if_neg (by decide)]
        dsimp only
        rw [pu_w (x := 10 + x) (by omega) (by omega), e_X12_readPlace, show (133 : Int) + 3 = 136 from rfl, pu_ob (show (136 : Int) ≠ 133 by decide), row1, pu_w (x := r 136 0 - 1) (by omega) (by omega), f2, Option.bind_some]
        dsimp only
        rw [rf_put0, Option.bind_some]
        dsimp only
        rw [if_pos (Or.inl rfl), Option.bind_some]
        rfl
  · right
    obtain ⟨y, c2, f1, f2, f3⟩ := fl_num (a := 0) (b := mm_w (c1 4 0 - 1)) n3 (d + 2)
    obtain ⟨z, c4, g1, g2, g3⟩ := fl_num (a := 1) (b := 3) f2 (d + 2)
    refine ⟨c4, r1, ?_, ?_, g2, ((n4.tr f3).tr g3).w, n5.x⟩
    · rw [e_X9_readPerson, n1, Option.bind_some]
      dsimp only
      rw [show (3 : Int) + 1 = 4 from rfl, f1, Option.bind_some]
      dsimp only
      rw [g1, Option.bind_some]
      rfl
    · rw [e_X12_readPerson]
      rcases n2 with q | ⟨r0, q1, q2, q3⟩
      · have q' : mm_M mm_prog (d + 7) 183 [(21, 133), (0, 2), (0, 7)] r = some (0, r1) := q
        rw [q', Option.bind_some]
        rfl
      · have q' : mm_M mm_prog (d + 7) 183 [(21, 133), (0, 2), (0, 7)] r = some (1, r0) := q1
        obtain ⟨x, hx⟩ : ∃ x, x = r 136 (1 + 1) := ⟨_, rfl⟩
        rw [← hx] at q3 W
        have hx1 : r0 136 2 = x := by rw [q2, hx]; rfl
        have q3' : mm_M mm_prog (d + 7) 182 [(21, 133), (0, 4 + x)] r0 = some (0, r1) := q3
        rw [q', Option.bind_some]
        show (if (1 : Int) = 0 then _ else _) = _
        rw [if_neg (by decide)]
        dsimp only
        rw [show (133 : Int) + 3 = 136 from rfl, hx1, pu_w (x := 4 + x) (by omega) (by omega), q3', Option.bind_some]
        rfl
end
