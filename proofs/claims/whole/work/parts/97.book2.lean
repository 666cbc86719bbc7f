/-! Any LINE of a BOOK -/
section
variable {c r : mm_H} {n most p t : Int}
theorem rf_whats (h : TK c r n most p t) {k x1 : Int} (k0 : 0 ≤ k) (k1 : k ≤ 3) (d : Nat) : mm_R mm_prog (d + 8) T_X12_readBookLine 18 [(21, 133), (0, x1), (0, k)] [] r = mm_R mm_prog (d + 8) T_X12_readBookLine 18 [(21, 133), (0, if t = 18 + k then k else x1), (0, k + 1)] [] r := by
  have q := tk_word (k := 7 + k) h (by omega) (by omega) (d + 5)
  have w : wo (7 + k) = 18 + k := by
    have : k = 0 ∨ k = 1 ∨ k = 2 ∨ k = 3 := by omega
    rcases this with rfl | rfl | rfl | rfl <;> rfl
  rw [w] at q
  rw [e_X12_readBookLine_18, if_neg (by omega), pu_w (x := 7 + k) (by omega) (by omega), pu_w (x := k + 1) (by omega) (by omega), q, Option.bind_some]
  by_cases z : t = 18 + k
  · rw [if_pos z, if_neg (sp_bt (decide_eq_true z))]
  · rw [if_neg z, if_pos (sp_bn (decide_eq_false z))]
def f_what (t : Int) : Int := if t = 21 then 3 else if t = 20 then 2 else if t = 19 then 1 else if t = 18 then 0 else if t = 25 then 6 else 4
theorem rf_what (h : TK c r n most p t) (d : Nat) : mm_M mm_prog (d + 9) 265 [(21, 133)] r = mm_R mm_prog (d + 8) T_X12_readBookLine 18 [(21, 133), (0, f_what t), (0, 4)] [] r := by
  have q := tk_word (k := 14) h (by decide) (by decide) (d + 5)
  rw [show wo 14 = 25 from rfl] at q
  have e : mm_M mm_prog (d + 9) 265 [(21, 133)] r = mm_R mm_prog (d + 8) T_X12_readBookLine 18 [(21, 133), (0, if t = 25 then 6 else 4), (0, 0)] [] r := by
    rw [e_X12_readBookLine, q, Option.bind_some]
    by_cases z : t = 25
    · rw [if_pos z, if_neg (sp_bt (decide_eq_true z))]
    · rw [if_neg z, if_pos (sp_bn (decide_eq_false z))]
  rw [e, rf_whats h (by decide) (by decide), rf_whats h (k := 0 + 1) (by decide) (by decide), rf_whats h (k := 0 + 1 + 1) (by decide) (by decide), rf_whats h (k := 0 + 1 + 1 + 1) (by decide) (by decide)]
  rfl
theorem isAct_t (t : Int) (h : mm_H) (d : Nat) : mm_M mm_prog (d + 1) 2 [(2, t)] h = some (if t = 18 ∨ t = 19 ∨ t = 20 ∨ t = 21 ∨ t = 25 then 1 else 0, h) := by
  rw [e_X0_isAct]
  by_cases a : t = 18
  · rw [if_pos a, if_pos (by omega)]
  rw [if_neg a]
  by_cases b : t = 19
  · rw [if_pos b, if_pos (by omega)]
  rw [if_neg b]
  by_cases e : t = 20
  · rw [if_pos e, if_pos (by omega)]
  rw [if_neg e]
  by_cases f : t = 21
  · rw [if_pos f, if_pos (by omega)]
  rw [if_neg f]
  by_cases g : t = 25
  · rw [if_pos g, if_pos (by omega)]
  rw [if_neg g, if_neg (by omega)]
theorem keep0 {r : mm_H} (k : Int) (d : Nat) : mm_M mm_prog (d + 1) 261 [(21, 133), (0, k), (0, 0)] r = some (0, r) := by
  rw [e_X12_keep, if_pos rfl, if_pos (Or.inl rfl)]
theorem keep1 {r : mm_H} {k x : Int} (k0 : 0 ≤ k) (k1 : k < 80) (hx : r 133 13 = x) (d : Nat) : mm_M mm_prog (d + 1) 261 [(21, 133), (0, k), (0, 1)] r = some (1, mm_up r 150 k x) := by
  rw [e_X12_keep, if_neg (by decide), if_pos ⟨k0, k1⟩, if_pos (Or.inr rfl), hx]
  rfl
/-- the class's part of a LINE that begins with an act -/
theorem cl_bact {m : Int} (g : c 1 4 = t) (ht : t = 18 ∨ t = 19 ∨ t = 20 ∨ t = 21 ∨ t = 25) (hm : c 87 2 = m) (d : Nat) : mm_M mm_prog (d + 9) 1 [(10, 87), (18, 1), (14, 15)] c = if m < 40 then ((mm_M mm_prog (d + 8) 84 [(18, 1)] c).bind fun o2 => (if t = 21 then ((mm_M mm_prog (d + 8) 4 [(10, 87), (18, 1), (14, 15)] o2.2).bind fun o3 => (if o3.1 = 0 ∨ o3.1 = 1 then (some (o3.1, o3.2)) else none)) else (if t = 25 then ((mm_M mm_prog (d + 8) 92 [(18, 1), (0, 1), (0, 60)] o2.2).bind fun o3 => (if o3.1 = (-1) then (some (0, o3.2)) else ((mm_M mm_prog (d + 8) 6 [(10, 87), (0, 6), (0, o3.1)] o3.2).bind fun o4 => (if o4.1 = 0 then (some (0, o4.2)) else (some (1, o4.2)))))) else ((mm_M mm_prog (d + 8) 3 [(2, t)] o2.2).bind fun o3 => ((mm_M mm_prog (d + 8) 6 [(10, 87), (0, o3.1), (0, 0)] o3.2).bind fun o4 => (if o4.1 = 0 ∨ o4.1 = 1 then (some (o4.1, o4.2)) else none)))))) else ((mm_M mm_prog (d + 8) 90 [(18, 1), (0, 4)] c).bind fun o2 => (if o2.1 = 0 ∨ o2.1 = 1 then (some (o2.1, o2.2)) else none)) := by
  rw [e_X0_readLine, g, if_neg (show ¬ t = 2 by omega), isAct_t, if_pos ht, Option.bind_some]
  show (if (1 : Int) = 0 then _ else _) = _
  rw [if_neg (by decide)]
  dsimp only
  by_cases z : m < 40
  · rw [if_pos (by rw [hm]; exact z), if_pos z]
    simp only [if_neg (show ¬ t = 2 by omega)]
  · rw [if_neg (by rw [hm]; exact z), if_neg z]
/-- the reference's part of such a LINE, as far as its first token -/
theorem rf_bact {m w : Int} (h40 : r 133 40 = m) (m0 : 0 ≤ m) (m1 : m ≤ 40) (hw : w ≠ 4) (d : Nat) : mm_R mm_prog (d + 8) T_X12_readBookLine 18 [(21, 133), (0, w), (0, 4)] [] r = if m = 40 then ((mm_M mm_prog (d + 8) 174 [(21, 133), (0, 4)] r).bind fun o1 => (if o1.1 = 0 ∨ o1.1 = 1 then (some (o1.1, o1.2)) else none)) else ((mm_M mm_prog (d + 8) 168 [(21, 133)] (mm_up (mm_up r 150 (2 * m) w) 150 (2 * m + 1) 0)).bind fun o1 => (if w = 3 then ((mm_M mm_prog (d + 8) 263 [(21, 133)] o1.2).bind fun o2 => ((mm_M mm_prog (d + 8) 261 [(21, 133), (0, 2 * m + 1), (0, o2.1)] o2.2).bind fun o3 => (if o3.1 = 0 then (some (0, o3.2)) else ((mm_M mm_prog (d + 8) 176 [(21, 133)] o3.2).bind fun o4 => (if o4.1 = 0 then (some (0, o4.2)) else (some (1, o4.2))))))) else (if w = 6 then ((mm_M mm_prog (d + 8) 175 [(21, 133), (0, 1), (0, 60)] o1.2).bind fun o2 => ((mm_M mm_prog (d + 8) 261 [(21, 133), (0, 2 * m + 1), (0, o2.1)] o2.2).bind fun o3 => (if o3.1 = 0 then (some (0, o3.2)) else ((mm_M mm_prog (d + 8) 176 [(21, 133)] o3.2).bind fun o4 => (if o4.1 = 0 then (some (0, o4.2)) else (some (1, o4.2))))))) else ((mm_M mm_prog (d + 8) 176 [(21, 133)] o1.2).bind fun o2 => (if o2.1 = 0 ∨ o2.1 = 1 then (some (o2.1, o2.2)) else none))))) := by
  rw [e_X12_readBookLine_18, if_pos (by decide), if_neg hw, h40]
  by_cases z : m = 40
  · rw [if_pos z, if_pos z]
  · rw [if_neg z, if_neg z, pu_w (x := 2 * m) (by omega) (by omega), pu_w (x := 2 * m + 1) (by omega) (by omega), if_pos (by omega), if_neg hw, if_pos (by omega)]
    simp only [show (133 : Int) + 17 = 150 from rfl, if_neg hw]
    congr 1
    funext o1
    by_cases y : w = 3
    · rw [if_pos y, if_pos y]
    · rw [if_neg y, if_neg y]
      by_cases v : w = 5
      · rw [if_pos v, if_neg (by omega)]
      · rw [if_neg v]
theorem bk_act {m : Int} (h : TF c r n most p t) (hK : BKn c r m) (h40 : r 133 40 = m) (ht : t = 18 ∨ t = 19 ∨ t = 20) (d d' : Nat) : BL (mm_M mm_prog (d + 9) 1 [(10, 87), (18, 1), (14, 15)] c) (mm_M mm_prog (d + 9) 91 [(18, 1), (2, 4)]) (mm_M mm_prog (d' + 9) 265 [(21, 133)] r) c r n most m := by
  have g := h.1.2.2.2.1
  obtain ⟨hm, mb, hk3⟩ := hK
  rw [rf_what h.1, cl_bact g (by omega) hm]
  have wv : f_what t = t - 18 := by
    rcases ht with rfl | rfl | rfl <;> rfl
  rw [wv, rf_bact h40 mb.1 mb.2 (by omega)]
  by_cases z : m = 40
  · right
    obtain ⟨cf, rf, u1, u2, u3, u4, u5⟩ := tf_fail (k := 4) h (by decide) (fun w => by omega) (d + 6) (d' + 7)
    exact ⟨cf, rf, Or.inl (by rw [if_neg (by omega), u1, Option.bind_some, if_pos (Or.inl rfl)]), by rw [if_pos z, u2, Option.bind_some, if_pos (Or.inl rfl)], u3, u4.b, u5.b⟩
  obtain ⟨r0, hr0⟩ : ∃ r0, r0 = mm_up (mm_up r 150 (2 * m) (t - 18)) 150 (2 * m + 1) 0 := ⟨_, rfl⟩
  have h0 : TF c r0 n most p t := h.oth rfl rfl (fun k _ _ => by rw [hr0, pu_ob (by decide), pu_ob (by decide)]) (by rw [hr0]; exact (row_ne (by decide)).trans (row_ne (by decide)))
  obtain ⟨c1, r1, p1, t1, e1, e2, e3, e4, e5, e6⟩ := tf_adv h0 (d + 4) (d' + 4)
  have x0 : xB r r0 := by rw [hr0]; exact ((xB.rf r).up).up
  have ao : mm_M mm_prog (d + 8) 3 [(2, t)] c1 = some (t - 18, c1) := by
    rw [e_X0_actOf]
    rcases ht with rfl | rfl | rfl <;> rfl
  have m1c : c1 87 2 = m := by rw [e5.c.ob (by decide), hm]
  refine bl_fin (c1 := c1) (r1 := r1) (a := t - 18) (x := 0) ⟨hm, mb, hk3⟩ (by omega) e3 (d + 4) (d' + 3) ?_ (fun g => rfl) (fun r' q => ?_) (fun r' q => ?_) e5.c.b (fun i => e5.c.ob (by decide) i) (fun i => e5.c.ob (by decide) i) (x0.tr e6.r.b) ?_ ?_ (fun j hj => ?_) (Or.inl ⟨by omega, fun w => by omega, fun w => by omega⟩)
  · rw [if_pos (by omega), e1, Option.bind_some]
    dsimp only
    rw [if_neg (by omega), if_neg (by omega), ao, Option.bind_some]
    dsimp only
    rw [cl_add m1c mb.1 (by omega), Option.bind_some, if_pos (Or.inr rfl)]
  · rw [if_neg z, ← hr0, e2, Option.bind_some]
    dsimp only
    rw [if_neg (by omega), if_neg (by omega), q, Option.bind_some, if_pos (Or.inr rfl)]
  · rw [if_neg z, ← hr0, e2, Option.bind_some]
    dsimp only
    rw [if_neg (by omega), if_neg (by omega), q, Option.bind_some, if_pos (Or.inl rfl)]
  · rw [e6.r.ob (by decide), hr0, pu_sl (by omega), pu_eq]
  · rw [e6.r.ob (by decide), hr0, pu_eq]
  · rw [e6.r.ob (by decide), hr0, pu_sl (by omega), pu_sl (by omega)]
theorem bk_sec {m : Int} (h : TF c r n most p t) (hK : BKn c r m) (h40 : r 133 40 = m) (ht : t = 25) (d d' : Nat) : BL (mm_M mm_prog (d + 9) 1 [(10, 87), (18, 1), (14, 15)] c) (mm_M mm_prog (d + 9) 91 [(18, 1), (2, 4)]) (mm_M mm_prog (d' + 9) 265 [(21, 133)] r) c r n most m := by
  have g := h.1.2.2.2.1
  obtain ⟨hm, mb, hk3⟩ := hK
  rw [rf_what h.1, cl_bact g (by omega) hm, show f_what t = 6 by rw [ht]; rfl, rf_bact h40 mb.1 mb.2 (by decide)]
  by_cases z : m = 40
  · right
    obtain ⟨cf, rf, u1, u2, u3, u4, u5⟩ := tf_fail (k := 4) h (by decide) (fun w => by omega) (d + 6) (d' + 7)
    exact ⟨cf, rf, Or.inl (by rw [if_neg (by omega), u1, Option.bind_some, if_pos (Or.inl rfl)]), by rw [if_pos z, u2, Option.bind_some, if_pos (Or.inl rfl)], u3, u4.b, u5.b⟩
  obtain ⟨r0, hr0⟩ : ∃ r0, r0 = mm_up (mm_up r 150 (2 * m) 6) 150 (2 * m + 1) 0 := ⟨_, rfl⟩
  have h0 : TF c r0 n most p t := h.oth rfl rfl (fun k _ _ => by rw [hr0, pu_ob (by decide), pu_ob (by decide)]) (by rw [hr0]; exact (row_ne (by decide)).trans (row_ne (by decide)))
  obtain ⟨c1, r1, p1, t1, e1, e2, e3, e4, e5, e6⟩ := tf_adv h0 (d + 4) (d' + 4)
  have x0 : xB r r0 := by rw [hr0]; exact ((xB.rf r).up).up
  rcases tf_num (a := 1) (b := 60) e3 (d + 3) (d' + 3) with ⟨x, c2, r2, p2, t2, f1, f2, f3, f4, f5, f6, f7, f8, f9⟩ | ⟨c2, r2, f1, f2, f3, f4, f5⟩
  · have m2c : c2 87 2 = m := by rw [f7.ob (by decide), e5.c.ob (by decide), hm]
    have r02 : ∀ j, r2 150 j = r0 150 j := fun j => by rw [f8.ob (by decide), e6.r.ob (by decide)]
    have h3 : TF c2 (mm_up r2 150 (2 * m + 1) x) n most p2 t2 := f5.oth rfl rfl (fun k _ _ => pu_ob (by decide)) (row_ne (by decide))
    refine bl_fin (c1 := c2) (r1 := mm_up r2 150 (2 * m + 1) x) (a := 6) (x := x) ⟨hm, mb, hk3⟩ (by omega) h3 (d + 4) (d' + 3) ?_ (fun g => rfl) (fun r' q => ?_) (fun r' q => ?_) (e5.c.tr f7).b (fun i => (e5.c.tr f7).ob (by decide) i) (fun i => (e5.c.tr f7).ob (by decide) i) ((x0.tr (e6.r.tr f8).b).up) ?_ (pu_eq _ _ _ _) (fun j hj => ?_) (Or.inr ⟨rfl, f3⟩)
    · rw [if_pos (by omega), e1, Option.bind_some]
      dsimp only
      rw [if_neg (by omega), if_pos ht, f1, Option.bind_some]
      dsimp only
      rw [if_neg (by omega), cl_add m2c mb.1 (by omega), Option.bind_some]
      rfl
    · rw [if_neg z, ← hr0, e2, Option.bind_some]
      dsimp only
      rw [if_neg (by decide), if_pos rfl, f2, Option.bind_some]
      dsimp only
      rw [keep1 (by omega) (by omega) f4, Option.bind_some]
      show (if (1 : Int) = 0 then _ else _) = _
      rw [if_neg (by decide)]
      dsimp only
      rw [q, Option.bind_some]
      rfl
    · rw [if_neg z, ← hr0, e2, Option.bind_some]
      dsimp only
      rw [if_neg (by decide), if_pos rfl, f2, Option.bind_some]
      dsimp only
      rw [keep1 (by omega) (by omega) f4, Option.bind_some]
      show (if (1 : Int) = 0 then _ else _) = _
      rw [if_neg (by decide)]
      dsimp only
      rw [q, Option.bind_some]
      rfl
    · rw [pu_sl (by omega), r02, hr0, pu_sl (by omega), pu_eq]
    · rw [pu_sl (by omega), r02, hr0, pu_sl (by omega), pu_sl (by omega)]
  · right
    refine ⟨c2, r2, Or.inl ?_, ?_, f3, (e5.c.tr f4).b, x0.tr (e6.r.tr f5).b⟩
    · rw [if_pos (by omega), e1, Option.bind_some]
      dsimp only
      rw [if_neg (by omega), if_pos ht, f1, Option.bind_some]
      rfl
    · rw [if_neg z, ← hr0, e2, Option.bind_some]
      dsimp only
      rw [if_neg (by decide), if_pos rfl, f2, Option.bind_some]
      dsimp only
      rw [keep0, Option.bind_some]
      rfl
theorem bk_rel {m : Int} (h : TF c r n most p t) (hX : BX c r) (hK : BKn c r m) (h40 : r 133 40 = m) (ht : t = 21) (d d' : Nat) : BL (mm_M mm_prog (d + 9) 1 [(10, 87), (18, 1), (14, 15)] c) (mm_M mm_prog (d + 9) 91 [(18, 1), (2, 4)]) (mm_M mm_prog (d' + 9) 265 [(21, 133)] r) c r n most m := by
  have g := h.1.2.2.2.1
  obtain ⟨hm, mb, hk3⟩ := hK
  have w1 := hX.1.2.1
  rw [rf_what h.1, cl_bact g (by omega) hm, show f_what t = 3 by rw [ht]; rfl, rf_bact h40 mb.1 mb.2 (by decide)]
  by_cases z : m = 40
  · right
    obtain ⟨cf, rf, u1, u2, u3, u4, u5⟩ := tf_fail (k := 4) h (by decide) (fun w => by omega) (d + 6) (d' + 7)
    exact ⟨cf, rf, Or.inl (by rw [if_neg (by omega), u1, Option.bind_some, if_pos (Or.inl rfl)]), by rw [if_pos z, u2, Option.bind_some, if_pos (Or.inl rfl)], u3, u4.b, u5.b⟩
  obtain ⟨r0, hr0⟩ : ∃ r0, r0 = mm_up (mm_up r 150 (2 * m) 3) 150 (2 * m + 1) 0 := ⟨_, rfl⟩
  have h0 : TF c r0 n most p t := h.oth rfl rfl (fun k _ _ => by rw [hr0, pu_ob (by decide), pu_ob (by decide)]) (by rw [hr0]; exact (row_ne (by decide)).trans (row_ne (by decide)))
  obtain ⟨c1, r1, p1, t1, e1, e2, e3, e4, e5, e6⟩ := tf_adv h0 (d + 4) (d' + 4)
  have x0 : xB r r0 := by rw [hr0]; exact ((xB.rf r).up).up
  have X1 : BX c1 r1 := hX.b e5.c.b (x0.tr e6.r.b)
  have row1 : r1 135 = r 135 := (e6.r.row (by decide)).trans (by rw [hr0]; exact (row_ne (by decide)).trans (row_ne (by decide)))
  have g1 := e3.1.2.2.2.1
  have wk := tk_word (k := 11) e3.1 (by decide) (by decide) (d' + 4)
  rw [show wo 11 = 22 from rfl] at wk
  -- who beats, on both sides
  have go : (∃ x c2 r2 p2 t2, mm_M mm_prog (d + 8) 4 [(10, 87), (18, 1), (14, 15)] c1 = some (1, mm_up (mm_up (mm_up c2 88 m 3) 89 m x) 87 2 (m + 1)) ∧ mm_M mm_prog (d' + 8) 263 [(21, 133)] r1 = some (1, r2) ∧ r2 133 13 = x ∧ (0 ≤ x ∧ x ≤ r 135 1) ∧ TF c2 r2 n most p2 t2 ∧ cF c1 c2 ∧ rF r1 r2) ∨ (∃ c2 r2, mm_M mm_prog (d + 8) 4 [(10, 87), (18, 1), (14, 15)] c1 = some (0, c2) ∧ mm_M mm_prog (d' + 8) 263 [(21, 133)] r1 = some (0, r2) ∧ FL c2 r2 ∧ cF c1 c2 ∧ rF r1 r2) := by
    by_cases y : t1 = 22
    · left
      have h2 : TF c1 (mm_up r1 133 13 0) n most p1 t1 := e3.oth rfl rfl (fun k _ _ => pu_sl (by omega)) (row_ne (by decide))
      obtain ⟨c2, r2, p2, t2, f1, f2, f3, f4, f5, f6⟩ := tf_adv h2 (d + 3) (d' + 3)
      have m2c : c2 87 2 = m := by rw [f5.c.ob (by decide), e5.c.ob (by decide), hm]
      refine ⟨0, c2, r2, p2, t2, ?_, ?_, ?_, ⟨by decide, w1.1⟩, f3, f5.c, ((rF.rf r1).up (by decide)).tr f6.r⟩
      · rw [e_X0_readRelieve, if_pos (g1.trans y), f1, Option.bind_some]
        dsimp only
        rw [cl_add m2c mb.1 (by omega), Option.bind_some, if_pos (Or.inr rfl)]
      · rw [e_X12_readBeater, wk, Option.bind_some, if_neg (sp_bt (decide_eq_true y))]
        dsimp only
        rw [f2, Option.bind_some]
      · rw [f6 _ _ (by omega), pu_eq]
    · rcases bx_named (s := 0) e3 X1 (by decide) (by decide) (d + 2) (d' + 2) with ⟨x, c2, r2, p2, t2, f1, f2, f3, f4, f5, f6, f7, f8, f9⟩ | ⟨c2, r2, f1, f2, f3, f4, f5⟩
      · left
        rw [row1, show (1 : Int) + 0 = 1 from rfl] at f3
        have f2' : mm_M mm_prog (d' + 7) 262 [(21, 133), (0, 0), (0, r1 135 1)] r1 = some (1, r2) := f2
        have m2c : c2 87 2 = m := by rw [f7.ob (by decide), e5.c.ob (by decide), hm]
        refine ⟨1 + x, c2, mm_up r2 133 13 (x + 1), p2, t2, ?_, ?_, by rw [pu_eq]; omega, by omega, f5.oth rfl rfl (fun k _ _ => pu_sl (by omega)) (row_ne (by decide)), f7, f8.up (by decide)⟩
        · rw [e_X0_readRelieve, if_neg (by rw [g1]; exact y), f1, Option.bind_some]
          dsimp only
          rw [if_neg (by omega), pu_w (by omega) (by omega), cl_add m2c mb.1 (by omega), Option.bind_some]
          rfl
        · rw [e_X12_readBeater, wk, Option.bind_some, if_pos (sp_bn (decide_eq_false y)), r135]
          dsimp only
          rw [f2', Option.bind_some]
          show (if (1 : Int) = 0 then _ else _) = _
          rw [if_neg (by decide)]
          dsimp only
          rw [f4, pu_w (by omega) (by omega)]
      · right
        have f2' : mm_M mm_prog (d' + 7) 262 [(21, 133), (0, 0), (0, r1 135 1)] r1 = some (0, r2) := f2
        refine ⟨c2, r2, ?_, ?_, f3, f4, f5⟩
        · rw [e_X0_readRelieve, if_neg (by rw [g1]; exact y), f1, Option.bind_some]
          rfl
        · rw [e_X12_readBeater, wk, Option.bind_some, if_pos (sp_bn (decide_eq_false y)), r135]
          dsimp only
          rw [f2', Option.bind_some]
          rfl
  rcases go with ⟨x, c2, r2, p2, t2, f1, f2, f3, f4, f5, f7, f8⟩ | ⟨c2, r2, f1, f2, f3, f4, f5⟩
  · have r02 : ∀ j, r2 150 j = r0 150 j := fun j => by rw [f8.ob (by decide), e6.r.ob (by decide)]
    have h3 : TF c2 (mm_up r2 150 (2 * m + 1) x) n most p2 t2 := f5.oth rfl rfl (fun k _ _ => pu_ob (by decide)) (row_ne (by decide))
    refine bl_fin (c1 := c2) (r1 := mm_up r2 150 (2 * m + 1) x) (a := 3) (x := x) ⟨hm, mb, hk3⟩ (by omega) h3 (d + 4) (d' + 3) ?_ (fun g => rfl) (fun r' q => ?_) (fun r' q => ?_) (e5.c.tr f7).b (fun i => (e5.c.tr f7).ob (by decide) i) (fun i => (e5.c.tr f7).ob (by decide) i) ((x0.tr (e6.r.tr f8).b).up) ?_ (pu_eq _ _ _ _) (fun j hj => ?_) (Or.inl ⟨by decide, fun _ => f4, fun w => absurd w (by decide)⟩)
    · rw [if_pos (by omega), e1, Option.bind_some]
      dsimp only
      rw [if_pos ht, f1, Option.bind_some, if_pos (Or.inr rfl)]
    · rw [if_neg z, ← hr0, e2, Option.bind_some]
      dsimp only
      rw [if_pos rfl, f2, Option.bind_some]
      dsimp only
      rw [keep1 (by omega) (by omega) f3, Option.bind_some]
      show (if (1 : Int) = 0 then _ else _) = _
      rw [if_neg (by decide)]
      dsimp only
      rw [q, Option.bind_some]
      rfl
    · rw [if_neg z, ← hr0, e2, Option.bind_some]
      dsimp only
      rw [if_pos rfl, f2, Option.bind_some]
      dsimp only
      rw [keep1 (by omega) (by omega) f3, Option.bind_some]
      show (if (1 : Int) = 0 then _ else _) = _
      rw [if_neg (by decide)]
      dsimp only
      rw [q, Option.bind_some]
      rfl
    · rw [pu_sl (by omega), r02, hr0, pu_sl (by omega), pu_eq]
    · rw [pu_sl (by omega), r02, hr0, pu_sl (by omega), pu_sl (by omega)]
  · right
    refine ⟨c2, r2, Or.inl ?_, ?_, f3, (e5.c.tr f4).b, x0.tr (e6.r.tr f5).b⟩
    · rw [if_pos (by omega), e1, Option.bind_some]
      dsimp only
      rw [if_pos ht, f1, Option.bind_some, if_pos (Or.inl rfl)]
    · rw [if_neg z, ← hr0, e2, Option.bind_some]
      dsimp only
      rw [if_pos rfl, f2, Option.bind_some]
      dsimp only
      rw [keep0, Option.bind_some]
      rfl
end
