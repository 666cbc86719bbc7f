/-! ONES -/
def f_beg (t : Int) : Prop := t = 28 ∨ t = 8 ∨ t = 17 ∨ t = 31 ∨ t = 29 ∨ t = 30 ∨ t = 32 ∨ t = 33 ∨ t = 34 ∨ t = 35
theorem beg_y {t : Int} (ht : f_beg t) (h : mm_H) (d : Nat) : mm_M mm_prog (d + 1) 74 [(2, t)] h = some (1, h) := by
  rw [e_X7_beginsOne]
  unfold f_beg at ht
  rcases ht with rfl | rfl | rfl | rfl | rfl | rfl | rfl | rfl | rfl | rfl <;> rfl
theorem beg_n {t : Int} (ht : ¬ f_beg t) (h : mm_H) (d : Nat) : mm_M mm_prog (d + 1) 74 [(2, t)] h = some (0, h) := by
  unfold f_beg at ht
  rw [e_X7_beginsOne, if_neg (by omega), if_neg (by omega), if_neg (by omega), if_neg (by omega), if_neg (by omega), if_neg (by omega), if_neg (by omega), if_neg (by omega), if_neg (by omega), if_neg (by omega)]
noncomputable def SDR (D : Nat) (x1 x2 : Int) (h : mm_H) : Option mm_O := if h 133 44 = 20 then ((mm_M mm_prog D 174 [(21, 133), (0, 4)] h).bind fun o1 => (if o1.1 = 0 ∨ o1.1 = 1 then (some (o1.1, o1.2)) else none)) else (if h 133 45 = 8 then ((mm_M mm_prog D 174 [(21, 133), (0, 4)] h).bind fun o1 => (if o1.1 = 0 ∨ o1.1 = 1 then (some (o1.1, o1.2)) else none)) else ((mm_M mm_prog D 168 [(21, 133)] (mm_up (mm_up h 133 44 (mm_w ((h 133 44) + 1))) 133 45 (mm_w (((mm_up h 133 44 (mm_w ((h 133 44) + 1))) 133 45) + 1)))).bind fun o1 => (if x1 = 0 then (if x2 = 17 then ((mm_M mm_prog D 274 [(21, 133)] o1.2).bind fun o2 => (if o2.1 = 0 ∨ o2.1 = 1 then (some (o2.1, mm_up o2.2 133 45 (mm_w ((o2.2 133 45) - 1)))) else none)) else (if x2 < 20 then ((mm_M mm_prog D 270 [(21, 133), (0, mm_w (50 + x2)), (0, 0), (0, 0), (0, 0)] o1.2).bind fun o2 => (some (1, mm_up (mm_up o2.2 133 46 o2.1) 133 45 (mm_w (((mm_up o2.2 133 46 o2.1) 133 45) - 1))))) else (if x2 < 22 then ((mm_M mm_prog D 276 [(21, 133), (0, x2)] o1.2).bind fun o2 => (if o2.1 = 0 ∨ o2.1 = 1 then (some (o2.1, mm_up o2.2 133 45 (mm_w ((o2.2 133 45) - 1)))) else none)) else ((mm_M mm_prog D 277 [(21, 133), (0, x2)] o1.2).bind fun o2 => (if o2.1 = 0 ∨ o2.1 = 1 then (some (o2.1, mm_up o2.2 133 45 (mm_w ((o2.2 133 45) - 1)))) else none))))) else ((mm_M mm_prog D 275 [(21, 133)] o1.2).bind fun o2 => (if o2.1 = 0 ∨ o2.1 = 1 then (some (o2.1, mm_up o2.2 133 45 (mm_w ((o2.2 133 45) - 1)))) else none)))))
noncomputable def SDK (D : Nat) (x1 x2 : Int) (h : mm_H) : Option mm_O := if x1 = 0 then (if 25 < x2 then ((mm_M mm_prog D 174 [(21, 133), (0, 1)] h).bind fun o1 => (if o1.1 = 0 ∨ o1.1 = 1 then (some (o1.1, o1.2)) else none)) else SDR D x1 x2 h) else SDR D x1 x2 h
def f_sx (t : Int) : Int := if t = 28 then 17 else if t = 17 then 18 else if t = 31 then 19 else if t = 29 then 20 else if t = 30 then 21 else if t = 32 then 22 else if t = 33 then 23 else if t = 34 then 24 else if t = 35 then 25 else 26
section
variable {c r : mm_H} {n most p t : Int}
theorem said_step (h : TK c r n most p t) {k x1 : Int} (k0 : 17 ≤ k) (k1 : k ≤ 25) (d : Nat) : mm_R mm_prog (d + 7) T_X12_readSaid 10 [(21, 133), (0, x1), (0, k), (9, 0)] [] r = if t = wo k then SDK (d + 7) x1 k r else mm_R mm_prog (d + 7) T_X12_readSaid 10 [(21, 133), (0, x1), (0, k + 1), (9, 0)] [] r := by
  have q := tk_word (k := k) h (by omega) k1 (d + 4)
  rw [e_X12_readSaid_10, if_neg (by omega), q, Option.bind_some]
  by_cases z : t = wo k
  · rw [if_neg (sp_bt (decide_eq_true z)), if_pos z]
    rfl
  · rw [if_pos (sp_bn (decide_eq_false z)), if_neg z, pu_w (by omega) (by omega)]
theorem said_exit (x1 : Int) (r : mm_H) (d : Nat) : mm_R mm_prog (d + 7) T_X12_readSaid 10 [(21, 133), (0, x1), (0, 26), (9, 0)] [] r = SDK (d + 7) x1 26 r := by
  rw [e_X12_readSaid_10, if_pos (by decide)]
  rfl
theorem rf_saidT (h : TK c r n most p t) (d : Nat) : mm_M mm_prog (d + 8) 273 [(21, 133)] r = SDK (d + 7) (sp_b (decide (t = 8))) (f_sx t) r := by
  have sg := tk_sign (x := 40) h (d + 6)
  have e8 : decide ((4 ≤ t ∧ t ≤ 9) ∧ sgc t = 40) = decide (t = 8) := by
    by_cases z : t = 8
    · rw [decide_eq_true z, z]; rfl
    · rw [decide_eq_false z, decide_eq_false]
      intro q
      have := q.2
      unfold sgc at this
      by_cases y : t < 8
      · rw [if_pos y] at this; omega
      · rw [if_neg y] at this; omega
  rw [e8] at sg
  rw [e_X12_readSaid, sg, Option.bind_some]
  dsimp only
  rw [said_step h (by decide) (by decide), show wo 17 = 28 from rfl]
  unfold f_sx
  by_cases a1 : t = 28
  · rw [if_pos a1, if_pos a1]
  rw [if_neg a1, if_neg a1, show (17 : Int) + 1 = 18 from rfl, said_step h (by decide) (by decide), show wo 18 = 17 from rfl]
  by_cases a2 : t = 17
  · rw [if_pos a2, if_pos a2]
  rw [if_neg a2, if_neg a2, show (18 : Int) + 1 = 19 from rfl, said_step h (by decide) (by decide), show wo 19 = 31 from rfl]
  by_cases a3 : t = 31
  · rw [if_pos a3, if_pos a3]
  rw [if_neg a3, if_neg a3, show (19 : Int) + 1 = 20 from rfl, said_step h (by decide) (by decide), show wo 20 = 29 from rfl]
  by_cases a4 : t = 29
  · rw [if_pos a4, if_pos a4]
  rw [if_neg a4, if_neg a4, show (20 : Int) + 1 = 21 from rfl, said_step h (by decide) (by decide), show wo 21 = 30 from rfl]
  by_cases a5 : t = 30
  · rw [if_pos a5, if_pos a5]
  rw [if_neg a5, if_neg a5, show (21 : Int) + 1 = 22 from rfl, said_step h (by decide) (by decide), show wo 22 = 32 from rfl]
  by_cases a6 : t = 32
  · rw [if_pos a6, if_pos a6]
  rw [if_neg a6, if_neg a6, show (22 : Int) + 1 = 23 from rfl, said_step h (by decide) (by decide), show wo 23 = 33 from rfl]
  by_cases a7 : t = 33
  · rw [if_pos a7, if_pos a7]
  rw [if_neg a7, if_neg a7, show (23 : Int) + 1 = 24 from rfl, said_step h (by decide) (by decide), show wo 24 = 34 from rfl]
  by_cases a8 : t = 34
  · rw [if_pos a8, if_pos a8]
  rw [if_neg a8, if_neg a8, show (24 : Int) + 1 = 25 from rfl, said_step h (by decide) (by decide), show wo 25 = 35 from rfl]
  by_cases a9 : t = 35
  · rw [if_pos a9, if_pos a9]
  rw [if_neg a9, if_neg a9, show (25 : Int) + 1 = 26 from rfl, said_exit]
/-- what begins no ONE -/
theorem one_no {s o w : Int} (h : TF c r n most p t) (ht : ¬ f_beg t) (d d' : Nat) : SR (mm_M mm_prog (d + 8) 73 [(17, 90), (18, 1), (14, 15), (0, w + 1)] c) (mm_M mm_prog (d' + 8) 273 [(21, 133)] r) c r n most s o := by
  have g := h.1.2.2.2.1
  right
  obtain ⟨cf, rf, u1, u2, u3, u4, u5⟩ := tf_fail (k := 1) h (by decide) (fun _ => rfl) (d + 5) (d' + 6)
  refine ⟨cf, rf, ?_, ?_, u3, u4.s, u5.s⟩
  · rw [e_X7_readOne, g, beg_n ht, Option.bind_some]
    show (if (0 : Int) = 0 then _ else _) = _
    rw [if_pos rfl]
    dsimp only
    rw [u1, Option.bind_some, if_pos (Or.inl rfl)]
  · unfold f_beg at ht
    have e26 : f_sx t = 26 := by
      unfold f_sx
      rw [if_neg (by omega), if_neg (by omega), if_neg (by omega), if_neg (by omega), if_neg (by omega), if_neg (by omega), if_neg (by omega), if_neg (by omega), if_neg (by omega)]
    rw [rf_saidT h.1, decide_eq_false (by omega), e26]
    unfold SDK
    rw [if_pos (show sp_b false = 0 from rfl), if_pos (by decide), u2, Option.bind_some, if_pos (Or.inl rfl)]
theorem sdk_rest {t : Int} (ht : f_beg t) (D : Nat) (r : mm_H) : SDK D (sp_b (decide (t = 8))) (f_sx t) r = SDR D (sp_b (decide (t = 8))) (f_sx t) r := by
  unfold SDK
  by_cases z : t = 8
  · rw [if_neg (sp_bt (decide_eq_true z))]
  · have : f_sx t ≤ 25 := by
      unfold f_beg at ht
      rcases ht with rfl | rfl | rfl | rfl | rfl | rfl | rfl | rfl | rfl | rfl
      · decide
      · exact absurd rfl z
      all_goals decide
    rw [if_pos (sp_bn (decide_eq_false z)), if_neg (by omega)]
/-- one too many, or too deep -/
theorem one_many {s o w : Int} (h : TF c r n most p t) (hS : SN c r s o w) (ht : f_beg t) (hm : o = 20 ∨ w = 8) (d d' : Nat) : SR (mm_M mm_prog (d + 8) 73 [(17, 90), (18, 1), (14, 15), (0, w + 1)] c) (mm_M mm_prog (d' + 8) 273 [(21, 133)] r) c r n most s o := by
  have g := h.1.2.2.2.1
  obtain ⟨⟨n1, n2, n3, n4, n5⟩, sb, ob, wb⟩ := hS
  right
  obtain ⟨cf, rf, u1, u2, u3, u4, u5⟩ := tf_fail (k := 4) h (by decide) (fun q => by unfold f_beg at ht; omega) (d + 5) (d' + 6)
  refine ⟨cf, rf, ?_, ?_, u3, u4.s, u5.s⟩
  · rw [e_X7_readOne, g, beg_y ht, Option.bind_some]
    show (if (1 : Int) = 0 then _ else _) = _
    rw [if_neg (by decide)]
    dsimp only
    by_cases z : o < 20
    · rw [if_pos (by rw [n3]; exact z), if_pos (by omega), u1, Option.bind_some, if_pos (Or.inl rfl)]
    · rw [if_neg (by rw [n3]; exact z), u1, Option.bind_some, if_pos (Or.inl rfl)]
  · rw [rf_saidT h.1, sdk_rest ht]
    unfold SDR
    by_cases z : o = 20
    · rw [if_pos (by rw [n4]; exact z), u2, Option.bind_some, if_pos (Or.inl rfl)]
    · rw [if_neg (by rw [n4]; exact z), if_pos (by rw [n5]; omega), u2, Option.bind_some, if_pos (Or.inl rfl)]
/-- the ONE's first token is taken -/
theorem one_first {s o w : Int} (h : TF c r n most p t) (hX : BX c r) (hS : SN c r s o w) (o2 : o < 20) (w2 : w < 8) (d d' : Nat) : ∃ c1 r1 p1 t1, mm_M mm_prog (d + 4) 84 [(18, 1)] (mm_up c 90 4 (o + 1)) = some (0, c1) ∧ mm_M mm_prog (d' + 4) 168 [(21, 133)] (mm_up (mm_up r 133 44 (o + 1)) 133 45 (w + 1)) = some (0, r1) ∧ TF c1 r1 n most p1 t1 ∧ BX c1 r1 ∧ SN c1 r1 s (o + 1) (w + 1) ∧ wS c c1 ∧ xS r r1 ∧ (∀ o, 91 ≤ o → o ≤ 93 → ∀ k, c1 o k = c o k) ∧ (∀ j, r1 152 j = r 152 j) ∧ r1 135 = r 135 := by
  obtain ⟨⟨n1, n2, n3, n4, n5⟩, sb, ob, wb⟩ := hS
  have h0 : TF (mm_up c 90 4 (o + 1)) (mm_up (mm_up r 133 44 (o + 1)) 133 45 (w + 1)) n most p t := h.oth (row_ne (by decide)) (row_ne (by decide)) (fun k _ _ => by rw [pu_sl (by omega), pu_sl (by omega)]) ((row_ne (by decide)).trans (row_ne (by decide)))
  obtain ⟨c1, r1, p1, t1, e1, e2, e3, e4, e5, e6⟩ := tf_adv h0 d d'
  have w1 : wS c c1 := ((wS.rf c).up (by decide)).tr e5.c.s
  have x1 : xS r r1 := (((xS.rf r).up (by decide)).up (by decide)).tr e6.r.s
  refine ⟨c1, r1, p1, t1, e1, e2, e3, hX.s w1 x1, ⟨⟨?_, ?_, ?_, ?_, ?_⟩, by omega, by omega, by omega⟩, w1, x1, fun o' h0 h1 k => ?_, fun j => ?_, x1.row (by decide) (by decide)⟩
  · rw [e5.c.ob (by decide), pu_sl (by decide), n1]
  · rw [e6.r _ _ (by omega), pu_sl (by decide), pu_sl (by decide), n2]
  · rw [e5.c.ob (by decide), pu_eq]
  · rw [e6.r _ _ (by omega), pu_sl (by decide), pu_eq]
  · rw [e6.r _ _ (by omega), pu_eq]
  · rw [e5.c.ob (by omega), pu_ob (by omega)]
  · rw [e6.r.ob (by decide), pu_ob (by decide), pu_ob (by decide)]
/-- the reference, as far as that -/
theorem sdr_first {s o w x1 x2 : Int} {r1 : mm_H} (hS : SN c r s o w) (o2 : o < 20) (w2 : w < 8) (D : Nat) (e2 : mm_M mm_prog D 168 [(21, 133)] (mm_up (mm_up r 133 44 (o + 1)) 133 45 (w + 1)) = some (0, r1)) : SDR D x1 x2 r = (if x1 = 0 then (if x2 = 17 then ((mm_M mm_prog D 274 [(21, 133)] r1).bind fun o2 => (if o2.1 = 0 ∨ o2.1 = 1 then (some (o2.1, mm_up o2.2 133 45 (mm_w ((o2.2 133 45) - 1)))) else none)) else (if x2 < 20 then ((mm_M mm_prog D 270 [(21, 133), (0, mm_w (50 + x2)), (0, 0), (0, 0), (0, 0)] r1).bind fun o2 => (some (1, mm_up (mm_up o2.2 133 46 o2.1) 133 45 (mm_w (((mm_up o2.2 133 46 o2.1) 133 45) - 1))))) else (if x2 < 22 then ((mm_M mm_prog D 276 [(21, 133), (0, x2)] r1).bind fun o2 => (if o2.1 = 0 ∨ o2.1 = 1 then (some (o2.1, mm_up o2.2 133 45 (mm_w ((o2.2 133 45) - 1)))) else none)) else ((mm_M mm_prog D 277 [(21, 133), (0, x2)] r1).bind fun o2 => (if o2.1 = 0 ∨ o2.1 = 1 then (some (o2.1, mm_up o2.2 133 45 (mm_w ((o2.2 133 45) - 1)))) else none))))) else ((mm_M mm_prog D 275 [(21, 133)] r1).bind fun o2 => (if o2.1 = 0 ∨ o2.1 = 1 then (some (o2.1, mm_up o2.2 133 45 (mm_w ((o2.2 133 45) - 1)))) else none))) := by
  obtain ⟨⟨n1, n2, n3, n4, n5⟩, sb, ob, wb⟩ := hS
  unfold SDR
  rw [if_neg (by rw [n4]; omega), if_neg (by rw [n5]; omega), n4, pu_sl (show (45 : Int) ≠ 44 by decide), n5, pu_w (by omega) (by omega), pu_w (by omega) (by omega), e2, Option.bind_some]
/-- a leaf was read -/
theorem sr_leaf {c2 r2 : mm_H} {s o w p2 t2 wv x y e X Y Z : Int} {X' Y' : Option mm_O} (hS : SN c r s o w) (o20 : o < 20) (h2 : TF c2 r2 n most p2 t2) (S2 : SN c2 r2 s (o + 1) (w + 1)) (wc : wS c c2) (xr : xS r r2) (e1 : ∀ o, 91 ≤ o → o ≤ 93 → ∀ k, c2 o k = c o k) (e2 : ∀ j, r2 152 j = r 152 j) (hl : f_lok (r 135 2) (r 135 3) wv x y e) (hf : f_leaf wv x y e = (X, Y, Z)) (eX : X' = some (1, addS c2 s X Y Z)) (eY : Y' = some (1, mm_up (mm_up (sayS r2 s wv x y e) 133 46 s) 133 45 w)) : SR X' Y' c r n most s o := by
  obtain ⟨⟨n1, n2, n3, n4, n5⟩, sb, ob, wb⟩ := hS
  obtain ⟨⟨m1, m2, m3, m4, m5⟩, -⟩ := S2
  left
  have G := SGa_leaf (c := c) (r := r) (c1 := c2) (r1 := mm_up r2 133 45 w) m1 m3 (by rw [pu_sl (by decide)]; exact m4) (by rw [pu_eq, n5]) sb.1 ob.1 (by omega) hl hf (fun i hi => ⟨e1 91 (by decide) (by decide) i, e1 92 (by decide) (by decide) i, e1 93 (by decide) (by decide) i⟩) (fun j j0 j1 => by rw [pu_ob (by decide)]; exact e2 j)
  have row : (mm_up (mm_up (sayS r2 s wv x y e) 133 46 s) 133 45 w) 152 = (sayS (mm_up r2 133 45 w) s wv x y e) 152 := by
    funext j
    rw [pu_ob (by decide), pu_ob (by decide)]
    unfold sayS
    simp only [pu_up]
    rw [if_neg (show ¬ ((152 : Int) = 133 ∧ j = 43) by omega), if_neg (show ¬ ((152 : Int) = 133 ∧ j = 43) by omega), if_neg (show ¬ ((152 : Int) = 133 ∧ j = 45) by omega)]
  refine ⟨_, _, p2, t2, s + 1, o + 1, eX, eY, ?_, ?_, wc.add, (xr.say.up (by decide)).up (by decide)⟩
  · exact h2.cg (fun k => by unfold addS; rw [pu_ob (by decide), pu_ob (by decide), pu_ob (by decide), pu_ob (by decide)]) (fun k => by unfold addS; rw [pu_ob (by decide), pu_ob (by decide), pu_ob (by decide), pu_ob (by decide)]) (fun k k0 k1 => by rw [pu_sl (by omega), pu_sl (by omega), say_133 (by omega)]) (fun k => by rw [pu_ob (by decide), pu_ob (by decide)]; unfold sayS; rw [pu_ob (by decide), pu_ob (by decide), pu_ob (by decide), pu_ob (by decide), pu_ob (by decide)])
  · rw [pu_sl (show (46 : Int) ≠ 45 by decide), pu_eq]
    obtain ⟨⟨g1, g2, g3, g4, g5⟩, q⟩ := G
    unfold SGa
    rw [row]
    refine ⟨⟨g1, ?_, g3, ?_, ?_⟩, q⟩
    · rw [pu_sl (by decide), pu_sl (by decide), say_43]
    · rw [pu_sl (by decide), pu_sl (by decide), say_133 (by decide)]; exact m4
    · rw [pu_eq, n5]
end
