/-! A TOWN's text: what is told so far -/
def NM2 (c r : mm_H) : Prop := ∀ s i, 0 ≤ s → s < 4 → 0 ≤ i → i < r 136 (1 + s) → nmr (c 6 (7 * s + i)) (r 141 (f_nb s + i))
def TW (c r : mm_H) : Prop := pr_W (r 136) ∧ pr_P c 4 (r 136) ∧ NM2 c r ∧ (∀ w, r 136 3 ≤ w → w < 6 → r 136 (37 + w) = 0) ∧ (c 3 1 = r 144 0 ∧ c 3 2 = r 144 1) ∧ r 133 25 = (if 0 < r 136 2 + r 136 3 then 1 else 0)
def wF (c c' : mm_H) : Prop := ∀ o k, ¬ ((o = 1 ∧ 3 ≤ k ∧ k ≤ 9) ∨ (3 ≤ o ∧ o ≤ 13)) → c' o k = c o k
def xF (r r' : mm_H) : Prop := ∀ o k, ¬ ((o = 133 ∧ ((5 ≤ k ∧ k ≤ 13) ∨ k = 25)) ∨ o = 136 ∨ o = 141 ∨ o = 144) → r' o k = r o k
theorem wF.tr {a b c : mm_H} (h1 : wF a b) (h2 : wF b c) : wF a c := fun o k z => (h2 o k z).trans (h1 o k z)
theorem xF.tr {a b c : mm_H} (h1 : xF a b) (h2 : xF b c) : xF a c := fun o k z => (h2 o k z).trans (h1 o k z)
theorem wF.up {a b : mm_H} {o k v : Int} (h : wF a b) (hk : 3 ≤ o ∧ o ≤ 13) : wF a (mm_up b o k v) := fun o' k' z => by
  rw [pu_ob (fun q => z (Or.inr (by rw [q]; exact hk)))]
  exact h o' k' z
theorem xF.up {a b : mm_H} {o k v : Int} (h : xF a b) (hk : (o = 133 ∧ k = 25) ∨ o = 136 ∨ o = 141 ∨ o = 144) : xF a (mm_up b o k v) := fun o' k' z => by
  rw [pu_up, if_neg (fun q => z (by omega))]
  exact h o' k' z
theorem cF.w {a b : mm_H} (h : cF a b) : wF a b := fun o k z => h o k (fun q => z (Or.inl q))
theorem rF.x {a b : mm_H} (h : rF a b) : xF a b := fun o k z => h o k (fun q => z (Or.inl ⟨q.1, Or.inl q.2⟩))
theorem row_up (h : mm_H) (o k v : Int) : mm_up h o k v o = vu (h o) k v := by
  funext j
  rw [pu_up]
  unfold vu
  by_cases z : j = k
  · rw [if_pos ⟨rfl, z⟩, if_pos z]
  · rw [if_neg (fun q => z q.2), if_neg z]
theorem row_ne {h : mm_H} {o k v o' : Int} (hn : o' ≠ o) : mm_up h o k v o' = h o' := funext fun j => pu_ob hn
theorem rF.row {a b : mm_H} (h : rF a b) {o : Int} (ho : o ≠ 133) : b o = a o := funext fun k => h.ob ho k
theorem cF.row {a b : mm_H} (h : cF a b) {o : Int} (ho : o ≠ 1) : b o = a o := funext fun k => h.ob ho k
theorem pr_P.rows {a b : mm_H} {pl : Int} {V : Int → Int} (h : pr_P a pl V) (e : ∀ o, pl ≤ o → o ≤ pl + 9 → o ≠ pl + 2 → b o = a o) : pr_P b pl V := h.ob (fun o h0 h1 h2 k => by rw [e o h0 h1 h2])
theorem TW.fr {c r c' r' : mm_H} (h : TW c r) (hc : cF c c') (hr : rF r r') : TW c' r' := by
  obtain ⟨a, b, f, g, i, j⟩ := h
  unfold TW NM2
  rw [hr.row (show (136 : Int) ≠ 133 by decide), hr.row (show (141 : Int) ≠ 133 by decide), hr.row (show (144 : Int) ≠ 133 by decide), hc.row (show (6 : Int) ≠ 1 by decide), hc.row (show (3 : Int) ≠ 1 by decide), hr 133 25 (by omega)]
  exact ⟨a, b.rows (fun o h0 h1 _ => hc.row (by omega)), f, g, i, j⟩
section
variable {c r : mm_H} {n most p t : Int}
theorem W_cnt {V : Int → Int} (hW : pr_W V) {s : Int} (s0 : 0 ≤ s) (s1 : s < 4) : 0 ≤ V (1 + s) ∧ V (1 + s) ≤ mm_mos s ∧ mm_mos s ≤ 7 ∧ f_nb s + mm_mos s ≤ 22 ∧ 0 ≤ f_nb s := by
  obtain ⟨-, a, b, f, g, -⟩ := hW
  have : s = 0 ∨ s = 1 ∨ s = 2 ∨ s = 3 := by omega
  rcases this with rfl | rfl | rfl | rfl
  · exact ⟨a.1, a.2, by decide, by decide, by decide⟩
  · exact ⟨b.1, b.2, by decide, by decide, by decide⟩
  · exact ⟨f.1, f.2, by decide, by decide, by decide⟩
  · exact ⟨g.1, g.2, by decide, by decide, by decide⟩
theorem tw_find (h : TW c r) {s key w : Int} (s0 : 0 ≤ s) (s1 : s < 4) (hk : nmr key w) (d d' : Nat) : ∃ x, (x = -1 ∨ (0 ≤ x ∧ x < r 136 (1 + s))) ∧ mm_M mm_prog (d + 1) 58 [(14, 4), (0, s), (1, key)] c = some (x, c) ∧ mm_M mm_prog (d' + 1) 180 [(42, 141), (0, f_nb s), (0, r 136 (1 + s)), (1, w)] r = some (x, r) := by
  have W := W_cnt h.1 s0 s1
  exact pr_find s0 s1 (h.2.1.2.2.1 s s0 s1) W.1 (by omega) W.2.2.2.2 (by omega) (fun i i0 i1 => h.2.2.1 s i s0 s1 i0 i1) hk d d'
theorem tw_knows (h : TW c r) {key : Int} (hk : nmr key (r 133 12)) (d d' : Nat) : ∃ b : Bool, mm_M mm_prog (d + 2) 59 [(14, 4), (1, key)] c = some (sp_b b, c) ∧ mm_M mm_prog (d' + 2) 181 [(21, 133)] r = some (sp_b b, r) := by
  obtain ⟨x0, -, a0, b0⟩ := tw_find h (s := 0) (by decide) (by decide) hk d d'
  obtain ⟨x1, -, a1, b1⟩ := tw_find h (s := 1) (by decide) (by decide) hk d d'
  obtain ⟨x2, -, a2, b2⟩ := tw_find h (s := 2) (by decide) (by decide) hk d d'
  obtain ⟨x3, -, a3, b3⟩ := tw_find h (s := 3) (by decide) (by decide) hk d d'
  rw [show f_nb 0 = 0 from rfl, show (1 : Int) + 0 = 1 from rfl] at b0
  rw [show f_nb 1 = 4 from rfl, show (1 : Int) + 1 = 2 from rfl] at b1
  rw [show f_nb 2 = 11 from rfl, show (1 : Int) + 2 = 3 from rfl] at b2
  rw [show f_nb 3 = 17 from rfl, show (1 : Int) + 3 = 4 from rfl] at b3
  refine ⟨!(decide (x0 = -1) && (decide (x1 = -1) && (decide (x2 = -1) && decide (x3 = -1)))), ?_, ?_⟩
  · rw [e_X4_knows, e_X4_knows_2, if_pos (by decide), a0, Option.bind_some]
    dsimp only
    by_cases z0 : x0 = -1
    · rw [if_pos z0, decide_eq_true z0, show mm_w (0 + 1) = 1 from rfl, e_X4_knows_2, if_pos (by decide), a1, Option.bind_some]
      dsimp only
      by_cases z1 : x1 = -1
      · rw [if_pos z1, decide_eq_true z1, show mm_w (1 + 1) = 2 from rfl, e_X4_knows_2, if_pos (by decide), a2, Option.bind_some]
        dsimp only
        by_cases z2 : x2 = -1
        · rw [if_pos z2, decide_eq_true z2, show mm_w (2 + 1) = 3 from rfl, e_X4_knows_2, if_pos (by decide), a3, Option.bind_some]
          dsimp only
          by_cases z3 : x3 = -1
          · rw [if_pos z3, decide_eq_true z3, show mm_w (3 + 1) = 4 from rfl, e_X4_knows_2, if_neg (by decide)]; rfl
          · rw [if_neg z3, decide_eq_false z3]; rfl
        · rw [if_neg z2, decide_eq_false z2]; rfl
      · rw [if_neg z1, decide_eq_false z1]; rfl
    · rw [if_neg z0, decide_eq_false z0]; rfl
  · rw [e_X12_isTaken]
    simp only [show (133 : Int) + 8 = 141 from rfl, show (133 : Int) + 3 = 136 from rfl]
    rw [b0, Option.bind_some]
    dsimp only
    by_cases z0 : x0 = -1
    · rw [if_pos z0, decide_eq_true z0, b1, Option.bind_some]
      dsimp only
      by_cases z1 : x1 = -1
      · rw [if_pos z1, decide_eq_true z1, b2, Option.bind_some]
        dsimp only
        by_cases z2 : x2 = -1
        · rw [if_pos z2, decide_eq_true z2, b3, Option.bind_some]
          dsimp only
          by_cases z3 : x3 = -1
          · rw [if_pos z3, decide_eq_true z3]; rfl
          · rw [if_neg z3, decide_eq_false z3]; rfl
        · rw [if_neg z2, decide_eq_false z2]; rfl
      · rw [if_neg z1, decide_eq_false z1]; rfl
    · rw [if_neg z0, decide_eq_false z0]; rfl
theorem tk_nmr (h : TK c r n most p 2) : nmr (c 1 7) (r 133 12) := by
  obtain ⟨-, -, -, -, -, -, l⟩ := h
  rcases l with l | l | l | l | l | l
  · exact absurd l.1 (by decide)
  · exact absurd l.1 (by decide)
  · obtain ⟨-, -, L, lL, e1, e2, -⟩ := l
    exact ⟨L, lL.1, lL.2.1, lL.2.2, e1, e2⟩
  · exact absurd l.1 (by decide)
  · exact absurd l.1.1 (by decide)
  · exact absurd l.1.1 (by decide)
theorem cl_addName {s key x : Int} (s0 : 0 ≤ s) (s1 : s < 4) (hx : c 5 s = x) (x0 : 0 ≤ x) (x1 : x < 7) (d : Nat) : mm_M mm_prog (d + 1) 56 [(14, 4), (0, s), (1, key)] c = some (x, mm_up (mm_up c 6 (7 * s + x) key) 5 s (x + 1)) := by
  rw [e_X4_addName, if_pos ⟨s0, s1⟩, show (4 : Int) + 1 = 5 from rfl, show (4 : Int) + 2 = 6 from rfl, hx, pu_w (x := s * 7) (by omega) (by omega), pu_w (x := s * 7 + x) (by omega) (by omega), pu_w (x := x + 1) (by omega) (by omega), if_pos (by omega), if_pos ⟨s0, s1⟩, show s * 7 + x = 7 * s + x by omega]
/-- one more of a sort, on both sides -/
theorem tw_new {s : Int} (h : TF c r n most p t) (hW : TW c r) (ht : t ≠ 1) (s0 : 0 ≤ s) (s1 : s < 4) (d d' : Nat) :
    (∃ key w c' r1 r' p' t', mm_M mm_prog (d + 6) 98 [(19, 3), (18, 1), (0, s)] c = some (r 136 (1 + s), c') ∧ mm_M mm_prog (d' + 6) 183 [(21, 133), (0, 1 + s), (0, mm_mos s)] r = some (1, r1) ∧ r1 136 = r 136 ∧ mm_M mm_prog (d' + 6) 182 [(21, 133), (0, f_nb s + r 136 (1 + s))] r1 = some (1, r') ∧ r 136 (1 + s) < mm_mos s ∧ nmr key w ∧ TF c' r' n most p' t' ∧ p + 1 + gd t' ≤ p' ∧ cF (mm_up (mm_up c 6 (7 * s + r 136 (1 + s)) key) 5 s (r 136 (1 + s) + 1)) c' ∧ rF (mm_up r 141 (f_nb s + r 136 (1 + s)) w) r') ∨
    (∃ c' r', mm_M mm_prog (d + 6) 98 [(19, 3), (18, 1), (0, s)] c = some (-1, c') ∧ (mm_M mm_prog (d' + 6) 183 [(21, 133), (0, 1 + s), (0, mm_mos s)] r = some (0, r') ∨ ∃ r1, mm_M mm_prog (d' + 6) 183 [(21, 133), (0, 1 + s), (0, mm_mos s)] r = some (1, r1) ∧ r1 136 = r 136 ∧ mm_M mm_prog (d' + 6) 182 [(21, 133), (0, f_nb s + r 136 (1 + s))] r1 = some (0, r')) ∧ FL c' r' ∧ cF c c' ∧ rF r r') := by
  have W := W_cnt hW.1 s0 s1
  have ec := hW.2.1.2.2.1 s s0 s1
  rw [show (4 : Int) + 1 = 5 from rfl] at ec
  have full : mm_M mm_prog (d + 5) 52 [(14, 3 + 1), (0, s)] c = some (if r 136 (1 + s) < mm_mos s then 0 else 1, c) := by
    rw [e_X4_isFull, if_pos ⟨s0, s1⟩, if_pos ⟨s0, s1⟩, show (3 : Int) + 1 + 1 = 5 from rfl, ec]
    by_cases z : r 136 (1 + s) < mm_mos s
    · rw [if_pos z, if_pos z]
    · rw [if_neg z, if_neg z]
  by_cases z : r 136 (1 + s) < mm_mos s
  · obtain ⟨c1, r1, p1, t1, e1, e2, e3, e4, e5, e6⟩ := tf_adv h (d + 1) (d' + 1)
    have fst : mm_M mm_prog (d' + 6) 183 [(21, 133), (0, 1 + s), (0, mm_mos s)] r = some (1, r1) := by
      rw [e_X12_readFirst, if_pos (by omega), show (133 : Int) + 3 = 136 from rfl, if_neg (by omega), e2, Option.bind_some]
    have hW1 : TW c1 r1 := hW.fr e5.c e6.r
    have r136 : r1 136 = r 136 := e6.r.row (by decide)
    have g4 := e3.1.2.2.2.1
    by_cases t2 : t1 = 2
    · subst t2
      have hk := tk_nmr e3.1
      obtain ⟨b, k1, k2⟩ := tw_knows hW1 hk (d + 3) (d' + 3)
      cases b with
      | true =>
        right
        obtain ⟨c2, r2, u1, u2, u3, u4, u5⟩ := tf_fail (k := 3) e3 (by decide) (fun w => by omega) (d + 3) (d' + 4)
        refine ⟨c2, r2, ?_, Or.inr ⟨r1, fst, r136, ?_⟩, u3, e5.c.tr u4, e6.r.tr u5⟩
        · rw [e_X9_readNewOne, full, Option.bind_some]
          dsimp only
          rw [if_pos z, if_pos rfl, e1, Option.bind_some]
          dsimp only
          rw [if_pos g4, show (3 : Int) + 1 = 4 from rfl, k1, Option.bind_some]
          show (if (1 : Int) = 0 then _ else _) = _
          rw [if_neg (by decide), u1, Option.bind_some]
        · rw [e_X12_readNew, tk_name e3.1, Option.bind_some, decide_eq_true rfl]
          show (if (1 : Int) = 0 then _ else _) = _
          rw [if_neg (by decide), k2, Option.bind_some]
          show (if (1 : Int) = 0 then _ else _) = _
          rw [if_neg (by decide), u2, Option.bind_some, if_pos (Or.inl rfl)]
      | false =>
        left
        obtain ⟨x, hx⟩ : ∃ x, x = r 136 (1 + s) := ⟨_, rfl⟩
        have x1c : c1 5 s = x := by rw [e5.c.ob (by decide), ec, hx]
        obtain ⟨c2, u2⟩ : ∃ c2, c2 = mm_up (mm_up c1 6 (7 * s + x) (c1 1 7)) 5 s (x + 1) := ⟨_, rfl⟩
        obtain ⟨r2, v2⟩ : ∃ r2, r2 = mm_up r1 141 (f_nb s + x) (r1 133 12) := ⟨_, rfl⟩
        have e3' : TF c2 r2 n most p1 2 := e3.cg (fun k => by rw [u2, pu_ob (by decide), pu_ob (by decide)]) (fun k => by rw [u2, pu_ob (by decide), pu_ob (by decide)]) (fun k _ _ => by rw [v2, pu_ob (by decide)]) (fun k => by rw [v2, pu_ob (by decide)])
        obtain ⟨c3, r3, p3, t3, f1, f2, f3, f4, f5, f6⟩ := tf_adv e3' (d + 1) (d' + 1)
        rw [← hx] at W z ⊢
        refine ⟨c1 1 7, r1 133 12, c3, r1, r3, p3, t3, ?_, fst, r136, ?_, z, hk, f3, ?_, ?_, ?_⟩
        · rw [e_X9_readNewOne, full, Option.bind_some]
          dsimp only
          rw [← hx, if_pos z, if_pos rfl, e1, Option.bind_some]
          dsimp only
          rw [if_pos g4, show (3 : Int) + 1 = 4 from rfl, k1, Option.bind_some]
          show (if (0 : Int) = 0 then _ else _) = _
          rw [if_pos rfl]
          dsimp only
          rw [cl_addName s0 s1 x1c W.1 (by omega), Option.bind_some]
          dsimp only
          rw [← u2, f1, Option.bind_some]
        · rw [e_X12_readNew, tk_name e3.1, Option.bind_some, decide_eq_true rfl]
          show (if (1 : Int) = 0 then _ else _) = _
          rw [if_neg (by decide), k2, Option.bind_some]
          show (if (0 : Int) = 0 then _ else _) = _
          rw [if_pos rfl, if_pos (by omega), show (133 : Int) + 8 = 141 from rfl]
          dsimp only
          rw [← v2, f2, Option.bind_some]
        · have : gd 2 = 1 := rfl
          omega
        · intro o k q
          rw [f5.c o k q, u2, pu_up, pu_up, pu_up, pu_up]
          by_cases y1 : o = 5 ∧ k = s
          · rw [if_pos y1, if_pos y1]
          · rw [if_neg y1, if_neg y1]
            by_cases y2 : o = 6 ∧ k = 7 * s + x
            · rw [if_pos y2, if_pos y2]
            · rw [if_neg y2, if_neg y2, e5.c o k q]
        · intro o k q
          rw [f6.r o k q, v2, pu_up, pu_up]
          by_cases y1 : o = 141 ∧ k = f_nb s + x
          · rw [if_pos y1, if_pos y1]
          · rw [if_neg y1, if_neg y1, e6.r o k q]
    · right
      obtain ⟨c2, r2, u1, u2, u3, u4, u5⟩ := tf_fail (k := 1) e3 (by decide) (fun _ => rfl) (d + 3) (d' + 4)
      refine ⟨c2, r2, ?_, Or.inr ⟨r1, fst, r136, ?_⟩, u3, e5.c.tr u4, e6.r.tr u5⟩
      · rw [e_X9_readNewOne, full, Option.bind_some]
        dsimp only
        rw [if_pos z, if_pos rfl, e1, Option.bind_some]
        dsimp only
        rw [if_neg (by rw [g4]; exact t2), u1, Option.bind_some]
      · rw [e_X12_readNew, tk_name e3.1, Option.bind_some, decide_eq_false t2]
        show (if (0 : Int) = 0 then _ else _) = _
        rw [if_pos rfl, u2, Option.bind_some, if_pos (Or.inl rfl)]
  · right
    obtain ⟨c2, r2, u1, u2, u3, u4, u5⟩ := tf_fail (k := 4) h (by decide) (fun w => absurd w ht) (d + 3) (d' + 4)
    refine ⟨c2, r2, ?_, Or.inl ?_, u3, u4, u5⟩
    · rw [e_X9_readNewOne, full, Option.bind_some]
      dsimp only
      rw [if_neg z, if_neg (by decide), u1, Option.bind_some]
    · rw [e_X12_readFirst, if_pos (by omega), show (133 : Int) + 3 = 136 from rfl, if_pos (by omega), u2, Option.bind_some, if_pos (Or.inl rfl)]
end
