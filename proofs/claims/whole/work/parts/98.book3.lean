/-! A LINE that begins with a NAME; any LINE; all LINES of a BOOK -/
section
variable {c r : mm_H} {n most p t : Int}
theorem bk_walk {m : Int} (h : TF c r n most p 2) (hX : BX c r) (hK : BKn c r m) (h40 : r 133 40 = m) (d d' : Nat) : BL (mm_M mm_prog (d + 9) 1 [(10, 87), (18, 1), (14, 15)] c) (mm_M mm_prog (d + 9) 91 [(18, 1), (2, 4)]) (mm_M mm_prog (d' + 9) 265 [(21, 133)] r) c r n most m := by
  have g := h.1.2.2.2.1
  obtain ⟨hm, mb, hk3⟩ := hK
  have hk := tk_nmr h.1
  have w2 := hX.1.2.2.1
  obtain ⟨y, y0, y1, y2⟩ := bx_find hX (s := 1) (by decide) (by decide) hk (d + 7) (d' + 7)
  rw [show (1 : Int) + 1 = 2 from rfl, show f_nb 1 = 4 from rfl] at y2
  rw [show (1 : Int) + 1 = 2 from rfl] at y0
  have cpre : mm_M mm_prog (d + 9) 1 [(10, 87), (18, 1), (14, 15)] c = if y = -1 then ((mm_M mm_prog (d + 8) 90 [(18, 1), (0, 3)] c).bind fun o2 => (if o2.1 = 0 ∨ o2.1 = 1 then (some (o2.1, o2.2)) else none)) else (if m < 40 then ((mm_M mm_prog (d + 8) 84 [(18, 1)] c).bind fun o2 => ((mm_M mm_prog (d + 8) 5 [(10, 87), (18, 1), (0, y)] o2.2).bind fun o3 => (if o3.1 = 0 ∨ o3.1 = 1 then (some (o3.1, o3.2)) else none))) else ((mm_M mm_prog (d + 8) 90 [(18, 1), (0, 4)] c).bind fun o2 => (if o2.1 = 0 ∨ o2.1 = 1 then (some (o2.1, o2.2)) else none))) := by
    rw [e_X0_readLine, if_pos g, y1, Option.bind_some]
    dsimp only
    by_cases z : y = -1
    · rw [if_pos z, if_pos z]
    · rw [if_neg z, if_neg z]
      by_cases v : m < 40
      · rw [if_pos (by rw [hm]; exact v), if_pos v]
        simp only [g]
        rfl
      · rw [if_neg (by rw [hm]; exact v), if_neg v]
  have nm := tk_name h.1 (d' + 4)
  rw [decide_eq_true rfl] at nm
  obtain ⟨r0, hr0⟩ : ∃ r0, r0 = mm_up r 150 (2 * m) 4 := ⟨_, rfl⟩
  obtain ⟨r00, hr00⟩ : ∃ r00, r00 = mm_up r0 150 (2 * m + 1) y := ⟨_, rfl⟩
  have X0 : BX c r0 := hX.b (wB.rf c) (by rw [hr0]; exact (xB.rf r).up)
  have w0 : r0 133 12 = r 133 12 := by rw [hr0, pu_ob (by decide)]
  have v0 : r0 135 = r 135 := by rw [hr0]; exact row_ne (by decide)
  obtain ⟨y', y0', y1', y2'⟩ := bx_find X0 (s := 1) (by decide) (by decide) (show nmr (c 1 7) (r0 133 12) by rw [w0]; exact hk) (d + 7) (d' + 7)
  have eyy : y' = y := by rw [y1] at y1'; exact (congrArg Prod.fst (Option.some.inj y1')).symm
  subst eyy
  rw [show (1 : Int) + 1 = 2 from rfl, show f_nb 1 = 4 from rfl] at y2'
  have rpre : mm_M mm_prog (d' + 9) 265 [(21, 133)] r = if y' = -1 then ((mm_M mm_prog (d' + 8) 174 [(21, 133), (0, 3)] r).bind fun o3 => (if o3.1 = 0 ∨ o3.1 = 1 then (some (o3.1, o3.2)) else none)) else (if m = 40 then ((mm_M mm_prog (d' + 8) 174 [(21, 133), (0, 4)] r).bind fun o3 => (if o3.1 = 0 ∨ o3.1 = 1 then (some (o3.1, o3.2)) else none)) else ((mm_M mm_prog (d' + 8) 168 [(21, 133)] r00).bind fun o4 => ((mm_M mm_prog (d' + 8) 264 [(21, 133), (0, 2 * m)] o4.2).bind fun o5 => (if o5.1 = 0 then (some (0, o5.2)) else ((mm_M mm_prog (d' + 8) 176 [(21, 133)] o5.2).bind fun o6 => (if o6.1 = 0 then (some (0, o6.2)) else (some (1, o6.2)))))))) := by
    rw [rf_what h.1, show f_what 2 = 4 from rfl, e_X12_readBookLine_18, if_pos (by decide), if_pos rfl, nm, Option.bind_some]
    show (if (1 : Int) = 0 then _ else _) = _
    rw [if_neg (by decide)]
    simp only [show (133 : Int) + 7 = 140 from rfl, r135, show (133 : Int) + 17 = 150 from rfl]
    rw [y2, Option.bind_some]
    dsimp only
    by_cases z : y' = -1
    · rw [if_pos z, if_pos z]
    · rw [if_neg z, if_neg z]
      by_cases v : m = 40
      · rw [if_pos (by rw [h40]; exact v), if_pos v]
      · rw [if_neg (by rw [h40]; exact v), if_neg v]
        simp only [h40, pu_w (x := 2 * m) (show -2147483648 ≤ 2 * m by omega) (by omega), pu_w (x := 2 * m + 1) (show -2147483648 ≤ 2 * m + 1 by omega) (by omega)]
        rw [if_pos (by omega), if_pos trivial, ← hr0, y2', Option.bind_some, if_pos (by omega)]
        dsimp only
        rw [← hr00]
        rfl
  rw [cpre, rpre]
  by_cases z : y' = -1
  · right
    obtain ⟨cf, rf, u1, u2, u3, u4, u5⟩ := tf_fail (k := 3) h (by decide) (fun w => absurd w (by decide)) (d + 6) (d' + 7)
    exact ⟨cf, rf, Or.inl (by rw [if_pos z, u1, Option.bind_some, if_pos (Or.inl rfl)]), by rw [if_pos z, u2, Option.bind_some, if_pos (Or.inl rfl)], u3, u4.b, u5.b⟩
  by_cases v : m = 40
  · right
    obtain ⟨cf, rf, u1, u2, u3, u4, u5⟩ := tf_fail (k := 4) h (by decide) (fun w => absurd w (by decide)) (d + 6) (d' + 7)
    exact ⟨cf, rf, Or.inl (by rw [if_neg z, if_neg (by omega), u1, Option.bind_some, if_pos (Or.inl rfl)]), by rw [if_neg z, if_pos v, u2, Option.bind_some, if_pos (Or.inl rfl)], u3, u4.b, u5.b⟩
  have h0 : TF c r00 n most p 2 := h.oth rfl rfl (fun k _ _ => by rw [hr00, hr0, pu_ob (by decide), pu_ob (by decide)]) (by rw [hr00, hr0]; exact (row_ne (by decide)).trans (row_ne (by decide)))
  obtain ⟨c1, r1, p1, t1, e1, e2, e3, e4, e5, e6⟩ := tf_adv h0 (d + 4) (d' + 4)
  have x0 : xB r r00 := by rw [hr00, hr0]; exact ((xB.rf r).up).up
  have g1 := e3.1.2.2.2.1
  have k12 := tk_word (k := 12) e3.1 (by decide) (by decide) (d' + 4)
  have k13 := tk_word (k := 13) e3.1 (by decide) (by decide) (d' + 4)
  rw [show wo 12 = 23 from rfl] at k12
  rw [show wo 13 = 24 from rfl] at k13
  have go : (∃ a c2 r2 p2 t2, mm_M mm_prog (d + 8) 5 [(10, 87), (18, 1), (0, y')] c1 = some (1, mm_up (mm_up (mm_up c2 88 m a) 89 m y') 87 2 (m + 1)) ∧ mm_M mm_prog (d' + 8) 264 [(21, 133), (0, 2 * m)] r1 = some (1, r2) ∧ (a = 4 ∨ a = 5) ∧ TF c2 r2 n most p2 t2 ∧ cF c1 c2 ∧ rF (mm_up r1 150 (2 * m) a) r2) ∨ (∃ c2 r2, mm_M mm_prog (d + 8) 5 [(10, 87), (18, 1), (0, y')] c1 = some (0, c2) ∧ mm_M mm_prog (d' + 8) 264 [(21, 133), (0, 2 * m)] r1 = some (0, r2) ∧ FL c2 r2 ∧ cF c1 c2 ∧ rF r1 r2) := by
    by_cases q : t1 = 23
    · left
      have h2 : TF c1 (mm_up r1 150 (2 * m) 4) n most p1 t1 := e3.oth rfl rfl (fun k _ _ => pu_ob (by decide)) (row_ne (by decide))
      obtain ⟨c2, r2, p2, t2, f1, f2, f3, f4, f5, f6⟩ := tf_adv h2 (d + 3) (d' + 3)
      have m2c : c2 87 2 = m := by rw [f5.c.ob (by decide), e5.c.ob (by decide), hm]
      refine ⟨4, c2, r2, p2, t2, ?_, ?_, Or.inl rfl, f3, f5.c, f6.r⟩
      · rw [e_X0_readWalk, if_pos (g1.trans q), f1, Option.bind_some]
        dsimp only
        rw [cl_add m2c mb.1 (by omega), Option.bind_some, if_pos (Or.inr rfl)]
      · rw [e_X12_readDoes, k12, Option.bind_some, if_neg (sp_bt (decide_eq_true q))]
        dsimp only
        rw [k12, Option.bind_some, if_neg (sp_bt (decide_eq_true q)), if_pos (by omega)]
        dsimp only
        rw [show (133 : Int) + 17 = 150 from rfl, f2, Option.bind_some]
    · have h2 : TF c1 (mm_up r1 150 (2 * m) 5) n most p1 t1 := e3.oth rfl rfl (fun k _ _ => pu_ob (by decide)) (row_ne (by decide))
      rcases tf_take (w := 24) h2 (by decide) (by decide) (d + 2) (d' + 3) with ⟨u, c2, r2, p2, t2, f1, f2, f3, f4, f5, f6⟩ | ⟨u, c2, r2, f1, f2, f3, f4, f5⟩
      · left
        have m2c : c2 87 2 = m := by rw [f5.ob (by decide), e5.c.ob (by decide), hm]
        refine ⟨5, c2, r2, p2, t2, ?_, ?_, Or.inr rfl, f3, f5, f6⟩
        · rw [e_X0_readWalk, if_neg (by rw [g1]; exact q), f1, Option.bind_some]
          show (if (1 : Int) = 0 then _ else _) = _
          rw [if_neg (by decide)]
          dsimp only
          rw [cl_add m2c mb.1 (by omega), Option.bind_some]
          rfl
        · rw [e_X12_readDoes, k12, Option.bind_some, if_pos (sp_bn (decide_eq_false q))]
          dsimp only
          rw [k13, Option.bind_some, if_neg (sp_bt (decide_eq_true u))]
          dsimp only
          rw [k12, Option.bind_some, if_pos (sp_bn (decide_eq_false q)), if_pos (by omega)]
          dsimp only
          rw [show (133 : Int) + 17 = 150 from rfl, f2, Option.bind_some]
      · right
        obtain ⟨cf, rf, u1, u2, u3, u4, u5⟩ := tf_fail (k := 1) e3 (by decide) (fun _ => rfl) (d + 4) (d' + 6)
        refine ⟨cf, rf, ?_, ?_, u3, u4, u5⟩
        · have wr : mm_wr 24 = true := rfl
          rw [e_X0_readWalk, if_neg (by rw [g1]; exact q), e_X8_take, wr, cond_true, if_neg (by rw [g1]; exact u), u1, Option.bind_some, if_pos (Or.inl rfl), Option.bind_some]
          rfl
        · rw [e_X12_readDoes, k12, Option.bind_some, if_pos (sp_bn (decide_eq_false q))]
          dsimp only
          rw [k13, Option.bind_some, if_pos (sp_bn (decide_eq_false u))]
          dsimp only
          rw [u2, Option.bind_some, if_pos (Or.inl rfl)]
  rcases go with ⟨a, c2, r2, p2, t2, f1, f2, f3, f4, f5, f6⟩ | ⟨c2, r2, f1, f2, f3, f4, f5⟩
  · have r02 : ∀ j, r2 150 j = (mm_up r1 150 (2 * m) a) 150 j := fun j => f6.ob (by decide) j
    have r01 : ∀ j, r1 150 j = r00 150 j := fun j => e6.r.ob (by decide) j
    refine bl_fin (c1 := c2) (r1 := r2) (a := a) (x := y') ⟨hm, mb, hk3⟩ (by omega) f4 (d + 4) (d' + 3) ?_ (fun g => rfl) (fun r' q => ?_) (fun r' q => ?_) (e5.c.tr f5).b (fun i => (e5.c.tr f5).ob (by decide) i) (fun i => (e5.c.tr f5).ob (by decide) i) (((x0.tr e6.r.b).up).tr f6.b) ?_ ?_ (fun j hj => ?_) (Or.inl ⟨by omega, fun w => by omega, fun w => by omega⟩)
    · rw [if_neg z, if_pos (by omega), e1, Option.bind_some]
      dsimp only
      rw [f1, Option.bind_some, if_pos (Or.inr rfl)]
    · rw [if_neg z, if_neg v, e2, Option.bind_some]
      dsimp only
      rw [f2, Option.bind_some]
      show (if (1 : Int) = 0 then _ else _) = _
      rw [if_neg (by decide)]
      dsimp only
      rw [q, Option.bind_some]
      rfl
    · rw [if_neg z, if_neg v, e2, Option.bind_some]
      dsimp only
      rw [f2, Option.bind_some]
      show (if (1 : Int) = 0 then _ else _) = _
      rw [if_neg (by decide)]
      dsimp only
      rw [q, Option.bind_some]
      rfl
    · rw [r02, pu_eq]
    · rw [r02, pu_sl (by omega), r01, hr00, pu_eq]
    · rw [r02, pu_sl (by omega), r01, hr00, pu_sl (by omega), hr0, pu_sl (by omega)]
  · right
    refine ⟨c2, r2, Or.inl ?_, ?_, f3, (e5.c.tr f4).b, x0.tr (e6.r.tr f5).b⟩
    · rw [if_neg z, if_pos (by omega), e1, Option.bind_some]
      dsimp only
      rw [f1, Option.bind_some, if_pos (Or.inl rfl)]
    · rw [if_neg z, if_neg v, e2, Option.bind_some]
      dsimp only
      rw [f2, Option.bind_some]
      rfl
theorem bk_any {m : Int} (h : TF c r n most p t) (hX : BX c r) (hK : BKn c r m) (h40 : r 133 40 = m) (d d' : Nat) : BL (mm_M mm_prog (d + 9) 1 [(10, 87), (18, 1), (14, 15)] c) (mm_M mm_prog (d + 9) 91 [(18, 1), (2, 4)]) (mm_M mm_prog (d' + 9) 265 [(21, 133)] r) c r n most m := by
  by_cases a : t = 2
  · subst a
    exact bk_walk h hX hK h40 d d'
  by_cases b : t = 18 ∨ t = 19 ∨ t = 20
  · exact bk_act h hK h40 b d d'
  by_cases e : t = 21
  · exact bk_rel h hX hK h40 e d d'
  by_cases f : t = 25
  · exact bk_sec h hK h40 f d d'
  have g := h.1.2.2.2.1
  have nm := tk_name h.1 (d' + 4)
  rw [decide_eq_false a] at nm
  right
  obtain ⟨cf, rf, u1, u2, u3, u4, u5⟩ := tf_fail (k := 1) h (by decide) (fun _ => rfl) (d + 6) (d' + 7)
  refine ⟨cf, rf, Or.inl ?_, ?_, u3, u4.b, u5.b⟩
  · rw [e_X0_readLine, g, if_neg a, isAct_t, if_neg (by omega), Option.bind_some]
    show (if (0 : Int) = 0 then _ else _) = _
    rw [if_pos rfl]
    dsimp only
    rw [u1, Option.bind_some, if_pos (Or.inl rfl)]
  · have w4 : f_what t = 4 := by
      unfold f_what
      rw [if_neg (by omega), if_neg (by omega), if_neg (by omega), if_neg (by omega), if_neg (by omega)]
    rw [rf_what h.1, w4, e_X12_readBookLine_18, if_pos (by decide), if_pos rfl, nm, Option.bind_some]
    show (if (0 : Int) = 0 then _ else _) = _
    rw [if_pos rfl]
    dsimp only
    rw [u2, Option.bind_some, if_pos (Or.inl rfl)]
end
def xBl (r r' : mm_H) : Prop := ∀ o k, ¬ ((o = 133 ∧ ((5 ≤ k ∧ k ≤ 13) ∨ k = 40)) ∨ o = 150) → r' o k = r o k
theorem bk_loop {n most x1 : Int} (d d' : Nat) : ∀ (f : Nat) (m p t : Int) (c r : mm_H), TF c r n most p t → BX c r → BKn c r m → r 133 40 = m → 40 - m < f →
    (∃ m' c' r' p', mm_R mm_prog (d + 9) T_X0_readBook 7 [(10, 87), (18, 1), (14, 15), (0, m)] [] c = some (1, c') ∧ mm_R mm_prog (d' + 9) T_X12_book 30 [(21, 133), (0, x1), (9, 0), (9, 0)] [] r = mm_R mm_prog (d' + 9) T_X12_book 30 [(21, 133), (0, x1), (9, 0), (9, 0)] [] r' ∧ TF c' r' n most p' 0 ∧ BKn c' r' m' ∧ r' 133 40 = m' ∧ wB c c' ∧ xBl r r') ∨
    (∃ c' r', mm_R mm_prog (d + 9) T_X0_readBook 7 [(10, 87), (18, 1), (14, 15), (0, m)] [] c = some (0, c') ∧ mm_R mm_prog (d' + 9) T_X12_book 30 [(21, 133), (0, x1), (9, 0), (9, 0)] [] r = some (-2 - c' 1 9, r') ∧ FL c' r' ∧ wB c c' ∧ xBl r r')
  | 0, m, p, t, c, r, h, hX, hK, h40, hm => by
    have := hK.2.1
    omega
  | f + 1, m, p, t, c, r, h, hX, hK, h40, hm => by
    have mb := hK.2.1
    have g := h.1.2.2.2.1
    have k0 := h.1.2.2.2.2.2.2.k0
    by_cases z : t = 0
    · left
      subst z
      exact ⟨m, c, r, p, by rw [e_X0_readBook_7, if_neg (by omega), if_pos g], rfl, h, hK, h40, wB.rf c, fun _ _ _ => rfl⟩
    have xl : ∀ {a b : mm_H}, xB a b → xBl a b := fun q o k w => q o k (by omega)
    rcases bk_any h hX hK h40 d d' with ⟨c1, c2, r2, p2, t2, e1, e2, e3, e4, e5, e6, e7⟩ | ⟨c2, r2, e1, e2, e3, e4, e5⟩
    · have mb2 := e5.2.1
      obtain ⟨r3, hr3⟩ : ∃ r3, r3 = mm_up r2 133 40 (m + 1) := ⟨_, rfl⟩
      have r240 : r2 133 40 = m := by rw [e7 _ _ (by omega), h40]
      have h3 : TF c2 r3 n most p2 t2 := e4.oth rfl rfl (fun k _ _ => by rw [hr3, pu_sl (by omega)]) (by rw [hr3]; exact row_ne (by decide))
      have K3 : BKn c2 r3 (m + 1) := by
        refine ⟨e5.1, e5.2.1, fun i i0 i1 => ?_⟩
        have := e5.2.2 i i0 i1
        rw [hr3, pu_ob (by decide), pu_ob (by decide), row_ne (by decide)]
        exact this
      have x23 : xBl r r3 := fun o k w => by rw [hr3, pu_up, if_neg (by omega), e7 o k (by omega)]
      have X3 : BX c2 r3 := hX.cg (fun o h0 h1 => funext fun k => e6 o k (by omega)) (funext fun k => x23 _ k (by omega)) (funext fun k => x23 _ k (by omega))
      have cs : mm_R mm_prog (d + 9) T_X0_readBook 7 [(10, 87), (18, 1), (14, 15), (0, m)] [] c = mm_R mm_prog (d + 9) T_X0_readBook 7 [(10, 87), (18, 1), (14, 15), (0, m + 1)] [] c2 := by
        rw [e_X0_readBook_7, if_neg (by omega), if_neg (by rw [g]; exact z), e1, Option.bind_some]
        show (if (1 : Int) = 0 then _ else _) = _
        rw [if_neg (by decide)]
        dsimp only
        rw [e2, Option.bind_some]
        show (if (1 : Int) = 0 then _ else _) = _
        rw [if_neg (by decide), pu_w (by omega) (by omega)]
      have rs : mm_R mm_prog (d' + 9) T_X12_book 30 [(21, 133), (0, x1), (9, 0), (9, 0)] [] r = mm_R mm_prog (d' + 9) T_X12_book 30 [(21, 133), (0, x1), (9, 0), (9, 0)] [] r3 := by
        rw [e_X12_book_30, if_neg (fun w => z (k0.mp w)), e3, Option.bind_some]
        show (if (1 : Int) = 0 then _ else _) = _
        rw [if_neg (by decide)]
        dsimp only
        rw [r240, pu_w (by omega) (by omega), ← hr3]
      rcases bk_loop d d' f (m + 1) p2 t2 c2 r3 h3 X3 K3 (by rw [hr3, pu_eq]) (by omega) with ⟨m', c', r', p', q1, q2, q3, q4, q5, q6, q7⟩ | ⟨c', r', q1, q2, q3, q4, q5⟩
      · exact Or.inl ⟨m', c', r', p', cs.trans q1, rs.trans q2, q3, q4, q5, e6.tr q6, fun o k w => (q7 o k w).trans (x23 o k w)⟩
      · exact Or.inr ⟨c', r', cs.trans q1, rs.trans q2, q3, e6.tr q4, fun o k w => (q5 o k w).trans (x23 o k w)⟩
    · right
      have q45 := e3.2.2.2
      refine ⟨c2, r2, ?_, ?_, e3, e4, xl e5⟩
      · rw [e_X0_readBook_7, if_neg (by omega), if_neg (by rw [g]; exact z)]
        rcases e1 with e1 | ⟨c1, e1, e9⟩
        · rw [e1, Option.bind_some]; rfl
        · rw [e1, Option.bind_some]
          show (if (1 : Int) = 0 then _ else _) = _
          rw [if_neg (by decide)]
          dsimp only
          rw [e9, Option.bind_some]; rfl
      · rw [e_X12_book_30, if_neg (fun w => z (k0.mp w)), e2, Option.bind_some]
        show (if (0 : Int) = 0 then _ else _) = _
        rw [if_pos rfl]
        dsimp only
        rw [q45.1, pu_w (by omega) (by omega)]
