/-! What may be said of whom: the class, the call -/
def SEG (h : mm_H) (i : Int) (l : List (Int × Int × Int)) : Prop := ∀ j : Nat, j < l.length → l[j]? = some (h 30 (i + j), h 31 (i + j), h 32 (i + j))
theorem SEG.app {h : mm_H} {i : Int} {a b : List (Int × Int × Int)} (hs : SEG h i (a ++ b)) : SEG h i a ∧ SEG h (i + a.length) b := by
  refine ⟨fun j hj => ?_, fun j hj => ?_⟩
  · have := hs j (by rw [List.length_append]; omega)
    rw [List.getElem?_append_left hj] at this
    exact this
  · have := hs (a.length + j) (by rw [List.length_append]; omega)
    rw [List.getElem?_append_right (by omega), Nat.add_sub_cancel_left] at this
    rw [this, show i + ((a.length + j : Nat) : Int) = i + a.length + j by omega]
theorem SEG.one {h : mm_H} {i : Int} {t : Int × Int × Int} (hs : SEG h i [t]) : h 30 i = t.1 ∧ h 31 i = t.2.1 ∧ h 32 i = t.2.2 := by
  have := hs 0 (by rw [List.length_singleton]; decide)
  rw [show i + ((0 : Nat) : Int) = i by omega] at this
  have e : t = (h 30 i, h 31 i, h 32 i) := Option.some.inj this
  rw [e]
  exact ⟨rfl, rfl, rfl⟩
section PC
variable {V : Int → Int} {h : mm_H}
theorem cl_alone (hP : pr_P h 15 V) (hM : pr_M h 25 V) (hW : pr_W V) (hT : pr_T V) {p i : Int} (p0 : 0 ≤ p) (p1 : p < V 2) (i0 : 0 ≤ i) (i1 : i < 40) {w x y r : Int} (q : f_lok (V 2) (V 3) w x y r) (e1 : h 30 i = (f_leaf w x y r).1) (e2 : h 31 i = (f_leaf w x y r).2.1) (e3 : h 32 i = (f_leaf w x y r).2.2) (d : Nat) : mm_M mm_prog (d + 4) 78 [(17, 29), (14, 15), (12, 25), (0, p), (0, i)] h = some (sp_b (f_lf V p w x y r), h) := by
  have w2 := hW.2.2.1
  have w3 := hW.2.2.2.1
  have ci : 0 ≤ i ∧ i < 40 := ⟨i0, i1⟩
  have cp : 0 ≤ p ∧ p < 7 := by omega
  have ep := hM.2.2.2.2.2.2.1 p p0 p1
  have eq := hP.2.2.2.2.1 p p0 p1
  have m31 : (29 : Int) + 1 = 30 := rfl
  have m32 : (29 : Int) + 2 = 31 := rfl
  have m33 : (29 : Int) + 3 = 32 := rfl
  simp only [Int.reduceAdd] at ep eq
  unfold f_lok at q
  unfold f_leaf at e1 e2 e3
  rw [e_X7_holdsAlone, if_pos ci]
  simp only [m31, m32, m33]
  unfold f_lf
  by_cases c0 : w = 68
  · rw [if_pos c0] at e1
    rw [if_pos e1, if_pos c0, cl_isOut hM hT.1 p0 (by omega), Option.bind_some]
    exact if_pos (sp_b01 _)
  rw [if_neg c0] at e1 e2 e3 ⊢
  by_cases c1 : w = 69
  · rw [if_pos c1] at e1
    have e1' : h 30 i = 31 := e1
    rw [if_neg (by omega), if_pos e1', if_pos c1, cl_isBusy hP hM hW hT.1 p0 p1, Option.bind_some]
    exact if_pos (sp_b01 _)
  rw [if_neg c1] at e1 e2 e3 ⊢
  by_cases c2 : w = 70
  · rw [if_pos c2] at e1 e3
    have e1' : h 30 i = 29 := e1
    have e3' : h 32 i = x := e3
    have ew := (hP.2.2.2.2.2.1 x (by omega) (by omega)).1
    simp only [Int.reduceAdd] at ew
    rw [if_neg (by omega), if_neg (by omega), if_pos e1', if_pos ci, if_pos c2, e3', cl_has hP (by decide) (by decide), Option.bind_some, show (1 : Int) + 2 = 3 from rfl, decide_eq_true (show 0 ≤ x ∧ x < V 3 by omega)]
    show (if (1 : Int) = 0 then _ else _) = _
    rw [if_neg (by decide), if_pos cp, if_pos ci]
    simp only [e3', ew, ep.1, Int.reduceAdd]
    rw [if_pos (by omega), dec_ite]
    congr 2
    by_cases z : V (54 + p) = V (25 + x)
    · rw [decide_eq_true z, decide_eq_true z.symm]
    · rw [decide_eq_false z, decide_eq_false (fun w => z w.symm)]
  rw [if_neg c2] at e1 e2 e3 ⊢
  by_cases c3 : w = 71
  · rw [if_pos c3] at e1 e3
    have e1' : h 30 i = 30 := e1
    have e3' : h 32 i = x := e3
    have ew := (hM.2.2.2.2.2.2.1 x (by omega) (by omega)).1
    simp only [Int.reduceAdd] at ew
    rw [if_neg (by omega), if_neg (by omega), if_neg (by omega), if_pos e1', if_pos ci, if_pos c3, e3', cl_has hP (by decide) (by decide), Option.bind_some, show (1 : Int) + 1 = 2 from rfl, decide_eq_true (show 0 ≤ x ∧ x < V 2 by omega)]
    show (if (1 : Int) = 0 then _ else _) = _
    rw [if_neg (by decide), if_pos cp, if_pos ci]
    simp only [e3', ew, ep.1, Int.reduceAdd]
    rw [if_pos (by omega), dec_ite]
    congr 2
    by_cases z : V (54 + p) = V (54 + x)
    · rw [decide_eq_true z, decide_eq_true z.symm]
    · rw [decide_eq_false z, decide_eq_false (fun w => z w.symm)]
  rw [if_neg c3] at e1 e2 e3 ⊢
  have e1' : h 30 i = w - 40 := e1
  have e2' : h 31 i = r - 55 := e2
  have e3' : h 32 i = y := e3
  rw [if_neg (by omega), if_neg (by omega), if_neg (by omega), if_neg (by omega), e1']
  have em : mm_M mm_prog (d + 3) 79 [(14, 15), (12, 25), (0, p), (2, w - 40)] h = some (f_ms V p w, h) := by
    rw [e_X7_measure]
    simp only [Int.reduceAdd]
    rw [if_pos cp, if_pos cp, if_pos cp, ep.1, ep.2, eq.2]
    unfold f_ms
    by_cases d0 : w = 72
    · rw [if_pos (by omega), if_pos d0]
    rw [if_neg (by omega), if_neg d0]
    by_cases d1 : w = 73
    · rw [if_pos (by omega), if_pos d1]
    rw [if_neg (by omega), if_neg d1]
    by_cases d2 : w = 74
    · rw [if_pos (by omega), if_pos d2]
    rw [if_neg (by omega), if_neg d2]
  rw [em, Option.bind_some, if_pos ci, if_pos ci]
  dsimp only
  rw [e2', e3', e_X7_compares, dec_ite, dec_ite, dec_ite]
  unfold f_cmp
  by_cases r0 : r = 60
  · rw [if_pos (show r - 55 = 5 by omega), if_pos r0, Option.bind_some]
    exact if_pos (sp_b01 _)
  rw [if_neg (show ¬ r - 55 = 5 by omega), if_neg r0]
  by_cases r1 : r = 61
  · rw [if_pos (show r - 55 = 6 by omega), if_pos r1, Option.bind_some]
    exact if_pos (sp_b01 _)
  rw [if_neg (show ¬ r - 55 = 6 by omega), if_neg r1, Option.bind_some]
  exact if_pos (sp_b01 _)
theorem cl_run (hP : pr_P h 15 V) (hM : pr_M h 25 V) (hW : pr_W V) (hT : pr_T V) {p : Int} (p0 : 0 ≤ p) (p1 : p < V 2) {N : Int → Int} {sz : Int} (hsz : h 29 3 = sz) (sz4 : sz ≤ 40) (d : Nat) : ∀ (n : Nat) (k i row : Int) (u : mm_V) (st : List Bool), f_wf N (V 2) (V 3) n k → SEG h i (f_post N n k) → 0 ≤ i → i + (f_post N n k).length ≤ sz → bvs row st → st.length + f_lv N n k ≤ 20 → ∃ row' u', mm_R mm_prog (d + 4) T_X7_holds 6 [(17, 29), (14, 15), (12, 25), (0, p), (0, row), (0, i), u] [] h = mm_R mm_prog (d + 4) T_X7_holds 6 [(17, 29), (14, 15), (12, 25), (0, p), (0, row'), (0, i + (f_post N n k).length), u'] [] h ∧ bvs row' (f_sem N V p n k :: st)
  | 0, _, _, _, _, _, w, _, _, _, _, _ => w.elim
  | n + 1, k, i, row, u, st, w, hs, i0, il, hb, hl => by
    have ih := fun k' i' row' u' st' => cl_run hP hM hW hT p0 p1 (N := N) hsz sz4 d n k' i' row' u' st'
    have m31 : (29 : Int) + 1 = 30 := rfl
    obtain ⟨-, hh⟩ := w
    rw [f_sem]
    rw [f_post] at hs il ⊢
    rw [f_lv] at hl
    rcases hh with ⟨q, z⟩ | ⟨q, z1, z2⟩ | q
    · rw [if_pos q] at hs il hl ⊢
      rw [if_pos q]
      obtain ⟨s1, s2⟩ := hs.app
      have o := s2.one
      rw [List.length_append, List.length_singleton] at il ⊢
      obtain ⟨r1, u1, e1, b1⟩ := ih _ i row u st z s1 i0 (by omega) hb hl
      generalize ((f_post N n (N (4 * k + 1))).length : Nat) = L at *
      have o1 : h 30 (i + L) = 28 := o.1
      refine ⟨mm_xor r1 1, (2, 28), ?_, bvs_not b1⟩
      rw [e1, e_X7_holds_6, hsz, if_pos (by omega), if_pos (by omega)]
      simp only [m31, o1]
      rw [if_pos trivial, pu_w (by omega) (by omega), show i + (L : Int) + 1 = i + ((L + 1 : Nat) : Int) by omega]
    · have lv1 := f_lv_pos n _ z1
      have lv2 := f_lv_pos n _ z2
      rcases q with q | q
      · rw [if_neg (by omega), if_pos q] at hs il
        rw [if_neg (by omega), if_pos (Or.inl q)] at hl
        rw [if_neg (by omega), if_pos q, if_neg (by omega), if_pos q]
        obtain ⟨s12, s3⟩ := hs.app
        obtain ⟨s1, s2⟩ := s12.app
        have o := s3.one
        rw [List.length_append, List.length_append, List.length_singleton] at il ⊢
        rw [List.length_append] at o
        obtain ⟨r1, u1, e1, b1⟩ := ih _ i row u st z1 s1 i0 (by omega) hb (by omega)
        obtain ⟨r2, u2, e2, b2⟩ := ih _ (i + (f_post N n (N (4 * k + 1))).length) r1 u1 _ z2 s2 (by omega) (by omega) b1 (by rw [List.length_cons]; omega)
        generalize ((f_post N n (N (4 * k + 1))).length : Nat) = L1 at *
        generalize ((f_post N n (N (4 * k + 2))).length : Nat) = L2 at *
        have o1 : h 30 (i + L1 + L2) = 27 := by
          have := o.1
          rw [show i + ((L1 + L2 : Nat) : Int) = i + L1 + L2 by omega] at this
          exact this
        refine ⟨mm_and (mm_ushr r2 1) (mm_or r2 (-2)), (2, 27), ?_, bvs_and b2 (by omega)⟩
        rw [e1, e2, e_X7_holds_6, hsz, if_pos (by omega), if_pos (by omega)]
        simp only [m31, o1]
        rw [if_neg (by decide), if_pos trivial, pu_w (by omega) (by omega), show i + (L1 : Int) + L2 + 1 = i + ((L1 + L2 + 1 : Nat) : Int) by omega]
      · rw [if_neg (by omega), if_neg (by omega), if_pos q] at hs il
        rw [if_neg (by omega), if_pos (Or.inr q)] at hl
        rw [if_neg (by omega), if_neg (by omega), if_pos q, if_neg (by omega), if_neg (by omega), if_pos q]
        obtain ⟨s12, s3⟩ := hs.app
        obtain ⟨s1, s2⟩ := s12.app
        have o := s3.one
        rw [List.length_append, List.length_append, List.length_singleton] at il ⊢
        rw [List.length_append] at o
        obtain ⟨r1, u1, e1, b1⟩ := ih _ i row u st z1 s1 i0 (by omega) hb (by omega)
        obtain ⟨r2, u2, e2, b2⟩ := ih _ (i + (f_post N n (N (4 * k + 1))).length) r1 u1 _ z2 s2 (by omega) (by omega) b1 (by rw [List.length_cons]; omega)
        generalize ((f_post N n (N (4 * k + 1))).length : Nat) = L1 at *
        generalize ((f_post N n (N (4 * k + 2))).length : Nat) = L2 at *
        have o1 : h 30 (i + L1 + L2) = 26 := by
          have := o.1
          rw [show i + ((L1 + L2 : Nat) : Int) = i + L1 + L2 by omega] at this
          exact this
        refine ⟨mm_or (mm_ushr r2 1) (mm_and r2 1), (2, 26), ?_, bvs_or b2 (by omega)⟩
        rw [e1, e2, e_X7_holds_6, hsz, if_pos (by omega), if_pos (by omega)]
        simp only [m31, o1]
        rw [if_neg (by decide), if_neg (by decide), if_pos trivial, pu_w (by omega) (by omega), show i + (L1 : Int) + L2 + 1 = i + ((L1 + L2 + 1 : Nat) : Int) by omega]
    · have q' := q
      unfold f_lok at q'
      rw [if_neg (by omega), if_neg (by omega), if_neg (by omega)] at hs il
      rw [if_neg (by omega), if_neg (by omega), if_neg (by omega), if_neg (by omega), if_neg (by omega), if_neg (by omega)]
      have o := hs.one
      rw [List.length_singleton] at il ⊢
      have ca := cl_alone hP hM hW hT p0 p1 i0 (by omega) q o.1 o.2.1 o.2.2 d
      have t1 : h 30 i ≠ 28 ∧ h 30 i ≠ 27 ∧ h 30 i ≠ 26 := by
        rw [o.1]
        unfold f_leaf
        generalize N (4 * k) = w at *
        by_cases c0 : w = 68
        · rw [if_pos c0]; decide
        rw [if_neg c0]
        by_cases c1 : w = 69
        · rw [if_pos c1]; decide
        rw [if_neg c1]
        by_cases c2 : w = 70
        · rw [if_pos c2]; exact ⟨(by decide : (29 : Int) ≠ 28), (by decide : (29 : Int) ≠ 27), (by decide : (29 : Int) ≠ 26)⟩
        rw [if_neg c2]
        by_cases c3 : w = 71
        · rw [if_pos c3]; exact ⟨(by decide : (30 : Int) ≠ 28), (by decide : (30 : Int) ≠ 27), (by decide : (30 : Int) ≠ 26)⟩
        rw [if_neg c3]
        refine ⟨?_, ?_, ?_⟩ <;> dsimp only <;> omega
      refine ⟨_, (2, h 30 i), ?_, bvs_push (b := f_lf V p (N (4 * k)) (N (4 * k + 1)) (N (4 * k + 2)) (N (4 * k + 3))) hb⟩
      rw [e_X7_holds_6, hsz, if_pos (by omega), if_pos (by omega), m31, if_neg t1.1, if_neg t1.2.1, if_neg t1.2.2, ca, Option.bind_some, pu_w (by omega) (by omega)]
      cases f_lf V p (N (4 * k)) (N (4 * k + 1)) (N (4 * k + 2)) (N (4 * k + 3)) <;> rfl
end PC
/-- of whom it is said, the k-th, or how many -/
def f_sdl (c : Int → Bool) (k : Int) : Nat → Int → Int → Int
  | 0, _, f => if k = -1 then f else -1
  | n + 1, p, f => bif c p then (if f = k then p else f_sdl c k n (p + 1) (f + 1)) else f_sdl c k n (p + 1) f
theorem k_said (k : Int) : Cal 141 280 [(0, k)] := by
  intro d h hI
  have hE : SE h 29 (h 135) := hI.1.2.2.2.2.2
  have w2 := hI.W.2.2.1
  rcases hE with ⟨q1, q2⟩ | ⟨q1, q2, q3, q4, q5, q6, q7⟩
  · refine ⟨-1, h, mm_up h 133 0 0, ?_, ?_, hI.th 0⟩
    · rw [e_X11_said]
      simp only [show (0 : Int) + 14 + 15 = 29 from rfl]
      rw [e_X7_isTold, if_neg (by omega), Option.bind_some]
      rfl
    · rw [e_X12_said, r135, if_pos (show mm_up h 133 0 0 135 74 = 0 by rw [th_row]; exact q1)]
  · obtain ⟨c, hc⟩ : ∃ c : Int → Bool, c = fun p => f_sem (f_nod (h 135)) (h 135) p 60 (h 135 75) := ⟨_, rfl⟩
    have hseg : SEG h 0 (f_post (f_nod (h 135)) 60 (h 135 75)) := fun j hj => by
      rw [Int.zero_add]
      exact q7 j hj
    have ch : ∀ p, 0 ≤ p → p < h 135 2 → mm_M mm_prog (d + 99) 77 [(17, 29), (14, 15), (12, 25), (0, p)] h = some (sp_b (c p), h) := fun p p0 p1 => by
      obtain ⟨r, u, e, b⟩ := cl_run hI.P hI.M hI.W hI.T p0 p1 (N := f_nod (h 135)) rfl q6 (d + 94) 60 (h 135 75) 0 0 (9, 0) [] q3 hseg (by decide) (by omega) bvs_0 (by rw [List.length_nil]; omega)
      rw [e_X7_holds, e, e_X7_holds_6, if_neg (by omega), hc]
      have bt := bvs_top b
      cases z : f_sem (f_nod (h 135)) (h 135) p 60 (h 135 75) with
      | true =>
        rw [z] at bt
        rw [if_pos (bt.mpr rfl)]
        dsimp only
        rw [z]
        rfl
      | false =>
        rw [z] at bt
        rw [if_neg (fun w => absurd (bt.mp w) (by decide))]
        dsimp only
        rw [z]
        rfl
    have cls : ∀ (n : Nat) (p f : Int), 0 ≤ p → p + n = h 135 2 → 0 ≤ f → f ≤ p → mm_R mm_prog (d + 99) T_X11_said 19 [(20, 0), (0, k), (0, f), (0, p)] [] h = some (f_sdl c k n p f, h) := by
      have e2 : h (15 + 1) 1 = h 135 2 := hI.P.2.2.1 1 (by decide) (by decide)
      intro n
      induction n with
      | zero =>
        intro p f p0 pn f0 f1
        rw [e_X11_said_19]
        simp only [n15]
        rw [e2, if_neg (by omega), f_sdl]
        by_cases z : k = -1
        · rw [if_pos z, if_pos z]
        · rw [if_neg z, if_neg z]
      | succ n ih =>
        intro p f p0 pn f0 f1
        rw [e_X11_said_19]
        simp only [n15, n25, show (0 : Int) + 14 + 15 = 29 from rfl]
        rw [e2, if_pos (by omega), ch p p0 (by omega), Option.bind_some, pu_w (x := p + 1) (by omega) (by omega), pu_w (x := f + 1) (by omega) (by omega), f_sdl]
        cases c p with
        | false => exact ih (p + 1) f (by omega) (by omega) f0 (by omega)
        | true =>
          show (if (1 : Int) = 0 then _ else _) = _
          rw [if_neg (by decide), cond_true]
          by_cases z : f = k
          · rw [if_pos z, if_pos z]
          · rw [if_neg z, if_neg z]
            exact ih (p + 1) (f + 1) (by omega) (by omega) (by omega) (by omega)
    have rfr : ∀ (n : Nat) (p f : Int), 0 ≤ p → p + n = h 135 2 → 0 ≤ f → f ≤ p → mm_R mm_prog (d + 99) T_X12_said 21 [(21, 133), (0, k), (0, f), (0, p)] [] (mm_up h 133 0 0) = some (f_sdl c k n p f, mm_up h 133 0 0) := by
      have e2 : mm_up h 133 0 0 135 2 = h 135 2 := by rw [th_row]
      have e75 : mm_up h 133 0 0 135 75 = h 135 75 := by rw [th_row]
      intro n
      induction n with
      | zero =>
        intro p f p0 pn f0 f1
        rw [e_X12_said_21, r135, e2, if_neg (by omega), f_sdl]
        by_cases z : k = -1
        · rw [if_pos z, if_pos z]
        · rw [if_neg z, if_neg z]
      | succ n ih =>
        intro p f p0 pn f0 f1
        have hh := rf_holds (h := mm_up h 133 0 0) hI.W hI.T p0 (show p < h 135 2 by omega) (d + 34) 60 (h 135 75) q3
        have ec : f_sem (f_nod (h 135)) (h 135) p 60 (h 135 75) = c p := by rw [hc]
        rw [th_vs rfl, ec] at hh
        rw [e_X12_said_21, r135, e2, e75, if_pos (by omega), hh, Option.bind_some, pu_w (x := p + 1) (by omega) (by omega), pu_w (x := f + 1) (by omega) (by omega), f_sdl]
        cases c p with
        | false => exact ih (p + 1) f (by omega) (by omega) f0 (by omega)
        | true =>
          show (if (1 : Int) = 0 then _ else _) = _
          rw [if_neg (by decide), cond_true]
          by_cases z : f = k
          · rw [if_pos z, if_pos z]
          · rw [if_neg z, if_neg z]
            exact ih (p + 1) (f + 1) (by omega) (by omega) (by omega) (by omega)
    refine ⟨f_sdl c k (h 135 2).toNat 0 0, h, mm_up h 133 0 0, ?_, ?_, hI.th 0⟩
    · rw [e_X11_said]
      simp only [show (0 : Int) + 14 + 15 = 29 from rfl]
      rw [e_X7_isTold, if_pos (by omega), Option.bind_some]
      show (if (1 : Int) = 0 then _ else _) = _
      rw [if_neg (by decide)]
      exact cls _ 0 0 (by decide) (by omega) (by decide) (by decide)
    · rw [e_X12_said, r135, if_neg (show ¬ mm_up h 133 0 0 135 74 = 0 by rw [th_row, q1]; decide)]
      exact rfr _ 0 0 (by decide) (by omega) (by decide) (by decide)
