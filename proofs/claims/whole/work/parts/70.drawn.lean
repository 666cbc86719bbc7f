/-! drawn, odds -/
theorem k_drawn (n x : Int) : Cal 136 259 [(0, n), (0, x)] := by
  intro d h hI
  have b48 := hI.S.1
  by_cases c : 1 ≤ n ∧ n ≤ 60
  · obtain ⟨h1, e1, M1, F1⟩ := cl_copyM (a := 68) (b := 25) hI.M hI.W hI.S (by decide) (d + 98)
    have P1 := hI.P.fr F1 (by decide)
    have N1 : pr_M h1 25 (h 135) := hI.M.ob (fun o h0 h1 k => F1 o (by omega) k)
    obtain ⟨h2, e2, M2, F2, I2⟩ := cl_passDrawn (x := x) P1 N1 hI.W hI.T (n := n) (by omega) c.2 (by decide) (d + 91)
    obtain ⟨m, hm⟩ : ∃ m, m = min n (600 - h 135 48) := ⟨_, rfl⟩
    rw [← hm] at e2 M2 I2
    have E : ∀ o, (o < 25 ∨ 28 < o) → (o < 68 ∨ 75 < o) → ∀ k, h2 o k = h o k := fun o q1 q2 k => (F2 o (by omega) k).trans (F1 o (by omega) k)
    by_cases c2 : h 135 48 = 600
    · have m0 : m = 0 := by omega
      have er : h2 135 = h 135 := funext fun k => E 135 (by decide) (by decide) k
      refine ⟨0, h2, mm_up h2 133 0 0, ?_, ?_, ?_⟩
      · rw [e_X11_drawn, if_neg (by omega), if_neg (by omega)]
        simp only [n15, n25, n68]
        rw [e1, Option.bind_some]
        dsimp only
        rw [e2, Option.bind_some]
        dsimp only
        rw [if_neg (by omega), e_X11_keepBefore, if_pos rfl, Option.bind_some, m0]
      · rw [e_X12_drawn, rf_isIn, Option.bind_some]
        dsimp only
        rw [decide_eq_true c, show sp_b true = 1 from rfl, if_neg (by decide), r135, if_pos (show mm_up h2 133 0 0 135 48 = 600 by rw [th_row, er]; exact c2)]
      · have M3 : pr_M h2 25 (h 135) := by
          rw [m0] at M2
          exact M2
        refine hI.same (M3.ob (fun o h0 h1 k => pu_ob (by omega))) (fun o k q => ?_)
        unfold q_sm at q
        unfold mm_up
        rw [if_neg (by omega), E o (by omega) (by omega)]
    · obtain ⟨h3, h4, e3, er3, e4, er4, fin⟩ := k_keep hI I2.2.1 I2.1 M2 (M1.ob (fun o h0 h1 k => F2 o (by omega) k)) E (d + 96) (d + 98)
      have hp := rf_drawSeconds (h := h4) (x := x) hI.W hI.T (n := n) (by omega) c.2 (d + 92)
      rw [vs_id er4, ← hm] at hp
      refine ⟨m, h3, sdh h4 (f_dss m.toNat (x, h 135)).1 (f_dss m.toNat (x, h 135)).2, ?_, ?_, fin _ (fun o k q => ?_)⟩
      · rw [e_X11_drawn, if_neg (by omega), if_neg (by omega)]
        simp only [n15, n25, n68]
        rw [e1, Option.bind_some]
        dsimp only
        rw [e2, Option.bind_some]
        dsimp only
        rw [if_pos (by omega), e_X11_keepBefore, if_neg (by decide)]
        simp only [n34, n68]
        rw [e3, Option.bind_some, Option.bind_some]
      · rw [e_X12_drawn, rf_isIn, Option.bind_some]
        dsimp only
        rw [decide_eq_true c, show sp_b true = 1 from rfl, if_neg (by decide), r135, if_neg (show ¬ mm_up h3 133 0 0 135 48 = 600 by rw [th_row, er3]; exact c2), e4, Option.bind_some]
        dsimp only
        rw [hp, Option.bind_some]
      · unfold sdh vs mm_up
        by_cases z : o = 135
        · rw [if_pos z, if_pos z]
        · rw [if_neg z, if_neg z, if_neg (by omega)]
  · refine ⟨-1, h, mm_up h 133 0 0, ?_, ?_, hI.th 0⟩
    · rw [e_X11_drawn]
      by_cases c2 : n < 1
      · rw [if_pos c2]
      · rw [if_neg c2, if_pos (by omega)]
    · rw [e_X12_drawn, rf_isIn, Option.bind_some]
      dsimp only
      rw [decide_eq_false c]; rfl
theorem asd_up {h : mm_H} {V : Int → Int} {n x : Int} : mm_up (asd h V n) 133 37 x = asd (mm_up h 133 37 x) V n := by
  funext o k
  unfold mm_up asd
  by_cases c : o = 133 ∧ k = 37
  · rw [if_pos c, if_neg (by omega)]
    exact (if_pos c).symm
  · rw [if_neg c]
    by_cases c2 : o = 139 ∧ 0 ≤ k ∧ k < n
    · rw [if_pos c2, if_pos c2]
    · rw [if_neg c2, if_neg c2]
      exact (if_neg c).symm
/-- one seed more -/
def f_od (V : Int → Int) (w x i acc : Int) : Int := if (f_dss (min 60 (600 - V 48)).toNat (mm_w (x + i), V)).2 (68 + w) = 0 then acc + 1 else acc
theorem k_odds (w n x : Int) : Cal 137 260 [(0, w), (0, n), (0, x)] := by
  intro d h hI
  have P := hI.P
  have b48 := hI.S.1
  have w3 := hI.W.2.2.2.1
  by_cases c : 0 ≤ w ∧ w < h 135 3
  · by_cases c2 : 1 ≤ n ∧ n ≤ 30
    · obtain ⟨⟨h1, a1⟩, r1, F1, e1, b1⟩ := sp_it_rel (R := fun i (s : mm_H × Int) => mm_R mm_prog (d + 99) T_X11_odds 34 [(20, 0), (0, w), (0, n), (0, x), (0, s.2), (0, i)] [] s.1) (f := f_od (h 135) w x) (I := fun i s z => fr 72 h s.1 ∧ s.2 = z ∧ 0 ≤ z ∧ z ≤ i) (N := n) (fun i s z i0 i1 hh => by
        obtain ⟨s, a⟩ := s
        obtain ⟨sF, sa, z0, z1⟩ := hh
        dsimp only at sF sa ⊢
        subst sa
        have P1 := P.fr sF (by decide)
        have M1 : pr_M s 25 (h 135) := hI.M.ob (fun o h0 h1 k => sF o (by omega) k)
        obtain ⟨s1, q1, M2, F2⟩ := cl_copyM (a := 72) (b := 25) M1 hI.W hI.S (by decide) (d + 98)
        have P2 := P1.fr F2 (by decide)
        obtain ⟨s2, q2, M3, F3, I3⟩ := cl_passDrawn (x := mm_w (x + i)) P2 M2 hI.W hI.T (n := 60) (by decide) (by decide) (by decide) (d + 91)
        have y3 : w < (f_dss (min 60 (600 - h 135 48)).toNat (mm_w (x + i), h 135)).2 3 := by rw [I3.2.1 3 (by omega)]; exact c.2
        have FF := (sF.tr F2).tr F3
        rw [e_X11_odds_34, if_pos i1]
        simp only [n15, n25, n72]
        rw [q1, Option.bind_some]
        dsimp only
        rw [q2, Option.bind_some]
        dsimp only
        rw [cl_isDone M3 (I3.2.1.W hI.W) I3.1.1 c.1 y3, Option.bind_some, pu_w (x := i + 1) (by omega) (by omega), pu_w (x := a + 1) (by omega) (by omega)]
        dsimp only
        unfold f_od
        by_cases z : (f_dss (min 60 (600 - h 135 48)).toNat (mm_w (x + i), h 135)).2 (68 + w) = 0
        · rw [decide_eq_true z, if_pos z]
          exact ⟨(s2, a + 1), rfl, FF, rfl, by omega, by omega⟩
        · rw [decide_eq_false z, if_neg z]
          exact ⟨(s2, a), rfl, FF, rfl, by omega, by omega⟩) n.toNat 0 (h, 0) 0 (by omega) (by omega) ⟨fr_rf 72 h, rfl, by omega, by omega⟩
      dsimp only at r1 F1 e1
      have I1 := hI.tr (Or.inr rfl) F1
      have er : h1 135 = h 135 := fr_row F1 (by decide)
      obtain ⟨g, hg⟩ : ∃ g, g = mm_up h1 133 0 0 := ⟨_, rfl⟩
      have gr : g 135 = h 135 := by rw [hg]; exact (th_row h1 0).trans er
      have gI : Inv g := by rw [hg]; exact I1.th 0
      obtain ⟨⟨h2, a2⟩, r2, ⟨g2, G2, eh2⟩, e2, b2⟩ := sp_it_rel (R := fun i (s : mm_H × Int) => mm_R mm_prog (d + 99) T_X12_odds 35 [(21, 133), (0, w), (0, n), (0, x), (0, s.2), (0, i)] [] s.1) (f := f_od (h 135) w x) (I := fun i s z => (∃ g', (∀ o k, ¬ (o = 133 ∧ k = 37) → g' o k = g o k) ∧ s.1 = vs (asd g' (h 135) 26) (h 135)) ∧ s.2 = z ∧ 0 ≤ z ∧ z ≤ i) (N := n) (fun i s z i0 i1 hh => by
        obtain ⟨s, a⟩ := s
        obtain ⟨⟨g', G', es⟩, sa, z0, z1⟩ := hh
        dsimp only at es sa ⊢
        subst sa
        subst es
        have hp := rf_drawSeconds (h := asd g' (h 135) 26) (x := mm_w (x + i)) hI.W hI.T (n := 60) (by decide) (by decide) (d + 92)
        obtain ⟨k9, q2, M3, F3, I3⟩ := cl_passDrawn (x := mm_w (x + i)) hI.P hI.M hI.W hI.T (n := 60) (by decide) (by decide) (by decide) (d + 91)
        rw [e_X12_odds_35, if_pos i1, hp, Option.bind_some, pu_w (x := 68 + w) (by omega) (by omega), if_pos (by omega), r135, pu_w (x := i + 1) (by omega) (by omega), pu_w (x := a + 1) (by omega) (by omega)]
        dsimp only
        have e68 : ∀ y v, sdh (asd g' (h 135) 26) y v 135 (68 + w) = v (68 + w) := fun y v => by
          unfold sdh
          rw [vs_at]
        have tb := rf_takeBack (h := mm_up g' 133 37 (f_dss (min 60 (600 - h 135 48)).toNat (mm_w (x + i), h 135)).1) I3.2.1 (d + 98)
        rw [← asd_up] at tb
        change mm_M mm_prog (d + 98 + 1) 230 [(21, 133)] (sdh (asd g' (h 135) 26) _ _) = _ at tb
        have G3 : ∀ o k, ¬ (o = 133 ∧ k = 37) → mm_up g' 133 37 (f_dss (min 60 (600 - h 135 48)).toNat (mm_w (x + i), h 135)).1 o k = g o k := fun o k q => by
          unfold mm_up
          rw [if_neg q]
          exact G' o k q
        obtain ⟨s9, es9⟩ : ∃ s9, s9 = vs (mm_up (asd g' (h 135) 26) 133 37 (f_dss (min 60 (600 - h 135 48)).toNat (mm_w (x + i), h 135)).1) (h 135) := ⟨_, rfl⟩
        rw [← es9] at tb
        rw [tb, Option.bind_some]
        dsimp only
        unfold f_od
        by_cases z : (f_dss (min 60 (600 - h 135 48)).toNat (mm_w (x + i), h 135)).2 (68 + w) = 0
        · rw [if_pos ((e68 _ _).trans z), if_pos z]
          exact ⟨(s9, a + 1), rfl, ⟨_, G3, by rw [← asd_up]; exact es9⟩, rfl, by omega, by omega⟩
        · rw [if_neg (fun w => z ((e68 _ _).symm.trans w)), if_neg z]
          exact ⟨(s9, a), rfl, ⟨_, G3, by rw [← asd_up]; exact es9⟩, rfl, by omega, by omega⟩) n.toNat 0 (vs (asd g (h 135) 26) (h 135), 0) 0 (by omega) (by omega) ⟨⟨g, fun _ _ _ => rfl, rfl⟩, rfl, by omega, by omega⟩
      dsimp only at r2 eh2 e2
      refine ⟨a1, h1, h2, ?_, ?_, ?_⟩
      · rw [e_X11_odds]
        simp only [n15]
        rw [cl_has P (by decide) (by decide), Option.bind_some]
        simp only [Int.reduceAdd]
        rw [decide_eq_true c]
        show (if (1 : Int) = 0 then _ else _) = _
        rw [if_neg (by decide), if_neg (by omega), if_neg (by omega), r1, e_X11_odds_34, if_neg (by omega)]
      · have hw := rf_isWork (V := h 135) (h := g) hI.W (x := w) (d + 97)
        have ha := rf_layAside (V := h 135) (h := g) (d + 98)
        rw [vs_id gr, decide_eq_true c] at hw
        rw [vs_id gr] at ha
        rw [e_X12_odds, ← hg, hw, Option.bind_some]
        show (if (1 : Int) = 0 then _ else _) = _
        rw [if_neg (by decide)]
        dsimp only
        rw [rf_isIn, Option.bind_some, decide_eq_true c2]
        show (if (1 : Int) = 0 then _ else _) = _
        rw [if_neg (by decide)]
        dsimp only
        rw [ha, Option.bind_some]
        dsimp only
        rw [r2, e_X12_odds_35, if_neg (by omega), e2, e1]
      · have r3 : g2 135 = h 135 := by
          rw [← gr]
          exact funext fun k => G2 135 k (by omega)
        rw [eh2, asd_vs r3]
        refine Inv_as gI (fun o k q => ?_)
        unfold asd
        rw [if_neg (fun z => q (Or.inl z.1))]
        exact G2 o k (fun z => q (Or.inr ⟨z.1, Or.inr z.2⟩))
    · refine ⟨-1, h, mm_up h 133 0 0, ?_, ?_, hI.th 0⟩
      · rw [e_X11_odds]
        simp only [n15]
        rw [cl_has P (by decide) (by decide), Option.bind_some]
        simp only [Int.reduceAdd]
        rw [decide_eq_true c]
        show (if (1 : Int) = 0 then _ else _) = _
        rw [if_neg (by decide)]
        by_cases z : n < 1
        · rw [if_pos z]
        · rw [if_neg z, if_pos (by omega)]
      · have hw := rf_isWork (V := h 135) (h := mm_up h 133 0 0) hI.W (x := w) (d + 97)
        rw [th_vs rfl, decide_eq_true c] at hw
        rw [e_X12_odds, hw, Option.bind_some]
        show (if (1 : Int) = 0 then _ else _) = _
        rw [if_neg (by decide)]
        dsimp only
        rw [rf_isIn, Option.bind_some, decide_eq_false c2]
        rfl
  · refine ⟨-1, h, mm_up h 133 0 0, ?_, ?_, hI.th 0⟩
    · rw [e_X11_odds]
      simp only [n15]
      rw [cl_has P (by decide) (by decide), Option.bind_some]
      simp only [Int.reduceAdd]
      rw [decide_eq_false c]; rfl
    · have hw := rf_isWork (V := h 135) (h := mm_up h 133 0 0) hI.W (x := w) (d + 97)
      rw [th_vs rfl, decide_eq_false c] at hw
      rw [e_X12_odds, hw, Option.bind_some]
      rfl
