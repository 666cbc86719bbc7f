/-! Acts, seconds, undo: the calls -/
theorem n68 : (0 : Int) + 68 = 68 := rfl
theorem n34 : (0 : Int) + 34 = 34 := rfl
/-- what acts and seconds may change -/
def q_ch (o k : Int) : Prop := (25 ≤ o ∧ o ≤ 28) ∨ (68 ≤ o ∧ o ≤ 75) ∨ (34 ≤ o ∧ o ≤ 67) ∨ o = 135 ∨ o = 138 ∨ o = 139 ∨ (o = 133 ∧ (k = 0 ∨ k = 24 ∨ k = 37))
theorem Rst.ch {h h' : mm_H} (hR : Rst h) (E : ∀ o k, ¬ q_ch o k → h' o k = h o k) : Rst h' := hR.dif (ch := q_ch) E (fun o k q z => by
  unfold q_rest q_img at q
  unfold q_ch at z
  omega)
/-- what a trial that is taken back may change -/
def q_sm (o k : Int) : Prop := (25 ≤ o ∧ o ≤ 28) ∨ (68 ≤ o ∧ o ≤ 75) ∨ o = 139 ∨ (o = 133 ∧ (k = 0 ∨ k = 37))
theorem Inv.same {h h' : mm_H} (hI : Inv h) (hM : pr_M h' 25 (h 135)) (E : ∀ o k, ¬ q_sm o k → h' o k = h o k) : Inv h' := by
  obtain ⟨hC, hA, hR⟩ := Inv_iff.mp hI
  have E' := E
  unfold q_sm at E'
  have er : h' 135 = h 135 := funext fun k => E' 135 k (by omega)
  refine Inv_iff.mpr ⟨?_, ?_, ?_⟩
  · rw [er]
    exact hC.hd (hd.rf _) hI.T hM (fun o h0 h1 h2 k => E' o k (by omega)) (fun k => E' 140 k (by omega))
  · rw [er]
    exact hA.dif (ch := q_sm) hC.1 (hd.rf _) E (fun o k q z => by unfold q_sm at z; omega)
  · exact hR.dif (ch := q_sm) E (fun o k q z => by
      unfold q_rest q_img at q
      unfold q_sm at z
      omega)
/-- class: V is copied to 68, then 25 goes to V', then the copy is kept; reference: a snap, then whatever leads to V' -/
theorem k_keep {h h2 : mm_H} {V' : Int → Int} (hI : Inv h) (hh : hd (h 135) V') (hT : pr_T V') (M : pr_M h2 25 V') (M68 : pr_M h2 68 (h 135)) (E : ∀ o, (o < 25 ∨ 28 < o) → (o < 68 ∨ 75 < o) → ∀ k, h2 o k = h o k) (d e : Nat) : ∃ h3 h4, mm_M mm_prog (d + 2) 47 [(13, 34), (12, 68)] h2 = some (0, h3) ∧ h3 135 = h 135 ∧ mm_M mm_prog (e + 1) 209 [(21, 133)] (mm_up h3 133 0 0) = some (0, h4) ∧ h4 135 = h 135 ∧ ∀ h5, (∀ o k, ¬ (o = 139 ∨ (o = 133 ∧ k = 37)) → h5 o k = vs h4 V' o k) → Inv h5 := by
  have A1 := hI.2.1.1
  have A2 := hI.2.1.2.1
  have A3 := hI.2.1.2.2.1
  have e341 : h2 34 1 = h 34 1 := E 34 (by decide) (by decide) 1
  have e342 : h2 34 2 = h 34 2 := E 34 (by decide) (by decide) 2
  obtain ⟨h3, e3, k1, k2, k3, k4⟩ := cl_keep (h := h2) (V := h 135) M68 hI.W hI.S (by rw [e341]; exact A1) (by rw [e342]; exact A2) d
  rw [e341] at k1 k3 k4
  rw [e342] at k2
  have k4' : ∀ o k, ¬ ((o = 34 ∧ (k = 1 ∨ k = 2)) ∨ (36 + 4 * ((h 34 1 + 1) % 8) ≤ o ∧ o ≤ 39 + 4 * ((h 34 1 + 1) % 8))) → h3 o k = h2 o k := k4
  have er3 : h3 135 = h 135 := funext fun k => (k4' 135 k (by omega)).trans (E 135 (by decide) (by decide) k)
  have e24 : mm_up h3 133 0 0 133 24 = h 34 2 := by
    rw [pu_sl (by decide), k4' 133 24 (by omega), E 133 (by decide) (by decide), A3]
  obtain ⟨h4, e4, D4, a4, b4, c4⟩ := rf_snap (h := mm_up h3 133 0 0) (by rw [e24]; exact A2) e
  have D4' : ∀ o k, ¬ (o = 138 ∨ (o = 133 ∧ k = 24)) → h4 o k = mm_up h3 133 0 0 o k := D4
  rw [e24] at a4 b4 c4
  have er4 : h4 135 = h 135 := by
    rw [← er3]
    exact funext fun k => (D4' 135 k (by omega)).trans (pu_ob (by decide))
  refine ⟨h3, h4, e3, er3, e4, er4, fun h5 E5 => ?_⟩
  have q5 : ∀ o k, ¬ (o = 135 ∨ o = 139 ∨ (o = 133 ∧ k = 37)) → h5 o k = h4 o k := fun o k q => by
    rw [E5 o k (by omega), vs_ne (by omega)]
  have D2 : ∀ o k, (q_town o k ∨ q_past o k) → ¬ (o = 135 ∨ o = 138 ∨ (o = 133 ∧ k = 24)) → h5 o k = h3 o k := fun o k q n => by
    unfold q_town q_past at q
    rw [q5 o k (by omega), D4' o k (by omega)]
    unfold mm_up
    rw [if_neg (by omega)]
  have D1 : ∀ o k, (q_town o k ∨ q_past o k) → ¬ ((25 ≤ o ∧ o ≤ 28) ∨ (o = 34 ∧ (k = 1 ∨ k = 2)) ∨ (36 + 4 * ((h 34 1 + 1) % 8) ≤ o ∧ o ≤ 39 + 4 * ((h 34 1 + 1) % 8))) → h3 o k = h o k := fun o k q n => by
    unfold q_town q_past at q
    rw [k4' o k (by omega), E o (by omega) (by omega)]
  have r2 : h5 135 = V' := funext fun k => (E5 135 k (by omega)).trans (vs_at h4 V' k)
  have SP := kept_SP hI hh hT (M.ob (fun o h0 h1 k => k4' o k (by omega))) k3 k1 k2 D1 D2 r2 (by rw [q5 133 24 (by omega)]; exact a4) (fun k k0 k1 => by
    rw [q5 138 k (by omega), b4 k k0 k1, pu_ob (by decide), k4' 138 _ (by omega), E 138 (by decide) (by decide)]) (fun j j0 j1 => by
    rw [q5 138 _ (by omega), c4 j j0 j1, pu_ob (by decide), er3])
  refine Inv_iff.mpr ⟨SP.1, SP.2, (Inv_iff.mp hI).2.2.ch (fun o k q => ?_)⟩
  unfold q_ch at q
  rw [q5 o k (by omega), D4' o k (by omega)]
  unfold mm_up
  rw [if_neg (by omega), k4' o k (by omega), E o (by omega) (by omega)]
theorem k_act {h : mm_H} (hI : Inv h) {a x : Int} (hm : f_may (h 135) a x) (d : Nat) : ∃ h1 h2, mm_M mm_prog (d + 20) 146 [(20, 0), (0, a), (0, x)] h = some (f_why (h 135) a x, h1) ∧ h1 135 = h 135 ∧ mm_M mm_prog (d + 20) 214 [(21, 133), (0, a), (0, x), (0, 1)] (mm_up h1 133 0 0) = some (f_why (h 135) a x, h2) ∧ Inv h2 := by
  obtain ⟨h1, e1, M1, F1⟩ := cl_copyM (a := 68) (b := 25) hI.M hI.W hI.S (by decide) (d + 18)
  have P1 := hI.P.fr F1 (by decide)
  have N1 : pr_M h1 25 (h 135) := hI.M.ob (fun o h0 h1 k => F1 o (by omega) k)
  obtain ⟨h2, e2, M2, F2⟩ := cl_act P1 N1 hI.W hI.T hm (by decide) (d + 15)
  have E : ∀ o, (o < 25 ∨ 28 < o) → (o < 68 ∨ 75 < o) → ∀ k, h2 o k = h o k := fun o q1 q2 k => (F2 o (by omega) k).trans (F1 o (by omega) k)
  by_cases c : f_why (h 135) a x = 0
  · rw [if_pos c] at M2
    obtain ⟨lT, lH⟩ := f_live_ok hI.W hI.T hm
    obtain ⟨h3, h4, e3, er3, e4, er4, fin⟩ := k_keep hI lH lT M2 (M1.ob (fun o h0 h1 k => F2 o (by omega) k)) E (d + 16) (d + 18)
    refine ⟨h3, vs h4 (f_live (h 135) a x), ?_, er3, ?_, fin _ (fun _ _ _ => rfl)⟩
    · rw [e_X11_actKept]
      simp only [n15, n25, n68]
      rw [e1, Option.bind_some]
      dsimp only
      rw [e2, Option.bind_some]
      dsimp only
      rw [if_pos c, e_X11_keepBefore, if_neg (by decide)]
      simp only [n34, n68]
      rw [e3, Option.bind_some, Option.bind_some]
    · have eg : mm_up h3 133 0 0 = vs (mm_up h3 133 0 0) (h 135) := by
        have := rth h3 0
        rw [er3] at this
        exact this
      have hw := rf_why (h := mm_up h3 133 0 0) hI.W hI.T hm (d + 15)
      rw [← eg] at hw
      have hl := rf_live (h := h4) hI.W hI.T hm (d + 16)
      rw [vs_id er4] at hl
      rw [e_X12_act, if_neg (by decide), hw, Option.bind_some]
      dsimp only
      rw [if_pos c]
      rw [e4, Option.bind_some]
      dsimp only
      rw [hl, Option.bind_some, c]
  · rw [if_neg c] at M2
    have er : h2 135 = h 135 := funext fun k => E 135 (by decide) (by decide) k
    refine ⟨h2, mm_up h2 133 0 0, ?_, er, ?_, ?_⟩
    · rw [e_X11_actKept]
      simp only [n15, n25, n68]
      rw [e1, Option.bind_some]
      dsimp only
      rw [e2, Option.bind_some]
      dsimp only
      rw [if_neg c, e_X11_keepBefore, if_pos rfl, Option.bind_some]
    · have eg : mm_up h2 133 0 0 = vs (mm_up h2 133 0 0) (h 135) := by
        have := rth h2 0
        rw [er] at this
        exact this
      have hw := rf_why (h := mm_up h2 133 0 0) hI.W hI.T hm (d + 15)
      rw [← eg] at hw
      rw [e_X12_act, if_neg (by decide), hw, Option.bind_some]
      dsimp only
      rw [if_neg c]
    · refine hI.same (M2.ob (fun o h0 h1 k => pu_ob (by omega))) (fun o k q => ?_)
      unfold q_sm at q
      unfold mm_up
      rw [if_neg (by omega), E o (by omega) (by omega)]
theorem f_may0 (V : Int → Int) {a : Int} (h0 : 0 ≤ a) (h1 : a ≤ 2) : f_may V a 0 := ⟨by omega, fun q => by omega, fun q => by omega⟩
theorem k_fright : Cal 112 215 [] := by
  intro d h hI
  obtain ⟨h1, h2, e1, -, e2, I2⟩ := k_act hI (f_may0 _ (a := 0) (by decide) (by decide)) (d + 79)
  exact ⟨_, h1, h2, by rw [e_X11_fright, e1, Option.bind_some], by rw [e_X12_fright, e2, Option.bind_some], I2⟩
theorem k_cure : Cal 113 216 [] := by
  intro d h hI
  obtain ⟨h1, h2, e1, -, e2, I2⟩ := k_act hI (f_may0 _ (a := 1) (by decide) (by decide)) (d + 79)
  exact ⟨_, h1, h2, by rw [e_X11_cure, e1, Option.bind_some], by rw [e_X12_cure, e2, Option.bind_some], I2⟩
theorem k_fly : Cal 114 217 [] := by
  intro d h hI
  obtain ⟨h1, h2, e1, -, e2, I2⟩ := k_act hI (f_may0 _ (a := 2) (by decide) (by decide)) (d + 79)
  exact ⟨_, h1, h2, by rw [e_X11_fly, e1, Option.bind_some], by rw [e_X12_fly, e2, Option.bind_some], I2⟩
theorem th_vs {h1 : mm_H} {V : Int → Int} (er : h1 135 = V) : vs (mm_up h1 133 0 0) V = mm_up h1 133 0 0 := vs_id ((th_row h1 0).trans er)
theorem k_relieve (x : Int) : Cal 115 218 [(0, x)] := by
  intro d h hI
  by_cases c : 0 ≤ x ∧ x ≤ h 135 1
  · obtain ⟨h1, h2, e1, er, e2, I2⟩ := k_act hI (a := 3) (x := x) ⟨by decide, fun _ => c, fun q => by omega⟩ (d + 79)
    refine ⟨f_why (h 135) 3 x, h1, h2, ?_, ?_, I2⟩
    · rw [e_X11_relieve]
      simp only [n15]
      rw [cl_mayBeat hI.P, Option.bind_some, decide_eq_true c]
      show (if (1 : Int) = 0 then _ else _) = _
      rw [if_neg (by decide)]
      dsimp only
      rw [e1, Option.bind_some]
    · have hb := rf_isBeater (V := h 135) (h := mm_up h1 133 0 0) (x := x) (d + 97)
      rw [th_vs er, decide_eq_true c] at hb
      rw [e_X12_relieve, hb, Option.bind_some]
      dsimp only
      rw [show sp_b true = 1 from rfl, e2, Option.bind_some]
  · refine ⟨-1, h, mm_up h 133 0 0, ?_, ?_, hI.th 0⟩
    · rw [e_X11_relieve]
      simp only [n15]
      rw [cl_mayBeat hI.P, Option.bind_some, decide_eq_false c]; rfl
    · have hb := rf_isBeater (V := h 135) (h := mm_up h 133 0 0) (x := x) (d + 97)
      rw [th_vs rfl, decide_eq_false c] at hb
      rw [e_X12_relieve, hb, Option.bind_some]
      dsimp only
      rw [show sp_b false = 0 from rfl, e_X12_act, if_pos rfl, Option.bind_some]
theorem k_leave (x : Int) : Cal 116 219 [(0, x)] := by
  intro d h hI
  by_cases c : 0 ≤ x ∧ x < h 135 2
  · obtain ⟨h1, h2, e1, er, e2, I2⟩ := k_act hI (a := 4) (x := x) ⟨by decide, fun q => by omega, fun _ => c⟩ (d + 79)
    refine ⟨f_why (h 135) 4 x, h1, h2, ?_, ?_, I2⟩
    · rw [e_X11_leave]
      simp only [n15]
      rw [cl_has hI.P (by decide) (by decide), Option.bind_some]
      simp only [Int.reduceAdd]
      rw [decide_eq_true c]
      show (if (1 : Int) = 0 then _ else _) = _
      rw [if_neg (by decide), e1, Option.bind_some]
    · have hb := rf_isPerson (V := h 135) (h := mm_up h1 133 0 0) hI.W (x := x) (d + 97)
      rw [th_vs er, decide_eq_true c] at hb
      rw [e_X12_leave, hb, Option.bind_some]
      dsimp only
      rw [show sp_b true = 1 from rfl, e2, Option.bind_some]
  · refine ⟨-1, h, mm_up h 133 0 0, ?_, ?_, hI.th 0⟩
    · rw [e_X11_leave]
      simp only [n15]
      rw [cl_has hI.P (by decide) (by decide), Option.bind_some]
      simp only [Int.reduceAdd]
      rw [decide_eq_false c]; rfl
    · have hb := rf_isPerson (V := h 135) (h := mm_up h 133 0 0) hI.W (x := x) (d + 97)
      rw [th_vs rfl, decide_eq_false c] at hb
      rw [e_X12_leave, hb, Option.bind_some]
      dsimp only
      rw [show sp_b false = 0 from rfl, e_X12_act, if_pos rfl, Option.bind_some]
theorem k_join (x : Int) : Cal 117 220 [(0, x)] := by
  intro d h hI
  by_cases c : 0 ≤ x ∧ x < h 135 2
  · obtain ⟨h1, h2, e1, er, e2, I2⟩ := k_act hI (a := 5) (x := x) ⟨by decide, fun q => by omega, fun _ => c⟩ (d + 79)
    refine ⟨f_why (h 135) 5 x, h1, h2, ?_, ?_, I2⟩
    · rw [e_X11_join]
      simp only [n15]
      rw [cl_has hI.P (by decide) (by decide), Option.bind_some]
      simp only [Int.reduceAdd]
      rw [decide_eq_true c]
      show (if (1 : Int) = 0 then _ else _) = _
      rw [if_neg (by decide), e1, Option.bind_some]
    · have hb := rf_isPerson (V := h 135) (h := mm_up h1 133 0 0) hI.W (x := x) (d + 97)
      rw [th_vs er, decide_eq_true c] at hb
      rw [e_X12_join, hb, Option.bind_some]
      dsimp only
      rw [show sp_b true = 1 from rfl, e2, Option.bind_some]
  · refine ⟨-1, h, mm_up h 133 0 0, ?_, ?_, hI.th 0⟩
    · rw [e_X11_join]
      simp only [n15]
      rw [cl_has hI.P (by decide) (by decide), Option.bind_some]
      simp only [Int.reduceAdd]
      rw [decide_eq_false c]; rfl
    · have hb := rf_isPerson (V := h 135) (h := mm_up h 133 0 0) hI.W (x := x) (d + 97)
      rw [th_vs rfl, decide_eq_false c] at hb
      rw [e_X12_join, hb, Option.bind_some]
      dsimp only
      rw [show sp_b false = 0 from rfl, e_X12_act, if_pos rfl, Option.bind_some]
