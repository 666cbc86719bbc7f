/-! seconds, undo -/
theorem th_eg {h3 : mm_H} {V : Int → Int} (er : h3 135 = V) : mm_up h3 133 0 0 = vs (mm_up h3 133 0 0) V := (th_vs er).symm
theorem k_seconds (n : Int) : Cal 118 225 [(0, n)] := by
  intro d h hI
  have b48 := hI.S.1
  by_cases c : 1 ≤ n ∧ n ≤ 60
  · obtain ⟨h1, e1, M1, F1⟩ := cl_copyM (a := 68) (b := 25) hI.M hI.W hI.S (by decide) (d + 98)
    have P1 := hI.P.fr F1 (by decide)
    have N1 : pr_M h1 25 (h 135) := hI.M.ob (fun o h0 h1 k => F1 o (by omega) k)
    obtain ⟨m, hm⟩ : ∃ m, m = min n (600 - h 135 48) := ⟨_, rfl⟩
    have hm0 : 0 ≤ m ∧ m ≤ 60 ∧ h 135 48 + m ≤ 600 := by omega
    obtain ⟨h2, e2, M2, F2⟩ := cl_passAll P1 N1 hI.W hI.T hm0.1 hm0.2.1 (by decide) (d + 93)
    rw [if_pos hm0.2.2] at e2 M2
    have E : ∀ o, (o < 25 ∨ 28 < o) → (o < 68 ∨ 75 < o) → ∀ k, h2 o k = h o k := fun o q1 q2 k => (F2 o (by omega) k).trans (F1 o (by omega) k)
    have ea : mm_M mm_prog (d + 99) 26 [(12, 25), (14, 15), (0, 6), (0, m)] h1 = some (0, h2) := by
      rw [e_X2_act, if_neg (by decide), if_neg (by decide), if_neg (by decide), if_neg (by decide), if_neg (by decide), if_neg (by decide), if_pos rfl, e2, Option.bind_some]
    have sI := f_secs_ok hI.W hI.T (n := m.toNat) (by omega)
    by_cases c2 : h 135 48 = 600
    · have m0 : m = 0 := by omega
      have er : h2 135 = h 135 := funext fun k => E 135 (by decide) (by decide) k
      refine ⟨0, h2, mm_up h2 133 0 0, ?_, ?_, ?_⟩
      · rw [e_X11_seconds, if_neg (by omega), if_neg (by omega)]
        simp only [n15, n25, n68]
        rw [e1, Option.bind_some]
        dsimp only
        rw [cl_left N1 hI.S, Option.bind_some]
        dsimp only
        rw [← hm, ea, Option.bind_some]
        dsimp only
        rw [if_neg (by omega), e_X11_keepBefore, if_pos rfl, Option.bind_some, m0]
      · rw [e_X12_seconds, rf_isIn, Option.bind_some]
        dsimp only
        rw [decide_eq_true c, show sp_b true = 1 from rfl, if_neg (by decide), r135, if_pos (show mm_up h2 133 0 0 135 48 = 600 by rw [th_row, er]; exact c2)]
      · have M3 : pr_M h2 25 (h 135) := by
          rw [m0] at M2
          exact M2
        refine hI.same (M3.ob (fun o h0 h1 k => pu_ob (by omega))) (fun o k q => ?_)
        unfold q_sm at q
        unfold mm_up
        rw [if_neg (by omega), E o (by omega) (by omega)]
    · obtain ⟨h3, h4, e3, er3, e4, er4, fin⟩ := k_keep hI sI.2.1 sI.1 M2 (M1.ob (fun o h0 h1 k => F2 o (by omega) k)) E (d + 96) (d + 98)
      refine ⟨m, h3, vs h4 (f_secs m.toNat (h 135)), ?_, ?_, fin _ (fun _ _ _ => rfl)⟩
      · rw [e_X11_seconds, if_neg (by omega), if_neg (by omega)]
        simp only [n15, n25, n68]
        rw [e1, Option.bind_some]
        dsimp only
        rw [cl_left N1 hI.S, Option.bind_some]
        dsimp only
        rw [← hm, ea, Option.bind_some]
        dsimp only
        rw [if_pos (by omega), e_X11_keepBefore, if_neg (by decide)]
        simp only [n34, n68]
        rw [e3, Option.bind_some, Option.bind_some]
      · have hp := rf_passSeconds (h := h4) hI.W hI.T (n := n) (by omega) c.2 (d + 94)
        rw [vs_id er4, ← hm] at hp
        rw [e_X12_seconds, rf_isIn, Option.bind_some]
        dsimp only
        rw [decide_eq_true c, show sp_b true = 1 from rfl, if_neg (by decide), r135, if_neg (show ¬ mm_up h3 133 0 0 135 48 = 600 by rw [th_row, er3]; exact c2), e4, Option.bind_some]
        dsimp only
        rw [hp, Option.bind_some]
  · refine ⟨-1, h, mm_up h 133 0 0, ?_, ?_, hI.th 0⟩
    · rw [e_X11_seconds]
      by_cases c2 : n < 1
      · rw [if_pos c2]
      · rw [if_neg c2, if_pos (by omega)]
    · rw [e_X12_seconds, rf_isIn, Option.bind_some]
      dsimp only
      rw [decide_eq_false c]; rfl
theorem k_undo : Cal 119 221 [] := by
  intro d h hI
  obtain ⟨hC, hA, hR⟩ := Inv_iff.mp hI
  have A1 := hA.1
  have A2 := hA.2.1
  have A3 := hA.2.2.1
  by_cases c : h 34 2 = 0
  · refine ⟨-1, h, mm_up h 133 0 0, ?_, ?_, hI.th 0⟩
    · rw [e_X11_undo]
      simp only [n34, n25]
      rw [e_X3_takeBack, if_pos A1, if_pos c, Option.bind_some]
    · rw [e_X12_undo, pu_sl (by decide), if_pos (by omega)]
  · obtain ⟨q1, q2⟩ := hA.2.2.2 (h 34 2 - 1) (by omega) (by omega)
    rw [show (h 34 1 + 9 + (h 34 2 - 1) - h 34 2) % 8 = h 34 1 by omega] at q2
    obtain ⟨V', hV⟩ : ∃ V', V' = f_snap h (h 135) (h 34 2 - 1) := ⟨_, rfl⟩
    rw [← hV] at q1 q2
    have hh : hd (h 135) V' := by
      rw [hV]
      exact fun j hj => if_neg (by omega)
    have W' := hh.W hI.W
    obtain ⟨h1, e1, M1, F1⟩ := cl_copyM (a := 25) (b := 36 + 4 * h 34 1) q2 W' q1.1 (by omega) (d + 97)
    have e7 : mm_and (mm_w (mm_w (h 34 1 + 8) - 1)) 7 = (h 34 1 + 7) % 8 := by
      rw [pu_w (x := h 34 1 + 8) (by omega) (by omega), pu_w (by omega) (by omega), pu_a7 (by omega) (by omega)]
      congr 1
      omega
    have f34 : ∀ k, h1 34 k = h 34 k := fun k => F1 34 (by omega) k
    obtain ⟨g, hg⟩ : ∃ g, g = mm_up (mm_up h1 34 1 ((h 34 1 + 7) % 8)) 34 2 (h 34 2 - 1) := ⟨_, rfl⟩
    have E : ∀ o k, ¬ ((25 ≤ o ∧ o ≤ 28) ∨ (o = 34 ∧ (k = 1 ∨ k = 2))) → g o k = h o k := fun o k q => by
      rw [hg]
      unfold mm_up
      rw [if_neg (by omega), if_neg (by omega)]
      exact F1 o (by omega) k
    have g1 : g 34 1 = (h 34 1 + 7) % 8 := by rw [hg, pu_sl (by decide), pu_eq]
    have g2 : g 34 2 = h 34 2 - 1 := by rw [hg, pu_eq]
    have gr : g 135 = h 135 := funext fun k => E 135 k (by omega)
    obtain ⟨g3, hg3⟩ : ∃ g3, g3 = mm_up (mm_up g 133 0 0) 133 24 (h 34 2 - 1) := ⟨_, rfl⟩
    have E3 : ∀ o k, ¬ (o = 133 ∧ (k = 0 ∨ k = 24)) → g3 o k = g o k := fun o k q => by
      rw [hg3]
      unfold mm_up
      rw [if_neg (by omega), if_neg (by omega)]
    have g24 : g3 133 24 = h 34 2 - 1 := by rw [hg3, pu_eq]
    obtain ⟨s1, r1, x1⟩ := sp_it_rel (R := fun i s => mm_R mm_prog (d + 99) T_X12_undo 26 [(21, 133), (0, i)] [] s) (f := fun _ (x : Unit) => x) (I := fun i s _ => s = vs g3 (fun j => if 48 ≤ j ∧ j < 48 + i then h 138 (26 * (h 34 2 - 1) + (j - 48)) else h 135 j)) (N := 26) (fun i s y i0 i1 hs => by
      subst hs
      refine ⟨vs g3 (fun j => if 48 ≤ j ∧ j < 48 + (i + 1) then h 138 (26 * (h 34 2 - 1) + (j - 48)) else h 135 j), ?_, rfl⟩
      rw [e_X12_undo_26, if_pos i1, vs_ne (o := 133) (by decide), g24, pu_w (x := 26 * (h 34 2 - 1)) (by omega) (by omega), pu_w (x := 26 * (h 34 2 - 1) + i) (by omega) (by omega), pu_w (x := 48 + i) (by omega) (by omega), pu_w (x := i + 1) (by omega) (by omega), if_pos (by omega), if_pos (by omega), r135, vs_up, show (133 : Int) + 5 = 138 from rfl, vs_ne (by decide), E3 138 _ (by omega), E 138 _ (by omega)]
      congr 2
      funext j
      unfold vu
      by_cases e : j = 48 + i
      · rw [if_pos e, if_pos (by omega)]
        congr 1
        omega
      · rw [if_neg e]
        dsimp only
        by_cases e3 : 48 ≤ j ∧ j < 48 + i
        · rw [if_pos e3, if_pos (by omega)]
        · rw [if_neg e3, if_neg (by omega)]) 26 0 g3 () (by decide) (by decide) (by
      rw [show (fun j => if 48 ≤ j ∧ j < 48 + 0 then h 138 (26 * (h 34 2 - 1) + (j - 48)) else h 135 j) = h 135 from funext fun j => if_neg (by omega)]
      exact (vs_id ((funext fun k => (E3 135 k (by omega)).trans (E 135 k (by omega))))).symm)
    have ev : (fun j => if 48 ≤ j ∧ j < 48 + 26 then h 138 (26 * (h 34 2 - 1) + (j - 48)) else h 135 j) = V' := by
      rw [hV]
      rfl
    rw [ev] at x1
    refine ⟨h 34 2 - 1, g, s1, ?_, ?_, ?_⟩
    · rw [e_X11_undo]
      simp only [n34, n25]
      rw [e_X3_takeBack, if_pos A1, if_neg c, show (34 : Int) + 1 + 1 + 4 * h 34 1 = 36 + 4 * h 34 1 by omega, e1, Option.bind_some, Option.bind_some]
      dsimp only
      rw [f34 1, e7, pu_sl (k := 1) (k' := 2) (by decide), f34 2, pu_w (x := h 34 2 - 1) (by omega) (by omega), pu_eq, ← hg]
    · rw [e_X12_undo, pu_sl (by decide), E 133 24 (by omega), A3, if_neg c, pu_w (x := h 34 2 - 1) (by omega) (by omega), ← hg3, r1, e_X12_undo_26, if_neg (by decide), x1, vs_ne (o := 133) (by decide), g24]
    · have r2 : s1 135 = V' := by rw [x1]; exact vs_row _ _
      have E4 : ∀ o k, ¬ ((25 ≤ o ∧ o ≤ 28) ∨ (o = 34 ∧ (k = 1 ∨ k = 2)) ∨ o = 135 ∨ (o = 133 ∧ (k = 0 ∨ k = 24))) → s1 o k = h o k := fun o k q => by
        rw [x1, vs_ne (by omega), E3 o k (by omega), E o k (by omega)]
      have M4 : pr_M s1 25 V' := M1.ob (fun o h0 h1 k => by
        rw [x1, vs_ne (by omega), E3 o k (by omega), hg]
        unfold mm_up
        rw [if_neg (by omega), if_neg (by omega)])
      refine Inv_iff.mpr ⟨?_, ?_, hR.ch (fun o k q => E4 o k (by unfold q_ch at q; omega))⟩
      · rw [r2]
        exact hC.hd hh q1 M4 (fun o h0 h1 h2 k => E4 o k (by omega)) (fun k => E4 140 k (by omega))
      · have a1 : s1 34 1 = (h 34 1 + 7) % 8 := by rw [x1, vs_ne (by decide), E3 34 1 (by omega), g1]
        have a2 : s1 34 2 = h 34 2 - 1 := by rw [x1, vs_ne (by decide), E3 34 2 (by omega), g2]
        have a3 : s1 133 24 = h 34 2 - 1 := by rw [x1, vs_ne (by decide), g24]
        unfold PA
        rw [r2, a1, a2, a3]
        refine ⟨by omega, by omega, rfl, fun i i0 i1 => ?_⟩
        have hq := hA.2.2.2 i i0 (by omega)
        have es : ∀ j, (j < 5 ∨ (48 ≤ j ∧ j < 74)) → f_snap s1 V' i j = f_snap h (h 135) i j := by
          intro j hj
          unfold f_snap
          by_cases q : 48 ≤ j ∧ j < 74
          · rw [if_pos q, if_pos q, E4 138 _ (by omega)]
          · rw [if_neg q, if_neg q]
            exact hh j (by omega)
        have W9 : pr_W (f_snap h (h 135) i) := hd.W (V := h 135) (fun j hj => if_neg (by omega)) hI.W
        rw [show ((h 34 1 + 7) % 8 + 9 + i - (h 34 2 - 1)) % 8 = (h 34 1 + 9 + i - h 34 2) % 8 by omega]
        exact ⟨hq.1.cg W9 es, (hq.2.ob (fun o h0 h1 k => E4 o k (by omega))).cg W9 es⟩
