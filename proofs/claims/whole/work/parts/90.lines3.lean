/-! Persons, works, what comes behind what -/
section
variable {c r : mm_H}
theorem TW_person (h : TW c r) {x y z O key w : Int} (hx : x = r 136 2) (x7 : x < 7) (hy : 0 ≤ y ∧ y < r 136 0) (hz : 1 ≤ z ∧ z ≤ 3) (hO : 0 ≤ O ∧ O < 128) (hk : nmr key w) : TW (mm_up (mm_up (mm_up (mm_up (mm_up c 6 (7 * 1 + x) key) 5 1 (x + 1)) 8 x y) 9 x z) 4 1 O) (mm_up (mm_up (mm_up (mm_up (mm_up (mm_up r 141 (f_nb 1 + x) w) 133 25 1) 136 (10 + x) y) 136 (17 + x) z) 136 24 O) 136 2 (x + 1)) := by
  obtain ⟨hW, ⟨b0, b1, b2, b3, b4, b5, b6⟩, w3, w4, w5, w6⟩ := h
  have hW' := hW
  obtain ⟨a0, a1, a2, a3, a4, a5, a6, a7, a8, a9⟩ := hW'
  simp only [Int.reduceAdd] at b0 b1 b2 b3 b4 b5 b6
  obtain ⟨c', ec⟩ : ∃ c', c' = mm_up (mm_up (mm_up (mm_up (mm_up c 6 (7 * 1 + x) key) 5 1 (x + 1)) 8 x y) 9 x z) 4 1 O := ⟨_, rfl⟩
  obtain ⟨r', er⟩ : ∃ r', r' = mm_up (mm_up (mm_up (mm_up (mm_up (mm_up r 141 (f_nb 1 + x) w) 133 25 1) 136 (10 + x) y) 136 (17 + x) z) 136 24 O) 136 2 (x + 1) := ⟨_, rfl⟩
  rw [← ec, ← er]
  obtain ⟨U, hU⟩ : ∃ U, U = r' 136 := ⟨_, rfl⟩
  have V : U = vu (vu (vu (vu (r 136) (10 + x) y) (17 + x) z) 24 O) 2 (x + 1) := by rw [hU, er, row_up, row_up, row_up, row_up, row_ne (by decide), row_ne (by decide)]
  have ve : ∀ j, (j ≠ 2 ∧ j ≠ 24 ∧ j ≠ 17 + x ∧ j ≠ 10 + x) → U j = r 136 j := fun j hj => by rw [V, vu_ne hj.1, vu_ne hj.2.1, vu_ne hj.2.2.1, vu_ne hj.2.2.2]
  have v2 : U 2 = x + 1 := by rw [V, vu_eq]
  have vO : U 24 = O := by rw [V, vu_ne (by omega), vu_eq]
  have vz : U (17 + x) = z := by rw [V, vu_ne (by omega), vu_ne (by omega), vu_eq]
  have vy : U (10 + x) = y := by rw [V, vu_ne (by omega), vu_ne (by omega), vu_ne (by omega), vu_eq]
  have C : ∀ o k, (o ≠ 4 ∧ o ≠ 5 ∧ o ≠ 6 ∧ o ≠ 8 ∧ o ≠ 9) → c' o k = c o k := fun o k q => by rw [ec, pu_ob q.1, pu_ob q.2.2.2.2, pu_ob q.2.2.2.1, pu_ob q.2.1, pu_ob q.2.2.1]
  unfold TW
  rw [← hU]
  refine ⟨?_, ?_, ?_, ?_, ?_, ?_⟩
  · unfold pr_W
    rw [ve 0 (by omega), v2, ve 1 (by omega), ve 4 (by omega), ve 3 (by omega), vO]
    refine ⟨a0, a1, by omega, a3, a4, fun q q0 q1 => ?_, fun q q0 q1 => ?_, hO, fun q q0 q1 => ?_, fun q q0 q1 => ?_⟩
    · rw [ve _ (by omega)]; exact a5 q q0 q1
    · by_cases e : q = x
      · rw [e, vy, vz]; exact ⟨hy, hz⟩
      · rw [ve _ (by omega), ve _ (by omega)]; exact a6 q q0 (by omega)
    · rw [ve _ (by omega), ve _ (by omega), ve _ (by omega)]; exact a8 q q0 q1
    · rw [ve _ (by omega)]; exact a9 q q0 q1
  · unfold pr_P
    simp only [Int.reduceAdd]
    rw [ve 0 (by omega), v2, ve 1 (by omega), ve 4 (by omega), ve 3 (by omega), vO]
    refine ⟨?_, by rw [ec, pu_eq], fun q q0 q1 => ?_, fun q q0 q1 => ?_, fun q q0 q1 => ?_, fun q q0 q1 => ?_, fun q q0 q1 => ?_⟩
    · rw [ec, pu_sl (by decide), pu_ob (by decide), pu_ob (by decide), pu_ob (by decide), pu_ob (by decide)]; exact b0
    · rw [ec, pu_ob (by decide), pu_ob (by decide), pu_ob (by decide)]
      by_cases e : q = 1
      · rw [e, pu_eq, show (1 : Int) + 1 = 2 from rfl, v2]
      · rw [pu_sl e, pu_ob (by decide), ve _ (by omega)]; exact b2 q q0 q1
    · rw [C _ _ (by omega), ve _ (by omega)]; exact b3 q q0 q1
    · by_cases e : q = x
      · rw [e, vy, vz, ec, pu_ob (by decide), pu_ob (by decide), pu_eq, pu_ob (by decide), pu_eq]
        exact ⟨rfl, rfl⟩
      · rw [ve _ (by omega), ve _ (by omega), ec, pu_ob (by decide), pu_ob (by decide), pu_sl e, pu_ob (by decide), pu_ob (by decide), pu_ob (by decide), pu_sl e, pu_ob (by decide), pu_ob (by decide), pu_ob (by decide)]
        exact b4 q q0 (by omega)
    · rw [C _ _ (by omega), C _ _ (by omega), C _ _ (by omega), ve _ (by omega), ve _ (by omega), ve _ (by omega)]; exact b5 q q0 q1
    · rw [C _ _ (by omega), ve _ (by omega)]; exact b6 q q0 q1
  · refine NM2_new (s := 1) w3 hW (by decide) (by decide) hx x7 hk (fun k => ?_) (fun k => ?_) (fun s' t0 t1 => ?_)
    · rw [ec, pu_ob (by decide), pu_ob (by decide), pu_ob (by decide), pu_ob (by decide), pu_up]
      by_cases e : k = 7 * 1 + x
      · rw [if_pos ⟨rfl, e⟩, if_pos e]
      · rw [if_neg (fun q => e q.2), if_neg e]
    · rw [er, pu_ob (by decide), pu_ob (by decide), pu_ob (by decide), pu_ob (by decide), pu_ob (by decide), pu_up]
      by_cases e : k = f_nb 1 + x
      · rw [if_pos ⟨rfl, e⟩, if_pos e]
      · rw [if_neg (fun q => e q.2), if_neg e]
    · rw [← hU]
      by_cases e : s' = 1
      · rw [if_pos e, e]; exact v2
      · rw [if_neg e, ve _ (by omega)]
  · intro w q0 q1
    rw [ve 3 (by omega)] at q0
    rw [ve _ (by omega)]
    exact w4 w q0 q1
  · rw [C _ _ (by omega), C _ _ (by omega), er, pu_ob (by decide), pu_ob (by decide), pu_ob (by decide), pu_ob (by decide), pu_ob (by decide), pu_ob (by decide), pu_ob (by decide), pu_ob (by decide), pu_ob (by decide), pu_ob (by decide), pu_ob (by decide), pu_ob (by decide)]
    exact w5
  · rw [v2, ve 3 (by omega), er, pu_ob (by decide), pu_ob (by decide), pu_ob (by decide), pu_ob (by decide), pu_eq, if_pos (by omega)]
theorem TW_work (h : TW c r) {x y z key w : Int} (hx : x = r 136 3) (x6 : x < 6) (hy : 0 ≤ y ∧ y < r 136 0) (hz : 1 ≤ z ∧ z ≤ 30) (hk : nmr key w) : TW (mm_up (mm_up (mm_up (mm_up (mm_up c 6 (7 * 2 + x) key) 5 2 (x + 1)) 10 x y) 11 x z) 12 x 0) (mm_up (mm_up (mm_up (mm_up (mm_up r 141 (f_nb 2 + x) w) 133 25 1) 136 (25 + x) y) 136 (31 + x) z) 136 3 (x + 1)) := by
  obtain ⟨hW, ⟨b0, b1, b2, b3, b4, b5, b6⟩, w3, w4, w5, w6⟩ := h
  have hW' := hW
  obtain ⟨a0, a1, a2, a3, a4, a5, a6, a7, a8, a9⟩ := hW'
  simp only [Int.reduceAdd] at b0 b1 b2 b3 b4 b5 b6
  obtain ⟨c', ec⟩ : ∃ c', c' = mm_up (mm_up (mm_up (mm_up (mm_up c 6 (7 * 2 + x) key) 5 2 (x + 1)) 10 x y) 11 x z) 12 x 0 := ⟨_, rfl⟩
  obtain ⟨r', er⟩ : ∃ r', r' = mm_up (mm_up (mm_up (mm_up (mm_up r 141 (f_nb 2 + x) w) 133 25 1) 136 (25 + x) y) 136 (31 + x) z) 136 3 (x + 1) := ⟨_, rfl⟩
  rw [← ec, ← er]
  obtain ⟨U, hU⟩ : ∃ U, U = r' 136 := ⟨_, rfl⟩
  have V : U = vu (vu (vu (r 136) (25 + x) y) (31 + x) z) 3 (x + 1) := by rw [hU, er, row_up, row_up, row_up, row_ne (by decide), row_ne (by decide)]
  have ve : ∀ j, (j ≠ 3 ∧ j ≠ 31 + x ∧ j ≠ 25 + x) → U j = r 136 j := fun j hj => by rw [V, vu_ne hj.1, vu_ne hj.2.1, vu_ne hj.2.2]
  have v2 : U 3 = x + 1 := by rw [V, vu_eq]
  have vz : U (31 + x) = z := by rw [V, vu_ne (by omega), vu_eq]
  have vy : U (25 + x) = y := by rw [V, vu_ne (by omega), vu_ne (by omega), vu_eq]
  have v0 : U (37 + x) = 0 := by rw [ve _ (by omega)]; exact w4 x (by omega) x6
  have C : ∀ o k, (o ≠ 5 ∧ o ≠ 6 ∧ o ≠ 10 ∧ o ≠ 11 ∧ o ≠ 12) → c' o k = c o k := fun o k q => by rw [ec, pu_ob q.2.2.2.2, pu_ob q.2.2.2.1, pu_ob q.2.2.1, pu_ob q.1, pu_ob q.2.1]
  unfold TW
  rw [← hU]
  refine ⟨?_, ?_, ?_, ?_, ?_, ?_⟩
  · unfold pr_W
    rw [ve 0 (by omega), v2, ve 1 (by omega), ve 4 (by omega), ve 2 (by omega), ve 24 (by omega)]
    refine ⟨a0, a1, a2, by omega, a4, fun q q0 q1 => ?_, fun q q0 q1 => ?_, a7, fun q q0 q1 => ?_, fun q q0 q1 => ?_⟩
    · rw [ve _ (by omega)]; exact a5 q q0 q1
    · rw [ve _ (by omega), ve _ (by omega)]; exact a6 q q0 q1
    · by_cases e : q = x
      · rw [e, vy, vz, v0]; exact ⟨hy, hz, by decide, by decide⟩
      · rw [ve _ (by omega), ve _ (by omega), ve _ (by omega)]; exact a8 q q0 (by omega)
    · rw [ve _ (by omega)]; exact a9 q q0 q1
  · unfold pr_P
    simp only [Int.reduceAdd]
    rw [ve 0 (by omega), v2, ve 1 (by omega), ve 4 (by omega), ve 2 (by omega), ve 24 (by omega)]
    refine ⟨?_, ?_, fun q q0 q1 => ?_, fun q q0 q1 => ?_, fun q q0 q1 => ?_, fun q q0 q1 => ?_, fun q q0 q1 => ?_⟩
    · rw [C _ _ (by omega)]; exact b0
    · rw [C _ _ (by omega)]; exact b1
    · rw [ec, pu_ob (by decide), pu_ob (by decide), pu_ob (by decide)]
      by_cases e : q = 2
      · rw [e, pu_eq, show (1 : Int) + 2 = 3 from rfl, v2]
      · rw [pu_sl e, pu_ob (by decide), ve _ (by omega)]; exact b2 q q0 q1
    · rw [C _ _ (by omega), ve _ (by omega)]; exact b3 q q0 q1
    · rw [C _ _ (by omega), C _ _ (by omega), ve _ (by omega), ve _ (by omega)]; exact b4 q q0 q1
    · by_cases e : q = x
      · rw [e, vy, vz, v0, ec, pu_ob (by decide), pu_ob (by decide), pu_eq, pu_ob (by decide), pu_eq, pu_eq]
        exact ⟨rfl, rfl, rfl⟩
      · rw [ve _ (by omega), ve _ (by omega), ve _ (by omega), ec, pu_ob (by decide), pu_ob (by decide), pu_sl e, pu_ob (by decide), pu_ob (by decide), pu_ob (by decide), pu_sl e, pu_ob (by decide), pu_ob (by decide), pu_ob (by decide), pu_sl e, pu_ob (by decide), pu_ob (by decide), pu_ob (by decide), pu_ob (by decide)]
        exact b5 q q0 (by omega)
    · rw [C _ _ (by omega), ve _ (by omega)]; exact b6 q q0 q1
  · refine NM2_new (s := 2) w3 hW (by decide) (by decide) hx x6 hk (fun k => ?_) (fun k => ?_) (fun s' t0 t1 => ?_)
    · rw [ec, pu_ob (by decide), pu_ob (by decide), pu_ob (by decide), pu_ob (by decide), pu_up]
      by_cases e : k = 7 * 2 + x
      · rw [if_pos ⟨rfl, e⟩, if_pos e]
      · rw [if_neg (fun q => e q.2), if_neg e]
    · rw [er, pu_ob (by decide), pu_ob (by decide), pu_ob (by decide), pu_ob (by decide), pu_up]
      by_cases e : k = f_nb 2 + x
      · rw [if_pos ⟨rfl, e⟩, if_pos e]
      · rw [if_neg (fun q => e q.2), if_neg e]
    · rw [← hU]
      by_cases e : s' = 2
      · rw [if_pos e, e]; exact v2
      · rw [if_neg e, ve _ (by omega)]
  · intro w q0 q1
    rw [v2] at q0
    rw [ve _ (by omega)]
    exact w4 w (by omega) q1
  · rw [C _ _ (by omega), C _ _ (by omega), er, pu_ob (by decide), pu_ob (by decide), pu_ob (by decide), pu_ob (by decide), pu_ob (by decide), pu_ob (by decide), pu_ob (by decide), pu_ob (by decide), pu_ob (by decide), pu_ob (by decide)]
    exact w5
  · rw [v2, ve 2 (by omega), er, pu_ob (by decide), pu_ob (by decide), pu_ob (by decide), pu_eq, if_pos (by omega)]
theorem TW_after (h : TW c r) {a B : Int} (a0' : 0 ≤ a) (a1' : a < r 136 3) (hB : 0 ≤ B ∧ B < 64) : TW (mm_up c 12 a B) (mm_up r 136 (37 + a) B) := by
  obtain ⟨hW, ⟨b0, b1, b2, b3, b4, b5, b6⟩, w3, w4, w5, w6⟩ := h
  obtain ⟨a0, a1, a2, a3, a4, a5, a6, a7, a8, a9⟩ := hW
  simp only [Int.reduceAdd] at b0 b1 b2 b3 b4 b5 b6
  obtain ⟨U, hU⟩ : ∃ U, U = (mm_up r 136 (37 + a) B) 136 := ⟨_, rfl⟩
  have V : U = vu (r 136) (37 + a) B := by rw [hU, row_up]
  have ve : ∀ j, j ≠ 37 + a → U j = r 136 j := fun j hj => by rw [V, vu_ne hj]
  have vB : U (37 + a) = B := by rw [V, vu_eq]
  unfold TW NM2
  rw [← hU]
  refine ⟨?_, ?_, ?_, ?_, ?_, ?_⟩
  · unfold pr_W
    rw [ve 0 (by omega), ve 1 (by omega), ve 4 (by omega), ve 2 (by omega), ve 3 (by omega), ve 24 (by omega)]
    refine ⟨a0, a1, a2, a3, a4, fun q q0 q1 => ?_, fun q q0 q1 => ?_, a7, fun q q0 q1 => ?_, fun q q0 q1 => ?_⟩
    · rw [ve _ (by omega)]; exact a5 q q0 q1
    · rw [ve _ (by omega), ve _ (by omega)]; exact a6 q q0 q1
    · rw [ve _ (by omega), ve _ (by omega)]
      by_cases e : q = a
      · rw [e, vB]
        exact ⟨(a8 a a0' a1').1, (a8 a a0' a1').2.1, hB⟩
      · rw [ve _ (by omega)]; exact a8 q q0 q1
    · rw [ve _ (by omega)]; exact a9 q q0 q1
  · unfold pr_P
    simp only [Int.reduceAdd]
    rw [ve 0 (by omega), ve 1 (by omega), ve 4 (by omega), ve 2 (by omega), ve 3 (by omega), ve 24 (by omega)]
    refine ⟨?_, ?_, fun q q0 q1 => ?_, fun q q0 q1 => ?_, fun q q0 q1 => ?_, fun q q0 q1 => ?_, fun q q0 q1 => ?_⟩
    · rw [pu_ob (by decide)]; exact b0
    · rw [pu_ob (by decide)]; exact b1
    · rw [pu_ob (by decide), ve _ (by omega)]; exact b2 q q0 q1
    · rw [pu_ob (by decide), ve _ (by omega)]; exact b3 q q0 q1
    · rw [pu_ob (by decide), pu_ob (by decide), ve _ (by omega), ve _ (by omega)]; exact b4 q q0 q1
    · rw [pu_ob (by decide), pu_ob (by decide), ve _ (by omega), ve _ (by omega)]
      by_cases e : q = a
      · rw [e, vB, pu_eq]
        exact ⟨(b5 a a0' a1').1, (b5 a a0' a1').2.1, rfl⟩
      · rw [pu_sl e, ve _ (by omega)]; exact b5 q q0 q1
    · rw [pu_ob (by decide), ve _ (by omega)]; exact b6 q q0 q1
  · intro s i s0 s1 i0 i1
    rw [ve _ (by omega)] at i1
    rw [pu_ob (by decide), pu_ob (by decide)]
    exact w3 s i s0 s1 i0 i1
  · intro w q0 q1
    rw [ve 3 (by omega)] at q0
    rw [ve _ (by omega)]
    exact w4 w q0 q1
  · rw [pu_ob (by decide), pu_ob (by decide), pu_ob (by decide), pu_ob (by decide)]
    exact w5
  · rw [ve 2 (by omega), ve 3 (by omega), pu_ob (by decide)]
    exact w6
end
