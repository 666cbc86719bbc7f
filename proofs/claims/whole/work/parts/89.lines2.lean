/-! What each LINE tells, put down on both sides -/
theorem cF.both {a b : mm_H} {o k v : Int} (h : cF a b) : cF (mm_up a o k v) (mm_up b o k v) := fun o' k' z => by
  rw [pu_up, pu_up]
  by_cases y : o' = o ∧ k' = k
  · rw [if_pos y, if_pos y]
  · rw [if_neg y, if_neg y, h o' k' z]
theorem rF.both {a b : mm_H} {o k v : Int} (h : rF a b) : rF (mm_up a o k v) (mm_up b o k v) := fun o' k' z => by
  rw [pu_up, pu_up]
  by_cases y : o' = o ∧ k' = k
  · rw [if_pos y, if_pos y]
  · rw [if_neg y, if_neg y, h o' k' z]
theorem nb_inj {s s' i x : Int} (s0 : 0 ≤ s) (s1 : s < 4) (t0 : 0 ≤ s') (t1 : s' < 4) (i0 : 0 ≤ i) (i1 : i < mm_mos s') (x0 : 0 ≤ x) (x1 : x < mm_mos s) (e : f_nb s' + i = f_nb s + x) : s' = s ∧ i = x := by
  have hs : s = 0 ∨ s = 1 ∨ s = 2 ∨ s = 3 := by omega
  have hs' : s' = 0 ∨ s' = 1 ∨ s' = 2 ∨ s' = 3 := by omega
  have m0 : mm_mos 0 = 4 := rfl
  have m1 : mm_mos 1 = 7 := rfl
  have m2 : mm_mos 2 = 6 := rfl
  have m3 : mm_mos 3 = 5 := rfl
  have n0 : f_nb 0 = 0 := rfl
  have n1 : f_nb 1 = 4 := rfl
  have n2 : f_nb 2 = 11 := rfl
  have n3 : f_nb 3 = 17 := rfl
  rcases hs with rfl | rfl | rfl | rfl <;> rcases hs' with rfl | rfl | rfl | rfl <;> omega
theorem NM2_new {c r c' r' : mm_H} (h : NM2 c r) (hW : pr_W (r 136)) {s key w x : Int} (s0 : 0 ≤ s) (s1 : s < 4) (hx : x = r 136 (1 + s)) (xm : x < mm_mos s) (hk : nmr key w) (hc : ∀ k, c' 6 k = if k = 7 * s + x then key else c 6 k) (hr : ∀ k, r' 141 k = if k = f_nb s + x then w else r 141 k) (hv : ∀ s', 0 ≤ s' → s' < 4 → r' 136 (1 + s') = if s' = s then x + 1 else r 136 (1 + s')) : NM2 c' r' := by
  intro s' i t0 t1 i0 i1
  have W := W_cnt hW s0 s1
  have W' := W_cnt hW t0 t1
  rw [hv s' t0 t1] at i1
  have im : i < mm_mos s' := by
    by_cases y : s' = s
    · rw [if_pos y] at i1; subst y; omega
    · rw [if_neg y] at i1; omega
  rw [hc, hr]
  by_cases y : s' = s ∧ i = x
  · rw [if_pos (by rw [y.1, y.2]), if_pos (by rw [y.1, y.2])]
    exact hk
  · rw [if_neg (fun e => y (by omega)), if_neg (fun e => y (nb_inj s0 s1 t0 t1 i0 im (by omega) xm e))]
    refine h s' i t0 t1 i0 ?_
    by_cases z : s' = s
    · rw [if_pos z] at i1; subst z; omega
    · rw [if_neg z] at i1; exact i1
section
variable {c r : mm_H}
theorem TW_ring (h : TW c r) {x : Int} (hx : 3 ≤ x ∧ x ≤ 12) (h2 : r 136 2 = 0) (h3 : r 136 3 = 0) : TW (mm_up (mm_up c 4 0 x) 3 1 1) (mm_up (mm_up r 144 0 1) 136 0 x) := by
  obtain ⟨⟨a0, a1, a2, a3, a4, a5, a6, a7, a8, a9⟩, ⟨b0, b1, b2, b3, b4, b5, b6⟩, w3, w4, w5, w6⟩ := h
  simp only [Int.reduceAdd] at b0 b1 b2 b3 b4 b5 b6
  have V : (mm_up (mm_up r 144 0 1) 136 0 x) 136 = vu (r 136) 0 x := by rw [row_up, row_ne (by decide)]
  have ve : ∀ j, j ≠ 0 → vu (r 136) 0 x j = r 136 j := fun j hj => vu_ne hj
  have C : ∀ o k, o ≠ 3 → o ≠ 4 → (mm_up (mm_up c 4 0 x) 3 1 1) o k = c o k := fun o k h1 h2 => by rw [pu_ob h1, pu_ob h2]
  unfold TW NM2
  rw [V]
  refine ⟨?_, ?_, ?_, ?_, ?_, ?_⟩
  · unfold pr_W
    rw [ve 1 (by decide), ve 2 (by decide), ve 3 (by decide), ve 4 (by decide), ve 24 (by decide), vu_eq]
    refine ⟨hx, a1, a2, a3, a4, fun q q0 q1 => ?_, fun q q0 q1 => by omega, a7, fun q q0 q1 => by omega, fun q q0 q1 => ?_⟩
    · rw [ve _ (by omega)]; exact a5 q q0 q1
    · rw [ve _ (by omega)]; exact a9 q q0 q1
  · unfold pr_P
    simp only [Int.reduceAdd]
    rw [ve 1 (by decide), ve 2 (by decide), ve 3 (by decide), ve 4 (by decide), ve 24 (by decide), vu_eq]
    refine ⟨by rw [pu_ob (by decide), pu_eq], by rw [pu_ob (by decide), pu_sl (by decide)]; exact b1, fun q q0 q1 => ?_, fun q q0 q1 => ?_, fun q q0 q1 => ?_, fun q q0 q1 => ?_, fun q q0 q1 => ?_⟩
    · rw [C _ _ (by decide) (by decide), ve _ (by omega)]; exact b2 q q0 q1
    · rw [C _ _ (by decide) (by decide), ve _ (by omega)]; exact b3 q q0 q1
    · omega
    · omega
    · rw [C _ _ (by decide) (by decide), ve _ (by omega)]; exact b6 q q0 q1
  · intro s i s0 s1 i0 i1
    rw [ve _ (by omega)] at i1
    rw [C _ _ (by decide) (by decide), pu_ob (by decide), pu_ob (by decide)]
    exact w3 s i s0 s1 i0 i1
  · intro w q0 q1
    rw [ve 3 (by decide)] at q0
    rw [ve _ (by omega)]
    exact w4 w q0 q1
  · exact ⟨by rw [pu_eq, pu_ob (by decide), pu_eq], by rw [pu_sl (by decide), pu_ob (by decide), pu_ob (by decide), pu_sl (by decide)]; exact w5.2⟩
  · rw [ve 2 (by decide), ve 3 (by decide), pu_ob (by decide), pu_ob (by decide)]
    exact w6
theorem TW_cousin (h : TW c r) {x y key w : Int} (hx : x = r 136 1) (x4 : x < 4) (hy : 1 ≤ y ∧ y ≤ 9) (hk : nmr key w) : TW (mm_up (mm_up (mm_up c 6 (7 * 0 + x) key) 5 0 (x + 1)) 7 (1 + x) y) (mm_up (mm_up (mm_up r 141 (f_nb 0 + x) w) 136 (6 + x) y) 136 1 (x + 1)) := by
  obtain ⟨hW, ⟨b0, b1, b2, b3, b4, b5, b6⟩, w3, w4, w5, w6⟩ := h
  have hW' := hW
  obtain ⟨a0, a1, a2, a3, a4, a5, a6, a7, a8, a9⟩ := hW'
  simp only [Int.reduceAdd] at b0 b1 b2 b3 b4 b5 b6
  obtain ⟨c', ec⟩ : ∃ c', c' = mm_up (mm_up (mm_up c 6 (7 * 0 + x) key) 5 0 (x + 1)) 7 (1 + x) y := ⟨_, rfl⟩
  obtain ⟨r', er⟩ : ∃ r', r' = mm_up (mm_up (mm_up r 141 (f_nb 0 + x) w) 136 (6 + x) y) 136 1 (x + 1) := ⟨_, rfl⟩
  rw [← ec, ← er]
  obtain ⟨U, hU⟩ : ∃ U, U = r' 136 := ⟨_, rfl⟩
  have V : U = vu (vu (r 136) (6 + x) y) 1 (x + 1) := by rw [hU, er, row_up, row_up, row_ne (by decide)]
  have ve : ∀ j, j ≠ 1 → j ≠ 6 + x → U j = r 136 j := fun j h1 h2 => by rw [V, vu_ne h1, vu_ne h2]
  have v1 : U 1 = x + 1 := by rw [V, vu_eq]
  have vy : U (6 + x) = y := by rw [V, vu_ne (by omega), vu_eq]
  have C : ∀ o k, o ≠ 5 → o ≠ 6 → o ≠ 7 → c' o k = c o k := fun o k h1 h2 h3 => by rw [ec, pu_ob h3, pu_ob h1, pu_ob h2]
  unfold TW
  rw [← hU]
  refine ⟨?_, ?_, ?_, ?_, ?_, ?_⟩
  · unfold pr_W
    rw [ve 0 (by decide) (by omega), v1, ve 2 (by decide) (by omega), ve 3 (by decide) (by omega), ve 4 (by decide) (by omega), ve 24 (by decide) (by omega)]
    refine ⟨a0, by omega, a2, a3, a4, fun q q0 q1 => ?_, fun q q0 q1 => ?_, a7, fun q q0 q1 => ?_, fun q q0 q1 => ?_⟩
    · by_cases z : q = x + 1
      · rw [show 5 + q = 6 + x by omega, vy]; exact hy
      · rw [ve _ (by omega) (by omega)]; exact a5 q q0 (by omega)
    · rw [ve _ (by omega) (by omega), ve _ (by omega) (by omega)]; exact a6 q q0 q1
    · rw [ve _ (by omega) (by omega), ve _ (by omega) (by omega), ve _ (by omega) (by omega)]; exact a8 q q0 q1
    · rw [ve _ (by omega) (by omega)]; exact a9 q q0 q1
  · unfold pr_P
    simp only [Int.reduceAdd]
    rw [ve 0 (by decide) (by omega), v1, ve 2 (by decide) (by omega), ve 3 (by decide) (by omega), ve 4 (by decide) (by omega), ve 24 (by decide) (by omega)]
    refine ⟨by rw [C _ _ (by decide) (by decide) (by decide)]; exact b0, by rw [C _ _ (by decide) (by decide) (by decide)]; exact b1, fun q q0 q1 => ?_, fun q q0 q1 => ?_, fun q q0 q1 => ?_, fun q q0 q1 => ?_, fun q q0 q1 => ?_⟩
    · rw [ec, pu_ob (by decide)]
      by_cases z : q = 0
      · rw [z, pu_eq, show (1 : Int) + 0 = 1 from rfl, v1]
      · rw [pu_sl z, pu_ob (by decide), ve _ (by omega) (by omega)]; exact b2 q q0 q1
    · rw [ec]
      by_cases z : q = 1 + x
      · rw [z, pu_eq, show 5 + (1 + x) = 6 + x by omega, vy]
      · rw [pu_sl z, pu_ob (by decide), pu_ob (by decide), ve _ (by omega) (by omega)]; exact b3 q q0 (by omega)
    · rw [C _ _ (by decide) (by decide) (by decide), C _ _ (by decide) (by decide) (by decide), ve _ (by omega) (by omega), ve _ (by omega) (by omega)]; exact b4 q q0 q1
    · rw [C _ _ (by decide) (by decide) (by decide), C _ _ (by decide) (by decide) (by decide), C _ _ (by decide) (by decide) (by decide), ve _ (by omega) (by omega), ve _ (by omega) (by omega), ve _ (by omega) (by omega)]; exact b5 q q0 q1
    · rw [C _ _ (by decide) (by decide) (by decide), ve _ (by omega) (by omega)]; exact b6 q q0 q1
  · refine NM2_new (s := 0) w3 hW (by decide) (by decide) hx x4 hk (fun k => ?_) (fun k => ?_) (fun s' t0 t1 => ?_)
    · rw [ec, pu_ob (by decide), pu_ob (by decide), pu_up]
      by_cases z : k = 7 * 0 + x
      · rw [if_pos ⟨rfl, z⟩, if_pos z]
      · rw [if_neg (fun e => z e.2), if_neg z]
    · rw [er, pu_ob (by decide), pu_ob (by decide), pu_up]
      by_cases z : k = f_nb 0 + x
      · rw [if_pos ⟨rfl, z⟩, if_pos z]
      · rw [if_neg (fun e => z e.2), if_neg z]
    · rw [← hU]
      by_cases z : s' = 0
      · rw [if_pos z, z]; exact v1
      · rw [if_neg z, ve _ (by omega) (by omega)]
  · intro w q0 q1
    rw [ve 3 (by decide) (by omega)] at q0
    rw [ve _ (by omega) (by omega)]
    exact w4 w q0 q1
  · rw [C _ _ (by decide) (by decide) (by decide), C _ _ (by decide) (by decide) (by decide), er, pu_ob (by decide), pu_ob (by decide), pu_ob (by decide), pu_ob (by decide), pu_ob (by decide), pu_ob (by decide)]
    exact w5
  · rw [ve 2 (by decide) (by omega), ve 3 (by decide) (by omega), er, pu_ob (by decide), pu_ob (by decide), pu_ob (by decide)]
    exact w6
theorem TW_thing (h : TW c r) {x y key w : Int} (hx : x = r 136 4) (x5 : x < 5) (hy : 2 ≤ y ∧ y ≤ 60) (hk : nmr key w) : TW (mm_up (mm_up (mm_up c 6 (7 * 3 + x) key) 5 3 (x + 1)) 13 x y) (mm_up (mm_up (mm_up r 141 (f_nb 3 + x) w) 136 (43 + x) y) 136 4 (x + 1)) := by
  obtain ⟨hW, ⟨b0, b1, b2, b3, b4, b5, b6⟩, w3, w4, w5, w6⟩ := h
  have hW' := hW
  obtain ⟨a0, a1, a2, a3, a4, a5, a6, a7, a8, a9⟩ := hW'
  simp only [Int.reduceAdd] at b0 b1 b2 b3 b4 b5 b6
  obtain ⟨c', ec⟩ : ∃ c', c' = mm_up (mm_up (mm_up c 6 (7 * 3 + x) key) 5 3 (x + 1)) 13 x y := ⟨_, rfl⟩
  obtain ⟨r', er⟩ : ∃ r', r' = mm_up (mm_up (mm_up r 141 (f_nb 3 + x) w) 136 (43 + x) y) 136 4 (x + 1) := ⟨_, rfl⟩
  rw [← ec, ← er]
  obtain ⟨U, hU⟩ : ∃ U, U = r' 136 := ⟨_, rfl⟩
  have V : U = vu (vu (r 136) (43 + x) y) 4 (x + 1) := by rw [hU, er, row_up, row_up, row_ne (by decide)]
  have ve : ∀ j, j ≠ 4 → j ≠ 43 + x → U j = r 136 j := fun j h1 h2 => by rw [V, vu_ne h1, vu_ne h2]
  have v1 : U 4 = x + 1 := by rw [V, vu_eq]
  have vy : U (43 + x) = y := by rw [V, vu_ne (by omega), vu_eq]
  have C : ∀ o k, o ≠ 5 → o ≠ 6 → o ≠ 13 → c' o k = c o k := fun o k h1 h2 h3 => by rw [ec, pu_ob h3, pu_ob h1, pu_ob h2]
  unfold TW
  rw [← hU]
  refine ⟨?_, ?_, ?_, ?_, ?_, ?_⟩
  · unfold pr_W
    rw [ve 0 (by decide) (by omega), v1, ve 1 (by decide) (by omega), ve 2 (by decide) (by omega), ve 3 (by decide) (by omega), ve 24 (by decide) (by omega)]
    refine ⟨a0, a1, a2, a3, by omega, fun q q0 q1 => ?_, fun q q0 q1 => ?_, a7, fun q q0 q1 => ?_, fun q q0 q1 => ?_⟩
    · rw [ve _ (by omega) (by omega)]; exact a5 q q0 q1
    · rw [ve _ (by omega) (by omega), ve _ (by omega) (by omega)]; exact a6 q q0 q1
    · rw [ve _ (by omega) (by omega), ve _ (by omega) (by omega), ve _ (by omega) (by omega)]; exact a8 q q0 q1
    · by_cases z : q = x
      · rw [z, vy]; exact hy
      · rw [ve _ (by omega) (by omega)]; exact a9 q q0 (by omega)
  · unfold pr_P
    simp only [Int.reduceAdd]
    rw [ve 0 (by decide) (by omega), v1, ve 1 (by decide) (by omega), ve 2 (by decide) (by omega), ve 3 (by decide) (by omega), ve 24 (by decide) (by omega)]
    refine ⟨by rw [C _ _ (by decide) (by decide) (by decide)]; exact b0, by rw [C _ _ (by decide) (by decide) (by decide)]; exact b1, fun q q0 q1 => ?_, fun q q0 q1 => ?_, fun q q0 q1 => ?_, fun q q0 q1 => ?_, fun q q0 q1 => ?_⟩
    · rw [ec, pu_ob (by decide)]
      by_cases z : q = 3
      · rw [z, pu_eq, show (1 : Int) + 3 = 4 from rfl, v1]
      · rw [pu_sl z, pu_ob (by decide), ve _ (by omega) (by omega)]; exact b2 q q0 q1
    · rw [C _ _ (by decide) (by decide) (by decide), ve _ (by omega) (by omega)]; exact b3 q q0 q1
    · rw [C _ _ (by decide) (by decide) (by decide), C _ _ (by decide) (by decide) (by decide), ve _ (by omega) (by omega), ve _ (by omega) (by omega)]; exact b4 q q0 q1
    · rw [C _ _ (by decide) (by decide) (by decide), C _ _ (by decide) (by decide) (by decide), C _ _ (by decide) (by decide) (by decide), ve _ (by omega) (by omega), ve _ (by omega) (by omega), ve _ (by omega) (by omega)]; exact b5 q q0 q1
    · rw [ec]
      by_cases z : q = x
      · rw [z, pu_eq, vy]
      · rw [pu_sl z, pu_ob (by decide), pu_ob (by decide), ve _ (by omega) (by omega)]; exact b6 q q0 (by omega)
  · refine NM2_new (s := 3) w3 hW (by decide) (by decide) hx x5 hk (fun k => ?_) (fun k => ?_) (fun s' t0 t1 => ?_)
    · rw [ec, pu_ob (by decide), pu_ob (by decide), pu_up]
      by_cases z : k = 7 * 3 + x
      · rw [if_pos ⟨rfl, z⟩, if_pos z]
      · rw [if_neg (fun e => z e.2), if_neg z]
    · rw [er, pu_ob (by decide), pu_ob (by decide), pu_up]
      by_cases z : k = f_nb 3 + x
      · rw [if_pos ⟨rfl, z⟩, if_pos z]
      · rw [if_neg (fun e => z e.2), if_neg z]
    · rw [← hU]
      by_cases z : s' = 3
      · rw [if_pos z, z]; exact v1
      · rw [if_neg z, ve _ (by omega) (by omega)]
  · intro w q0 q1
    rw [ve 3 (by decide) (by omega)] at q0
    rw [ve _ (by omega) (by omega)]
    exact w4 w q0 q1
  · rw [C _ _ (by decide) (by decide) (by decide), C _ _ (by decide) (by decide) (by decide), er, pu_ob (by decide), pu_ob (by decide), pu_ob (by decide), pu_ob (by decide), pu_ob (by decide), pu_ob (by decide)]
    exact w5
  · rw [ve 2 (by decide) (by omega), ve 3 (by decide) (by omega), er, pu_ob (by decide), pu_ob (by decide), pu_ob (by decide)]
    exact w6
end
