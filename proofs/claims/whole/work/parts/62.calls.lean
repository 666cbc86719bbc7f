/-! Calls that only ask -/
/-- both answer the same, and all holds on -/
def Cal (q1 q2 : Nat) (as : List mm_V) : Prop := ∀ (d : Nat) (h : mm_H), Inv h → ∃ r h1 h2, mm_M mm_prog (d + 100) q1 ((20, 0) :: as) h = some (r, h1) ∧ mm_M mm_prog (d + 100) q2 ((21, 133) :: as) h1 = some (r, h2) ∧ Inv h2
theorem q_th : (∀ o k, q_rest o k → ¬ (o = 133 ∧ k = 0)) ∧ (∀ o k, q_town o k → ¬ (o = 133 ∧ k = 0)) ∧ (∀ o k, q_past o k → ¬ (o = 133 ∧ k = 0)) := by
  refine ⟨fun o k q => ?_, fun o k q => ?_, fun o k q => ?_⟩
  · unfold q_rest q_img at q; omega
  · unfold q_town at q; omega
  · unfold q_past at q; omega
theorem Inv.th {h : mm_H} (v : Int) (hI : Inv h) : Inv (mm_up h 133 0 v) := hI.dif (ch := fun o k => o = 133 ∧ k = 0) ((dif.rf _ h).up ⟨rfl, rfl⟩) q_th.1 q_th.2.1 q_th.2.2
theorem rth (h : mm_H) (v : Int) : mm_up h 133 0 v = vs (mm_up h 133 0 v) (h 135) := by
  have := vs_self (mm_up h 133 0 v)
  rw [show mm_up h 133 0 v 135 = h 135 from funext fun k => pu_ob (by decide)] at this
  exact this.symm
theorem n15 : (0 : Int) + 14 + 1 = 15 := rfl
theorem n25 : (0 : Int) + 14 + 11 = 25 := rfl
section
variable {h : mm_H}
theorem Inv.P (hI : Inv h) : pr_P h 15 (h 135) := hI.1.2.2.1
theorem Inv.M (hI : Inv h) : pr_M h 25 (h 135) := hI.1.2.2.2.1
theorem Inv.W (hI : Inv h) : pr_W (h 135) := hI.1.1
theorem Inv.T (hI : Inv h) : pr_T (h 135) := hI.1.2.1
theorem Inv.S (hI : Inv h) : pr_S (h 135) := hI.1.2.1.1
end
theorem k_fault : Cal 108 196 [] := by
  intro d h hI
  refine ⟨h 0 13, h, mm_up h 133 0 0, by rw [e_X11_fault], ?_, hI.th 0⟩
  rw [e_X12_fault, pu_sl (by decide), hI.2.2.2.2.2.2.2.2.2.1]
theorem k_stoodLeast : Cal 125 239 [] := by
  intro d h hI
  refine ⟨h 76 1, h, mm_up h 133 0 0, by rw [e_X11_stoodLeast]; rfl, ?_, hI.th 0⟩
  rw [e_X12_stoodLeast, pu_sl (by decide), hI.2.2.2.2.1.1]
theorem k_stoodMost : Cal 126 240 [] := by
  intro d h hI
  refine ⟨h 76 2, h, mm_up h 133 0 0, by rw [e_X11_stoodMost]; rfl, ?_, hI.th 0⟩
  rw [e_X12_stoodMost, pu_sl (by decide), hI.2.2.2.2.1.2.1]
theorem k_next : Cal 127 241 [] := by
  intro d h hI
  refine ⟨h 76 3, h, mm_up h 133 0 0, by rw [e_X11_next]; rfl, ?_, hI.th 0⟩
  rw [e_X12_next, pu_sl (by decide), hI.2.2.2.2.1.2.2]
theorem k_voted : Cal 133 249 [] := by
  intro d h hI
  refine ⟨h 0 14, h, mm_up h 133 0 0, by rw [e_X11_voted], ?_, hI.th 0⟩
  rw [e_X12_voted, pu_sl (by decide), hI.2.2.2.2.2.2.1]
theorem k_rowAt (x : Int) : Cal 129 245 [(0, x)] := by
  intro d h hI
  obtain ⟨e, b, c, -⟩ := hI.2.2.2.2.2.1
  refine ⟨if 0 ≤ x ∧ x < h 78 2 then h 86 x else -1, h, mm_up h 133 0 0, ?_, ?_, hI.th 0⟩
  · rw [e_X11_rowAt]
    show (if x < 0 then _ else if x < h 78 2 then (if 0 ≤ x ∧ x < 5 then some (h 86 x, h) else none) else _) = _
    by_cases q : x < 0
    · rw [if_pos q, if_neg (by omega)]
    · rw [if_neg q]
      by_cases q2 : x < h 78 2
      · rw [if_pos q2, if_pos (by omega), if_pos (by omega)]
      · rw [if_neg q2, if_neg (by omega)]
  · rw [e_X12_rowAt, pu_sl (by decide), ← e, pu_w (by omega) (by omega), rf_isIn, Option.bind_some]
    dsimp only
    by_cases q : 0 ≤ x ∧ x < h 78 2
    · rw [if_pos q, decide_eq_true (by omega)]
      show (if (1 : Int) = 0 then _ else _) = _
      rw [if_neg (by decide), if_pos (by omega), pu_ob (by decide), c x q.1 q.2]
      rfl
    · rw [if_neg q, decide_eq_false (by omega)]
      rfl
theorem k_byteAt (x : Int) : Cal 135 255 [(0, x)] := by
  intro d h hI
  obtain ⟨e, b, c⟩ := hI.2.2.2.2.2.2.2.1
  refine ⟨if 0 ≤ x ∧ x < h 0 12 then h 94 x else -1, h, mm_up h 133 0 0, ?_, ?_, hI.th 0⟩
  · rw [e_X11_byteAt]
    show (if x < 0 then _ else if x < h 0 12 then (if 0 ≤ x ∧ x < 21 then some (h 94 x, h) else none) else _) = _
    by_cases q : x < 0
    · rw [if_pos q, if_neg (by omega)]
    · rw [if_neg q]
      by_cases q2 : x < h 0 12
      · rw [if_pos q2, if_pos (by omega), if_pos (by omega)]
      · rw [if_neg q2, if_neg (by omega)]
  · rw [e_X12_byteAt, pu_sl (by decide), ← e, pu_w (by omega) (by omega), rf_isIn, Option.bind_some]
    dsimp only
    by_cases q : 0 ≤ x ∧ x < h 0 12
    · rw [if_pos q, decide_eq_true (by omega)]
      show (if (1 : Int) = 0 then _ else _) = _
      rw [if_neg (by decide), if_pos (by omega), pu_ob (by decide), c x q.1 q.2]
      rfl
    · rw [if_neg q, decide_eq_false (by omega)]
      rfl
theorem k_told (x : Int) : Cal 139 269 [(0, x)] := by
  intro d h hI
  obtain ⟨e, b⟩ := hI.2.2.2.2.2.2.2.2.1
  refine ⟨if h 87 3 = 0 then -1 else if 0 ≤ x ∧ x ≤ 3 then h 151 x else -1, h, mm_up h 133 0 0, ?_, ?_, hI.th 0⟩
  · rw [e_X11_told, e_X0_tell]
    simp only [show (0 : Int) + 87 = 87 from rfl]
    rcases b with b | ⟨b, b4, b5, b6, b7⟩
    · rw [if_pos b, if_pos b, Option.bind_some]
    · have nb : ¬ h 87 3 = 0 := by omega
      rw [if_neg nb, if_neg nb]
      by_cases c0 : x = 0
      · rw [if_pos c0, if_pos (by omega), Option.bind_some, b4, c0]
      rw [if_neg c0]
      by_cases c1 : x = 1
      · rw [if_pos c1, if_pos (by omega), Option.bind_some, b5, c1]
      rw [if_neg c1]
      by_cases c2 : x = 2
      · rw [if_pos c2, if_pos (by omega), Option.bind_some, b6, c2]
      rw [if_neg c2]
      by_cases c3 : x = 3
      · rw [if_pos c3, if_pos (by omega), Option.bind_some, b7, c3]
      rw [if_neg c3, if_neg (by omega), Option.bind_some]
  · rw [e_X12_told, pu_sl (by decide), ← e]
    by_cases c0 : h 87 3 = 0
    · rw [if_pos c0, if_pos c0]
    · rw [if_neg c0, if_neg c0, rf_isIn, Option.bind_some]
      dsimp only
      by_cases q : 0 ≤ x ∧ x ≤ 3
      · rw [if_pos q, decide_eq_true q]
        show (if (1 : Int) = 0 then _ else _) = _
        rw [if_neg (by decide), if_pos (by omega), pu_ob (by decide)]
        rfl
      · rw [if_neg q, decide_eq_false q]
        rfl
theorem k_count (x : Int) : Cal 144 283 [(0, x)] := by
  intro d h hI
  have P := hI.P
  have T := hI.2.2.2.2.2.2.2.2.2.2.1
  refine ⟨if x = 0 then h 135 0 else if x = 1 then h 135 1 else if x = 2 then h 135 2 else if x = 3 then h 135 3 else if x = 4 then h 135 4 else if x = 5 then h 133 2 else -1, h, mm_up h 133 0 0, ?_, ?_, hI.th 0⟩
  · rw [e_X11_count]
    simp only [n15, show (0 : Int) + 1 = 1 from rfl]
    have c : ∀ s, 0 ≤ s → s < 4 → h (15 + 1) s = h 135 (1 + s) := P.2.2.1
    rw [P.1, c 0 (by decide) (by decide), c 1 (by decide) (by decide), c 2 (by decide) (by decide), c 3 (by decide) (by decide), T]
    simp only [Int.reduceAdd]
    repeat' split
    all_goals rfl
  · rw [e_X12_count]
    simp only [r135, pu_ob (show (135 : Int) ≠ 133 by decide), pu_sl (show (2 : Int) ≠ 0 by decide)]
    repeat' split
    all_goals rfl
theorem k_gap (x : Int) : Cal 110 207 [(0, x)] := by
  intro d h hI
  refine ⟨if 0 ≤ x ∧ x ≤ h 135 1 then h 135 (5 + x) else -1, h, mm_up h 133 0 0, ?_, ?_, hI.th 0⟩
  · rw [e_X11_gap, n15, cl_gapOf hI.P hI.W, Option.bind_some]
  · have w := hI.W.2.1
    rw [e_X12_gap, rth h 0, rf_isBeater, Option.bind_some]
    dsimp only
    by_cases q : 0 ≤ x ∧ x ≤ h 135 1
    · rw [if_pos q, decide_eq_true q]
      show (if (1 : Int) = 0 then _ else _) = _
      rw [if_neg (by decide), pu_w (by omega) (by omega), if_pos (by omega), r135, vs_at]
    · rw [if_neg q, decide_eq_false q]; rfl
theorem k_now (x : Int) : Cal 111 208 [(0, x)] := by
  intro d h hI
  have M := hI.M
  have b := hI.S.2.2.2.1
  refine ⟨if x = 0 then h 135 48 else if x = 1 then h 135 49 else if x = 2 then h 135 50 else if x = 3 then h 135 51 else if x = 4 then h 135 52 else if x = 5 then h 135 53 else if x = 6 then sp_done (h 135) else if x = 7 then sp_open (h 135) else -1, h, mm_up h 133 0 0, ?_, ?_, hI.th 0⟩
  · rw [e_X11_now]
    simp only [n15, n25, M.2.2.2.1]
    rw [M.1, M.2.1, M.2.2.1, M.2.2.2.2.1, M.2.2.2.2.2.1, cl_done hI.P M hI.W hI.S, cl_open hI.P M hI.W hI.S, Option.bind_some, Option.bind_some]
    have e3 : (if h 135 51 = 0 then some ((0 : Int), h) else some (1, h)) = some (h 135 51, h) := by
      rcases b with b | b <;> rw [b] <;> rfl
    rw [e3]
    repeat' split
    all_goals rfl
  · rw [e_X12_now, rth h 0, rf_done1 hI.W, rf_open1 hI.W, Option.bind_some, Option.bind_some]
    simp only [r135, vs_at]
    repeat' split
    all_goals rfl
theorem k_work (w x : Int) : Cal 109 206 [(0, w), (0, x)] := by
  intro d h hI
  have M := hI.M
  have P := hI.P
  have w3 := hI.W.2.2.2.1
  have so := (sp_open_ok hI.W).1
  refine ⟨if 0 ≤ w ∧ w < h 135 3 then (if x = 0 then h 135 (25 + w) else if x = 1 then h 135 (31 + w) else if x = 2 then h 135 (68 + w) else if x = 3 then (if h 135 (68 + w) = 0 then 2 else sp_b (f_bit (sp_open (h 135)) w)) else if x = 4 then h 135 (37 + w) else -1) else -1, h, mm_up h 133 0 0, ?_, ?_, hI.th 0⟩
  · rw [e_X11_work]
    simp only [n15, n25]
    rw [cl_has P (by decide) (by decide), Option.bind_some]
    simp only [Int.reduceAdd]
    by_cases q : 0 ≤ w ∧ w < h 135 3
    · have e1 := P.2.2.2.2.2.1 w q.1 q.2
      have e2 := M.2.2.2.2.2.2.2 w q.1 q.2
      simp only [Int.reduceAdd] at e1 e2
      rw [decide_eq_true q]
      show (if (1 : Int) = 0 then _ else _) = _
      rw [if_neg (by decide), if_pos (show 0 ≤ w ∧ w < 6 by omega), if_pos (show 0 ≤ w ∧ w < 6 by omega), if_pos (show 0 ≤ w ∧ w < 6 by omega), if_pos (show 0 ≤ w ∧ w < 6 by omega), e1.1, e1.2.1, e1.2.2, e2, cl_how P M hI.W hI.S q.1 q.2, Option.bind_some, if_pos q]
      dsimp only
      (repeat' split) <;> rfl
    · rw [decide_eq_false q, if_neg q]; rfl
  · rw [e_X12_work, rth h 0, rf_isWork hI.W, Option.bind_some]
    dsimp only
    by_cases q : 0 ≤ w ∧ w < h 135 3
    · rw [decide_eq_true q]
      show (if (1 : Int) = 0 then _ else _) = _
      rw [if_neg (by decide), pu_w (x := 25 + w) (by omega) (by omega), pu_w (x := 31 + w) (by omega) (by omega), pu_w (x := 68 + w) (by omega) (by omega), pu_w (x := 37 + w) (by omega) (by omega), if_pos (show 0 ≤ 25 + w ∧ 25 + w < 316 by omega), if_pos (show 0 ≤ 31 + w ∧ 31 + w < 316 by omega), if_pos (show 0 ≤ 68 + w ∧ 68 + w < 316 by omega), if_pos (show 0 ≤ 68 + w ∧ 68 + w < 316 by omega), if_pos (show 0 ≤ 37 + w ∧ 37 + w < 316 by omega), r135, rf_open1 hI.W, Option.bind_some]
      simp only [vs_at]
      rw [rf_hasb (by omega) (by omega) q.1 (by omega), Option.bind_some, if_pos q]
      dsimp only
      cases f_bit (sp_open (h 135)) w <;> (repeat' split) <;> first | rfl | (exfalso; revert ‹sp_b _ = 0›; decide) | (exfalso; revert ‹¬ sp_b _ = 0›; decide)
    · rw [decide_eq_false q, if_neg q]; rfl
theorem k_at (p k : Int) : Cal 120 227 [(0, p), (0, k)] := by
  intro d h hI
  have M := hI.M
  have P := hI.P
  refine ⟨if 0 ≤ p ∧ p < h 135 2 then (if 0 ≤ k ∧ k ≤ 99 then f_pb (h 135) p k else -1) else -1, h, mm_up h 133 0 0, ?_, ?_, hI.th 0⟩
  · rw [e_X11_at]
    simp only [n15, n25]
    rw [cl_has P (by decide) (by decide), Option.bind_some]
    simp only [Int.reduceAdd]
    by_cases q : 0 ≤ p ∧ p < h 135 2
    · rw [decide_eq_true q, if_pos q]
      show (if (1 : Int) = 0 then _ else _) = _
      rw [if_neg (by decide)]
      by_cases q2 : 0 ≤ k ∧ k ≤ 99
      · rw [if_pos q2, if_neg (by omega), if_neg (by omega), cl_placeBehind P M hI.W hI.S q.1 q.2 q2, Option.bind_some]
      · rw [if_neg q2]
        by_cases q3 : k < 0
        · rw [if_pos q3]
        · rw [if_neg q3, if_pos (by omega)]
    · rw [decide_eq_false q, if_neg q]; rfl
  · rw [e_X12_at, rth h 0, rf_isPerson hI.W, Option.bind_some]
    dsimp only
    by_cases q : 0 ≤ p ∧ p < h 135 2
    · rw [decide_eq_true q, if_pos q]
      show (if (1 : Int) = 0 then _ else _) = _
      rw [if_neg (by decide), rf_isIn, Option.bind_some]
      dsimp only
      by_cases q2 : 0 ≤ k ∧ k ≤ 99
      · rw [if_pos q2, decide_eq_true q2, rf_placeBehind hI.W hI.S q.1 q.2 q2, Option.bind_some]; rfl
      · rw [if_neg q2, decide_eq_false q2]; rfl
    · rw [decide_eq_false q, if_neg q]; rfl
