/-! What may be said of whom -/
def f_ms (V : Int → Int) (p w : Int) : Int := if w = 72 then V (54 + p) else if w = 73 then V (17 + p) else if w = 74 then V (61 + p) else p
def f_cmp (v r y : Int) : Bool := if r = 60 then decide (v < y) else if r = 61 then decide (v = y) else decide (y < v)
def f_lf (V : Int → Int) (p w x y r : Int) : Bool := if w = 68 then f_out V p else if w = 69 then f_busy V p else if w = 70 then decide (V (25 + x) = V (54 + p)) else if w = 71 then decide (V (54 + x) = V (54 + p)) else f_cmp (f_ms V p w) r y
def f_sem (N V : Int → Int) (p : Int) : Nat → Int → Bool
  | 0, _ => false
  | n + 1, k => if N (4 * k) = 1 then !f_sem N V p n (N (4 * k + 1)) else if N (4 * k) = 2 then f_sem N V p n (N (4 * k + 1)) && f_sem N V p n (N (4 * k + 2)) else if N (4 * k) = 3 then f_sem N V p n (N (4 * k + 1)) || f_sem N V p n (N (4 * k + 2)) else f_lf V p (N (4 * k)) (N (4 * k + 1)) (N (4 * k + 2)) (N (4 * k + 3))
theorem f_nod_at (V : Int → Int) {j : Int} (h0 : 0 ≤ j) : f_nod V j = V (76 + j) := if_pos h0
theorem dec_ite (c : Prop) [Decidable c] (h : mm_H) : (if c then some ((1 : Int), h) else some (0, h)) = some (sp_b (decide c), h) := by
  by_cases q : c
  · rw [if_pos q, decide_eq_true q]; rfl
  · rw [if_neg q, decide_eq_false q]; rfl
theorem f_lv_pos {N : Int → Int} {c2 c3 : Int} : ∀ (n : Nat) (k : Int), f_wf N c2 c3 n k → 1 ≤ f_lv N n k
  | 0, _, h => h.elim
  | n + 1, k, h => by
    obtain ⟨-, hh⟩ := h
    rw [f_lv]
    rcases hh with ⟨q, w⟩ | ⟨q, w1, w2⟩ | q
    · rw [if_pos q]
      exact f_lv_pos n _ w
    · have a := f_lv_pos n _ w1
      have b := f_lv_pos n _ w2
      rw [if_neg (by omega), if_pos q]
      omega
    · unfold f_lok at q
      rw [if_neg (by omega), if_neg (by omega)]
      omega
section PR
variable {V : Int → Int} {h : mm_H}
theorem rf_holds (hW : pr_W V) (hT : pr_T V) {p : Int} (p0 : 0 ≤ p) (p1 : p < V 2) (d : Nat) : ∀ (n : Nat) (k : Int), f_wf (f_nod V) (V 2) (V 3) n k → mm_M mm_prog (d + n + 5) 279 [(21, 133), (0, k), (0, p)] (vs h V) = some (sp_b (f_sem (f_nod V) V p n k), vs h V)
  | 0, _, w => w.elim
  | n + 1, k, w => by
    have ih := fun k' w' => rf_holds hW hT p0 p1 d n k' w'
    obtain ⟨⟨k0, k1⟩, hh⟩ := w
    have w2 := hW.2.2.1
    have w3 := hW.2.2.2.1
    have a0 := pu_w (x := 4 * k) (by omega) (by omega)
    have a1 := pu_w (x := 76 + 4 * k) (by omega) (by omega)
    have a2 := pu_w (x := 76 + 4 * k + 1) (by omega) (by omega)
    have a3 := pu_w (x := 76 + 4 * k + 2) (by omega) (by omega)
    have a4 := pu_w (x := 76 + 4 * k + 3) (by omega) (by omega)
    have a5 := pu_w (x := 54 + p) (by omega) (by omega)
    have a6 := pu_w (x := 17 + p) (by omega) (by omega)
    have a7 := pu_w (x := 61 + p) (by omega) (by omega)
    have n0 : f_nod V (4 * k) = V (76 + 4 * k) := f_nod_at V (by omega)
    have n1 : f_nod V (4 * k + 1) = V (76 + 4 * k + 1) := by rw [f_nod_at V (by omega)]; congr 1; omega
    have n2 : f_nod V (4 * k + 2) = V (76 + 4 * k + 2) := by rw [f_nod_at V (by omega)]; congr 1; omega
    have n3 : f_nod V (4 * k + 3) = V (76 + 4 * k + 3) := by rw [f_nod_at V (by omega)]; congr 1; omega
    rw [n0, n1, n2, n3] at hh
    have ed : d + (n + 1) + 5 = (d + n + 5) + 1 := by omega
    rw [ed, e_X12_holds]
    simp only [a0, a1, a2, a3, a4, a5, a6, a7, r135, vs_at]
    rw [if_pos (show 0 ≤ 76 + 4 * k + 1 ∧ 76 + 4 * k + 1 < 316 by omega), if_pos (show 0 ≤ 76 + 4 * k + 2 ∧ 76 + 4 * k + 2 < 316 by omega), if_pos (show 0 ≤ 76 + 4 * k ∧ 76 + 4 * k < 316 by omega), f_sem, n0, n1, n2, n3]
    generalize V (76 + 4 * k) = w at *
    generalize V (76 + 4 * k + 1) = x at *
    generalize V (76 + 4 * k + 2) = y at *
    generalize V (76 + 4 * k + 3) = r at *
    rcases hh with ⟨q, z⟩ | ⟨q, z1, z2⟩ | q
    · rw [if_pos q, if_pos q, ih x z, Option.bind_some]
      cases f_sem (f_nod V) V p n x <;> rfl
    · rcases q with q | q
      · rw [if_neg (by omega), if_pos q, if_neg (show ¬ w = 1 by omega), if_pos q, ih x z1, Option.bind_some]
        cases f_sem (f_nod V) V p n x with
        | false => rfl
        | true =>
          show (if (1 : Int) = 0 then _ else _) = _
          rw [if_neg (by decide)]
          dsimp only
          rw [ih y z2, Option.bind_some]
          cases f_sem (f_nod V) V p n y <;> rfl
      · rw [if_neg (by omega), if_neg (show ¬ w = 2 by omega), if_pos q, if_neg (show ¬ w = 1 by omega), if_neg (show ¬ w = 2 by omega), if_pos q, ih x z1, Option.bind_some]
        cases f_sem (f_nod V) V p n x with
        | true => rfl
        | false =>
          show (if (0 : Int) = 0 then _ else _) = _
          rw [if_pos rfl]
          dsimp only
          rw [ih y z2, Option.bind_some]
          cases f_sem (f_nod V) V p n y <;> rfl
    · unfold f_lok at q
      rw [if_neg (show ¬ w = 1 by omega), if_neg (show ¬ w = 2 by omega), if_neg (show ¬ w = 3 by omega), if_neg (show ¬ w = 1 by omega), if_neg (show ¬ w = 2 by omega), if_neg (show ¬ w = 3 by omega)]
      unfold f_lf
      by_cases c0 : w = 68
      · rw [if_pos c0, if_pos c0, rf_isOut hT.1 p0 (by omega), Option.bind_some]
        exact if_pos (sp_b01 _)
      rw [if_neg c0, if_neg c0]
      by_cases c1 : w = 69
      · rw [if_pos c1, if_pos c1, rf_isBusy hW hT.1 p0 p1, Option.bind_some]
        exact if_pos (sp_b01 _)
      rw [if_neg c1, if_neg c1]
      by_cases c2 : w = 70
      · have b := pu_w (x := 25 + x) (by omega) (by omega)
        rw [if_pos c2, if_pos c2]
        simp only [b]
        rw [if_pos (by omega), if_pos (by omega), dec_ite]
      rw [if_neg c2, if_neg c2]
      by_cases c3 : w = 71
      · have b := pu_w (x := 54 + x) (by omega) (by omega)
        rw [if_pos c3, if_pos c3]
        simp only [b]
        rw [if_pos (by omega), if_pos (by omega), dec_ite]
      rw [if_neg c3, if_neg c3, if_pos (by omega)]
      have b := pu_w (x := w - 50) (by omega) (by omega)
      simp only [b, dec_ite]
      rw [if_pos (show 0 ≤ 54 + p ∧ 54 + p < 316 by omega), if_pos (show 0 ≤ 17 + p ∧ 17 + p < 316 by omega), if_pos (show 0 ≤ 61 + p ∧ 61 + p < 316 by omega)]
      simp only [if_pos (show 0 ≤ 76 + 4 * k + 3 ∧ 76 + 4 * k + 3 < 316 by omega)]
      unfold f_cmp f_ms
      by_cases d0 : w = 72
      · rw [if_pos (show w - 50 = 22 by omega), if_pos d0]
        by_cases r0 : r = 60
        · rw [if_pos r0, if_pos r0]
        · rw [if_neg r0, if_neg r0]
          by_cases r1 : r = 61
          · rw [if_pos r1, if_pos r1]
          · rw [if_neg r1, if_neg r1]
      rw [if_neg (show ¬ w - 50 = 22 by omega), if_neg d0]
      by_cases d1 : w = 73
      · rw [if_pos (show w - 50 = 23 by omega), if_pos d1]
        by_cases r0 : r = 60
        · rw [if_pos r0, if_pos r0]
        · rw [if_neg r0, if_neg r0]
          by_cases r1 : r = 61
          · rw [if_pos r1, if_pos r1]
          · rw [if_neg r1, if_neg r1]
      rw [if_neg (show ¬ w - 50 = 23 by omega), if_neg d1]
      by_cases d2 : w = 74
      · rw [if_pos (show w - 50 = 24 by omega), if_pos d2]
        by_cases r0 : r = 60
        · rw [if_pos r0, if_pos r0]
        · rw [if_neg r0, if_neg r0]
          by_cases r1 : r = 61
          · rw [if_pos r1, if_pos r1]
          · rw [if_neg r1, if_neg r1]
      rw [if_neg (show ¬ w - 50 = 24 by omega), if_neg d2]
      by_cases r0 : r = 60
      · rw [if_pos r0, if_pos r0]
      · rw [if_neg r0, if_neg r0]
        by_cases r1 : r = 61
        · rw [if_pos r1, if_pos r1]
        · rw [if_neg r1, if_neg r1]
end PR
