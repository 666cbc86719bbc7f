/-! Acts -/
theorem pu_x7 : ∀ v : Nat, v < 128 → ∀ p : Nat, p < 7 → (v.testBit p = false → mm_or (v : Int) (mm_shl 1 (p : Int)) = mm_xor (v : Int) (mm_shl 1 (p : Int))) ∧ (v.testBit p = true → mm_and (v : Int) (mm_xor (mm_shl 1 (p : Int)) (-1)) = mm_xor (v : Int) (mm_shl 1 (p : Int))) ∧ 0 ≤ mm_xor (v : Int) (mm_shl 1 (p : Int)) ∧ mm_xor (v : Int) (mm_shl 1 (p : Int)) < 128 := by decide +kernel
theorem pu_x8 {v p : Int} (hv : 0 ≤ v ∧ v < 128) (hp : 0 ≤ p ∧ p < 7) : (f_bit v p = false → mm_or v (mm_shl 1 p) = mm_xor v (mm_shl 1 p)) ∧ (f_bit v p = true → mm_and v (mm_xor (mm_shl 1 p) (-1)) = mm_xor v (mm_shl 1 p)) ∧ 0 ≤ mm_xor v (mm_shl 1 p) ∧ mm_xor v (mm_shl 1 p) < 128 := by
  have := pu_x7 v.toNat (by omega) p.toNat (by omega)
  rw [show ((v.toNat : Nat) : Int) = v by omega, show ((p.toNat : Nat) : Int) = p by omega] at this
  exact this
def f_why (V : Int → Int) (a x : Int) : Int := if a = 0 then V 51 else if a = 1 then V 51 else if a = 2 then 1 - V 51 else if a = 3 then (if V 49 = x then 1 else 0) else if a = 4 then sp_b (f_out V x) else bif f_out V x then (bif f_crowd V x then 2 else 0) else 1
def f_live (V : Int → Int) (a x : Int) : Int → Int := if a = 0 then vu V 50 (min 99 (V 50 + V (5 + V 49))) else if a = 1 then vu V 51 1 else if a = 2 then vu (vu V 51 0) 50 1 else if a = 3 then vu (vu V 49 x) 50 (min (V 50) (V (5 + x))) else vu V 53 (mm_xor (V 53) (mm_shl 1 x))
/-- whom an act may be of -/
def f_may (V : Int → Int) (a x : Int) : Prop := (0 ≤ a ∧ a ≤ 5) ∧ (a = 3 → 0 ≤ x ∧ x ≤ V 1) ∧ (4 ≤ a → 0 ≤ x ∧ x < V 2)
section
variable {V : Int → Int} {a x : Int}
theorem f_live_ok (hW : pr_W V) (hT : pr_T V) (hm : f_may V a x) : pr_T (f_live V a x) ∧ hd V (f_live V a x) := by
  obtain ⟨ha, h3, h45⟩ := hm
  have hS := hT.1
  have w1 := hW.2.1
  have w2 := hW.2.2.1
  have b49 := hS.2.1
  have b50 := hS.2.2.1
  have t50 := hT.2.1
  have b53 := hS.2.2.2.2.2.1
  have bg := hW.2.2.2.2.2.1 (V 49) b49.1 b49.2
  unfold f_live
  by_cases c0 : a = 0
  · rw [if_pos c0]
    exact ⟨hT.v50 hW (by omega), (hd.rf V).v1 (by omega)⟩
  rw [if_neg c0]
  by_cases c1 : a = 1
  · rw [if_pos c1]
    exact ⟨hT.v51 hW (Or.inr rfl), (hd.rf V).v1 (by omega)⟩
  rw [if_neg c1]
  by_cases c2 : a = 2
  · rw [if_pos c2]
    exact ⟨(hT.v51 hW (Or.inl rfl)).v50 (hW.v1 (by omega)) (by omega), ((hd.rf V).v1 (by omega)).v1 (by omega)⟩
  rw [if_neg c2]
  by_cases c3 : a = 3
  · rw [if_pos c3]
    have bx := h3 c3
    have bg2 := hW.2.2.2.2.2.1 x bx.1 bx.2
    exact ⟨(hT.v49 hW bx).v50 (hW.v1 (by omega)) (by omega), ((hd.rf V).v1 (by omega)).v1 (by omega)⟩
  rw [if_neg c3]
  have bx := h45 (by omega)
  exact ⟨hT.v53 hW (pu_x8 b53 (by omega)).2.2, (hd.rf V).v1 (by omega)⟩
end
section PC
variable {V : Int → Int} {h : mm_H} {m pl a x : Int}
theorem cl_act (hP : pr_P h pl V) (hM : pr_M h m V) (hW : pr_W V) (hT : pr_T V) (hm : f_may V a x) (hd : pl + 9 < m ∨ m + 3 < pl) (d : Nat) : ∃ h', mm_M mm_prog (d + 4) 26 [(12, m), (14, pl), (0, a), (0, x)] h = some (f_why V a x, h') ∧ pr_M h' m (if f_why V a x = 0 then f_live V a x else V) ∧ fr m h h' := by
  obtain ⟨ha, h3, h45⟩ := hm
  have hS := hT.1
  have w1 := hW.2.1
  have w2 := hW.2.2.1
  have b49 := hS.2.1
  have b50 := hS.2.2.1
  have t50 := hT.2.1
  have b51 := hS.2.2.2.1
  have b53 := hS.2.2.2.2.2.1
  have bg := hW.2.2.2.2.2.1 (V 49) b49.1 b49.2
  rw [e_X2_act]
  unfold f_why f_live
  by_cases c0 : a = 0
  · simp only [if_pos c0]
    rw [e_X2_takeFright, hM.2.2.2.1, hM.2.1, hM.2.2.1]
    by_cases q : V 51 = 0
    · rw [if_pos q, if_pos q, cl_gapOf hP hW, Option.bind_some, Option.bind_some]
      dsimp only
      rw [if_pos b49, pu_w (by omega) (by omega), q]
      exact ⟨_, rfl, hM.u2, (fr_rf m h).up (by omega)⟩
    · rw [if_neg q, if_neg q, Option.bind_some, show V 51 = 1 by omega]
      exact ⟨_, rfl, hM, fr_rf m h⟩
  simp only [if_neg c0]
  by_cases c1 : a = 1
  · simp only [if_pos c1]
    rw [e_X2_takeCure, hM.2.2.2.1]
    by_cases q : V 51 = 0
    · rw [if_pos q, if_pos q, Option.bind_some, q]
      exact ⟨_, rfl, hM.u3, (fr_rf m h).up (by omega)⟩
    · rw [if_neg q, if_neg q, Option.bind_some, show V 51 = 1 by omega]
      exact ⟨_, rfl, hM, fr_rf m h⟩
  simp only [if_neg c1]
  by_cases c2 : a = 2
  · simp only [if_pos c2]
    rw [e_X2_takeFly, hM.2.2.2.1]
    by_cases q : V 51 = 0
    · rw [if_pos q, if_neg (by omega), Option.bind_some, q]
      exact ⟨_, rfl, hM, fr_rf m h⟩
    · rw [if_neg q, if_pos (by omega), Option.bind_some, show 1 - V 51 = 0 by omega]
      exact ⟨_, rfl, hM.u3.u2, ((fr_rf m h).up (by omega)).up (by omega)⟩
  simp only [if_neg c2]
  by_cases c3 : a = 3
  · simp only [if_pos c3]
    have bx := h3 c3
    have bg2 := hW.2.2.2.2.2.1 x bx.1 bx.2
    rw [e_X2_changeBeater, hM.2.1]
    by_cases q : V 49 = x
    · rw [if_pos q, if_pos q, if_neg (by decide), Option.bind_some]
      exact ⟨_, rfl, hM, fr_rf m h⟩
    · have M1 := hM.u1 (v := x)
      have F1 := (fr_rf m h).up (k := 1) (v := x) (o := m) (by omega)
      rw [if_neg q, if_neg q, if_pos rfl, M1.2.2.1, vu_ne (by omega), cl_gapOf (hP.fr F1 hd) hW, Option.bind_some, Option.bind_some]
      dsimp only
      rw [if_pos bx]
      exact ⟨_, rfl, M1.u2, F1.up (by omega)⟩
  simp only [if_neg c3]
  have bx := h45 (by omega)
  by_cases c4 : a = 4
  · simp only [if_pos c4]
    rw [e_X2_goOut, cl_isOut hM hS bx.1 (by omega), Option.bind_some]
    cases w : f_out V x with
    | true => exact ⟨_, rfl, hM, fr_rf m h⟩
    | false =>
      rw [← (pu_x8 b53 (show 0 ≤ x ∧ x < 7 by omega)).1 w]
      refine ⟨mm_up h m 5 (mm_or (V 53) (mm_shl 1 x)), ?_, hM.u5, (fr_rf m h).up (by omega)⟩
      rw [← hM.2.2.2.2.2.1]
      rfl
  simp only [if_neg c4, if_pos (show a = 5 by omega)]
  rw [e_X2_comeIn, cl_isOut hM hS bx.1 (by omega), Option.bind_some]
  cases w : f_out V x with
  | false => exact ⟨_, rfl, hM, fr_rf m h⟩
  | true =>
    have ep := hM.2.2.2.2.2.2.1 x bx.1 bx.2
    show ∃ h', (Option.bind (if (1 : Int) = 0 then _ else _) _) = _ ∧ _
    dsimp only
    rw [if_neg (by decide), if_pos (by omega), ep.1, cl_walk hP hM hW hS, Option.bind_some, ← f_crowd_walk w]
    cases w2 : f_crowd V x with
    | true => exact ⟨_, rfl, hM, fr_rf m h⟩
    | false =>
      rw [← (pu_x8 b53 (show 0 ≤ x ∧ x < 7 by omega)).2.1 w]
      refine ⟨mm_up h m 5 (mm_and (V 53) (mm_xor (mm_shl 1 x) (-1))), ?_, hM.u5, (fr_rf m h).up (by omega)⟩
      rw [← hM.2.2.2.2.2.1]
      rfl
theorem rf_why (hW : pr_W V) (hT : pr_T V) (hm : f_may V a x) (d : Nat) : mm_M mm_prog (d + 4) 211 [(21, 133), (0, a), (0, x)] (vs h V) = some (f_why V a x, vs h V) := by
  obtain ⟨ha, h3, h45⟩ := hm
  have hS := hT.1
  have b51 := hS.2.2.2.1
  have w2 := hW.2.2.1
  rw [e_X12_why, r135, vs_at, vs_at]
  unfold f_why
  by_cases c0 : a = 0
  · rw [if_pos c0, if_pos c0]
  rw [if_neg c0, if_neg c0]
  by_cases c1 : a = 1
  · rw [if_pos c1, if_pos c1]
  rw [if_neg c1, if_neg c1]
  by_cases c2 : a = 2
  · rw [if_pos c2, if_pos c2, pu_w (by omega) (by omega)]
  rw [if_neg c2, if_neg c2]
  by_cases c3 : a = 3
  · rw [if_pos c3, if_pos c3]
    by_cases q : V 49 = x
    · rw [if_pos q, if_pos q]
    · rw [if_neg q, if_neg q]
  rw [if_neg c3, if_neg c3]
  have bx := h45 (by omega)
  by_cases c4 : a = 4
  · rw [if_pos c4, if_pos c4, rf_isOut hS bx.1 (by omega), Option.bind_some]
    cases f_out V x <;> rfl
  rw [if_neg c4, if_neg c4, rf_isOut hS bx.1 (by omega), Option.bind_some]
  cases f_out V x with
  | false => rfl
  | true =>
    show (if (1 : Int) = 0 then _ else _) = _
    dsimp only
    rw [if_neg (by decide), rf_crowd hW hS bx.1 bx.2, Option.bind_some]
    cases f_crowd V x <;> rfl
theorem rf_relieved (hW : pr_W V) (hx : 0 ≤ x ∧ x ≤ V 1) (d : Nat) : mm_M mm_prog (d + 2) 212 [(21, 133), (0, x)] (vs h V) = some (0, vs h (vu (vu V 49 x) 50 (min (V 50) (V (5 + x))))) := by
  have w1 := hW.2.1
  rw [e_X12_relieved, r135]
  simp only [vs_at, vs_up]
  rw [pu_w (x := 5 + x) (by omega) (by omega), if_pos (by omega), vu_ne (by omega), vu_ne (by omega), rf_least, Option.bind_some]
  simp only [vs_up]
theorem rf_live (hW : pr_W V) (hT : pr_T V) (hm : f_may V a x) (d : Nat) : mm_M mm_prog (d + 3) 213 [(21, 133), (0, a), (0, x)] (vs h V) = some (0, vs h (f_live V a x)) := by
  obtain ⟨ha, h3, h45⟩ := hm
  have hS := hT.1
  have w1 := hW.2.1
  have b49 := hS.2.1
  have b50 := hS.2.2.1
  have bg := hW.2.2.2.2.2.1 (V 49) b49.1 b49.2
  rw [e_X12_live, r135]
  simp only [vs_at, vs_up]
  unfold f_live
  by_cases c0 : a = 0
  · rw [if_pos c0, if_pos c0, pu_w (x := 5 + V 49) (by omega) (by omega), if_pos (by omega), pu_w (by omega) (by omega), rf_least, Option.bind_some]
    simp only [vs_up]
  rw [if_neg c0, if_neg c0]
  by_cases c1 : a = 1
  · rw [if_pos c1, if_pos c1]
  rw [if_neg c1, if_neg c1]
  by_cases c2 : a = 2
  · rw [if_pos c2, if_pos c2]
  rw [if_neg c2, if_neg c2]
  by_cases c3 : a = 3
  · rw [if_pos c3, if_pos c3, rf_relieved hW (h3 c3), Option.bind_some]
  rw [if_neg c3, if_neg c3]
end PC
