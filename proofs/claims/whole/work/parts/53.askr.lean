/-! The reference's small questions -/
theorem r135 : (133 : Int) + 2 = 135 := rfl
section PR
variable {V : Int → Int} {h : mm_H}
theorem rf_done1 (hW : pr_W V) (d : Nat) : mm_M mm_prog (d + 1) 202 [(21, 133)] (vs h V) = some (sp_done V, vs h V) := by
  have := rf_done (h := vs h V) (by rw [vs_row]; exact hW) d
  rw [vs_row] at this
  exact this
theorem rf_open1 (hW : pr_W V) (d : Nat) : mm_M mm_prog (d + 2) 203 [(21, 133)] (vs h V) = some (sp_open V, vs h V) := by
  have := rf_open (h := vs h V) (by rw [vs_row]; exact hW) d
  rw [vs_row] at this
  exact this
theorem rf_isIn {x a b : Int} (d : Nat) : mm_M mm_prog (d + 1) 160 [(0, x), (0, a), (0, b)] h = some (sp_b (decide (a ≤ x ∧ x ≤ b)), h) := by
  rw [e_X12_isIn]
  by_cases q : a ≤ x ∧ x ≤ b
  · rw [if_neg (by omega), if_neg (by omega), decide_eq_true q]; rfl
  · rw [decide_eq_false q]
    by_cases q1 : x < a
    · rw [if_pos q1]; rfl
    · rw [if_neg q1, if_pos (by omega)]; rfl
theorem rf_hasb {x k : Int} (hx : 0 ≤ x) (hx2 : x < 2147483648) (h0 : 0 ≤ k) (h1 : k < 32) (d : Nat) : mm_M mm_prog (d + 1) 161 [(0, x), (0, k)] h = some (sp_b (f_bit x k), h) := by
  cases w : f_bit x k with
  | true => exact (rf_has hx hx2 h0 h1 d).1 w
  | false => exact (rf_has hx hx2 h0 h1 d).2 (fun q => by rw [← f_bit_iff, w] at q; cases q)
theorem rf_least {x y : Int} (d : Nat) : mm_M mm_prog (d + 1) 162 [(0, x), (0, y)] h = some (min x y, h) := by
  rw [e_X12_least]
  by_cases q : x < y
  · rw [if_pos q, Int.min_def, if_pos (by omega)]
  · rw [if_neg q, Int.min_def]
    by_cases q2 : x ≤ y
    · rw [if_pos q2, show x = y by omega]
    · rw [if_neg q2]
theorem rf_isBeater {x : Int} (d : Nat) : mm_M mm_prog (d + 2) 197 [(21, 133), (0, x)] (vs h V) = some (sp_b (decide (0 ≤ x ∧ x ≤ V 1)), vs h V) := by
  rw [e_X12_isBeater, r135, vs_at, rf_isIn, Option.bind_some]
  exact if_pos (sp_b01 _)
theorem rf_isPerson (hW : pr_W V) {x : Int} (d : Nat) : mm_M mm_prog (d + 2) 198 [(21, 133), (0, x)] (vs h V) = some (sp_b (decide (0 ≤ x ∧ x < V 2)), vs h V) := by
  have w := hW.2.2.1
  rw [e_X12_isPerson, r135, vs_at, pu_w (by omega) (by omega), rf_isIn, Option.bind_some]
  have e : decide (0 ≤ x ∧ x ≤ V 2 - 1) = decide (0 ≤ x ∧ x < V 2) := by
    apply decide_eq_decide.mpr; omega
  rw [e]
  exact if_pos (sp_b01 _)
theorem rf_isWork (hW : pr_W V) {x : Int} (d : Nat) : mm_M mm_prog (d + 2) 199 [(21, 133), (0, x)] (vs h V) = some (sp_b (decide (0 ≤ x ∧ x < V 3)), vs h V) := by
  have w := hW.2.2.2.1
  rw [e_X12_isWork, r135, vs_at, pu_w (by omega) (by omega), rf_isIn, Option.bind_some]
  have e : decide (0 ≤ x ∧ x ≤ V 3 - 1) = decide (0 ≤ x ∧ x < V 3) := by
    apply decide_eq_decide.mpr; omega
  rw [e]
  exact if_pos (sp_b01 _)
theorem rf_isOut (hS : pr_S V) {p : Int} (h0 : 0 ≤ p) (h1 : p < 32) (d : Nat) : mm_M mm_prog (d + 2) 200 [(21, 133), (0, p)] (vs h V) = some (sp_b (f_out V p), vs h V) := by
  have b5 := hS.2.2.2.2.2.1
  rw [e_X12_isOut, r135, vs_at, rf_hasb b5.1 (by omega) h0 h1, Option.bind_some]
  exact if_pos (sp_b01 _)
theorem rf_stands (hS : pr_S V) (d : Nat) : mm_M mm_prog (d + 1) 201 [(21, 133)] (vs h V) = some (V 51, vs h V) := by
  have b := hS.2.2.2.1
  rw [e_X12_isStanding, r135, vs_at]
  rcases b with b | b <;> rw [b] <;> rfl
theorem rf_isBusy (hW : pr_W V) (hS : pr_S V) {p : Int} (h0 : 0 ≤ p) (h1 : p < V 2) (d : Nat) : mm_M mm_prog (d + 3) 204 [(21, 133), (0, p)] (vs h V) = some (sp_b (f_busy V p), vs h V) := by
  have w2 := hW.2.2.1
  have w3 := hW.2.2.2.1
  obtain ⟨so, sb⟩ := sp_open_ok hW
  rw [e_X12_isBusy, rf_isOut hS h0 (by omega), Option.bind_some]
  unfold f_busy
  cases f_out V p with
  | true => rfl
  | false =>
    show (if (0 : Int) = 0 then _ else _) = _
    dsimp only
    rw [if_pos rfl, rf_open1 hW, Option.bind_some]
    have e : sp_any (fun w => f_bit (sp_open V) w && decide (V (25 + w) = V (54 + p))) (V 3) = sp_any (fun w => f_bit (sp_open V) w && decide (V (25 + w) = V (54 + p))) 6 := by
      rw [Bool.eq_iff_iff, sp_any_iff, sp_any_iff]
      constructor
      · rintro ⟨k, k0, k1, k2⟩
        exact ⟨k, k0, by omega, k2⟩
      · rintro ⟨k, k0, k1, k2⟩
        rw [Bool.and_eq_true] at k2
        exact ⟨k, k0, ((sb k k0).mp k2.1).1, by rw [Bool.and_eq_true]; exact k2⟩
    rw [Bool.not_false, Bool.true_and, e]
    refine sp_any_run (R := fun i => mm_R mm_prog (d + 2) T_X12_isBusy 17 [(21, 133), (0, p), (0, sp_open V), (0, i)] [] (vs h V)) (by decide) (fun i i0 i1 => ?_) ?_
    · show mm_R mm_prog (d + 2) T_X12_isBusy 17 [(21, 133), (0, p), (0, sp_open V), (0, i)] [] (vs h V) = _
      rw [e_X12_isBusy_17, if_pos i1, rf_hasb (by omega) (by omega) i0 (by omega), Option.bind_some, pu_w (x := i + 1) (by omega) (by omega), pu_w (x := 25 + i) (by omega) (by omega), pu_w (x := 54 + p) (by omega) (by omega)]
      cases f_bit (sp_open V) i with
      | false => rfl
      | true =>
        show (if (1 : Int) = 0 then _ else _) = _
        dsimp only
        rw [if_neg (by decide), if_pos (by omega), if_pos (by omega)]
        simp only [r135, vs_at]
        by_cases q : V (25 + i) = V (54 + p)
        · rw [if_pos q, decide_eq_true q]; rfl
        · rw [if_neg q, decide_eq_false q]; rfl
    · show mm_R mm_prog (d + 2) T_X12_isBusy 17 [(21, 133), (0, p), (0, sp_open V), (0, 6)] [] (vs h V) = _
      rw [e_X12_isBusy_17, if_neg (by omega)]
def f_crowd (V : Int → Int) (p : Int) : Bool := sp_any (fun q => !decide (q = p) && (!f_out V q && decide (V (54 + q) = V (54 + p)))) (V 2)
theorem f_crowd_walk {p : Int} (ho : f_out V p = true) : f_crowd V p = f_walk V (V (54 + p)) := by
  unfold f_crowd f_walk
  apply sp_any_congr
  intro k _ _
  by_cases e : k = p
  · rw [e, ho]; simp
  · rw [decide_eq_false e]; rfl
theorem rf_crowd (hW : pr_W V) (hS : pr_S V) {p : Int} (h0 : 0 ≤ p) (h1 : p < V 2) (d : Nat) : mm_M mm_prog (d + 3) 210 [(21, 133), (0, p)] (vs h V) = some (sp_b (f_crowd V p), vs h V) := by
  have w2 := hW.2.2.1
  rw [e_X12_isCrowded]
  refine sp_any_run (R := fun i => mm_R mm_prog (d + 2) T_X12_isCrowded 2 [(21, 133), (0, p), (0, i)] [] (vs h V)) (by omega) (fun i i0 i1 => ?_) ?_
  · show mm_R mm_prog (d + 2) T_X12_isCrowded 2 [(21, 133), (0, p), (0, i)] [] (vs h V) = _
    rw [e_X12_isCrowded_2, r135, vs_at, if_pos i1, pu_w (x := i + 1) (by omega) (by omega), pu_w (x := 54 + i) (by omega) (by omega), pu_w (x := 54 + p) (by omega) (by omega)]
    by_cases e : i = p
    · rw [if_pos e, decide_eq_true e]; rfl
    · rw [if_neg e, decide_eq_false e, rf_isOut hS i0 (by omega), Option.bind_some]
      cases f_out V i with
      | true => rfl
      | false =>
        show (if (0 : Int) = 0 then _ else _) = _
        dsimp only
        rw [if_pos rfl, if_pos (by omega), if_pos (by omega)]
        simp only [vs_at]
        by_cases q : V (54 + i) = V (54 + p)
        · rw [if_pos q, decide_eq_true q]; rfl
        · rw [if_neg q, decide_eq_false q]; rfl
  · show mm_R mm_prog (d + 2) T_X12_isCrowded 2 [(21, 133), (0, p), (0, V 2)] [] (vs h V) = _
    rw [e_X12_isCrowded_2, r135, vs_at, if_neg (by omega)]
theorem rf_placeBehind (hW : pr_W V) (hS : pr_S V) {p k : Int} (h0 : 0 ≤ p) (h1 : p < V 2) (hk : 0 ≤ k ∧ k ≤ 99) (d : Nat) : mm_M mm_prog (d + 3) 226 [(21, 133), (0, p), (0, k)] (vs h V) = some (f_pb V p k, vs h V) := by
  have w2 := hW.2.2.1
  have w0 := hW.1
  have b := hS.2.2.2.2.2.2.1 p h0 h1
  have bw := hW.2.2.2.2.2.2.1 p h0 h1
  have m1 : 0 ≤ k * V (17 + p) := Int.mul_nonneg (by omega) (by omega)
  have m2 : k * V (17 + p) ≤ 99 * 3 := Int.mul_le_mul (by omega) (by omega) (by omega) (by omega)
  rw [e_X12_placeBehind, rf_isOut hS h0 (by omega), Option.bind_some, r135, pu_w (x := 54 + p) (by omega) (by omega), pu_w (x := 17 + p) (by omega) (by omega)]
  unfold f_pb
  cases f_out V p with
  | true =>
    show (if (1 : Int) = 0 then _ else _) = _
    dsimp only
    rw [if_neg (by decide), if_pos (by omega), vs_at]
    rfl
  | false =>
    show (if (0 : Int) = 0 then _ else _) = _
    dsimp only
    rw [if_pos rfl]
    simp only [vs_at]
    rw [if_pos (by omega), if_pos (by omega), if_neg (by omega), pu_w (x := k * V (17 + p)) (by omega) (by omega), pu_w (by omega) (by omega), pu_rem (by omega) (by omega) (by omega) (by omega)]
    rfl
end PR
