/-! Small questions -/
def f_out (V : Int → Int) (p : Int) : Bool := (V 53).toNat.testBit p.toNat
def f_bit (x k : Int) : Bool := x.toNat.testBit k.toNat
theorem f_bit_iff {x k : Int} : f_bit x k = true ↔ pu_bt x k := Iff.rfl
theorem sp_b_ne {b : Bool} : (sp_b b = 0) = (b = false) := by cases b <;> simp [sp_b]
theorem sp_b01 (b : Bool) : sp_b b = 0 ∨ sp_b b = 1 := by cases b <;> simp [sp_b]
section PC
variable {V : Int → Int} {h : mm_H} {m pl : Int}
theorem cl_hasBit {x k : Int} (hx : 0 ≤ x) (hx2 : x < 2147483648) (h0 : 0 ≤ k) (h1 : k < 32) (d : Nat) : mm_M mm_prog (d + 1) 152 [(0, x), (0, k)] h = some (sp_b (f_bit x k), h) := by
  rw [e_X11_hasBit]
  have e := pu_btu hx hx2 h0 h1
  cases w : f_bit x k with
  | true => rw [if_pos (e.mpr w)]; rfl
  | false => rw [if_neg (fun q => by have := e.mp q; rw [← f_bit_iff, w] at this; cases this)]; rfl
theorem cl_rem {x k : Int} (hx : 0 ≤ x) (hx2 : x < 2147483648) (h0 : 0 < k) (h1 : k < 2147483648) (d : Nat) : mm_M mm_prog (d + 1) 153 [(0, x), (0, k)] h = some (x % k, h) := by
  rw [e_X11_remainder, if_pos h0, if_neg (by omega), pu_rem hx hx2 h0 h1]
theorem cl_isOut (hM : pr_M h m V) (hS : pr_S V) {p : Int} (h0 : 0 ≤ p) (h1 : p < 32) (d : Nat) : mm_M mm_prog (d + 1) 17 [(12, m), (0, p)] h = some (sp_b (f_out V p), h) := by
  have e5 := hM.2.2.2.2.2.1
  have b5 := hS.2.2.2.2.2.1
  rw [e_X2_isOut, e5]
  have e := pu_btu b5.1 (by omega) h0 h1
  cases w : f_out V p with
  | true => rw [if_pos (e.mpr w)]; rfl
  | false => rw [if_neg (fun q => by have : f_out V p = true := e.mp q; rw [w] at this; cases this)]; rfl
theorem cl_isDone (hM : pr_M h m V) (hW : pr_W V) (hS : pr_S V) {w : Int} (h0 : 0 ≤ w) (h1 : w < V 3) (d : Nat) : mm_M mm_prog (d + 1) 18 [(12, m), (0, w)] h = some (sp_b (decide (V (68 + w) = 0)), h) := by
  have e := hM.2.2.2.2.2.2.2 w h0 h1
  have b := hS.2.2.2.2.2.2.2 w h0 h1
  have w3 := hW.2.2.2.1
  rw [e_X2_isDone, if_pos (by omega), e]
  by_cases q : V (68 + w) = 0
  · rw [if_neg (by omega), decide_eq_true q]; rfl
  · rw [if_pos (by omega), decide_eq_false q]; rfl
theorem cl_left (hM : pr_M h m V) (hS : pr_S V) (d : Nat) : mm_M mm_prog (d + 1) 19 [(12, m)] h = some (600 - V 48, h) := by
  have e := hM.1
  have b := hS.1
  rw [e_X2_secondsLeft, e, pu_w (by omega) (by omega)]
theorem cl_has (hP : pr_P h pl V) {s x : Int} (h0 : 0 ≤ s) (h1 : s < 4) (d : Nat) : mm_M mm_prog (d + 1) 51 [(14, pl), (0, s), (0, x)] h = some (sp_b (decide (0 ≤ x ∧ x < V (1 + s))), h) := by
  have e := hP.2.2.1 s h0 h1
  rw [e_X4_has, e]
  by_cases q : 0 ≤ x ∧ x < V (1 + s)
  · rw [if_neg (by omega), if_pos (by omega), if_pos (by omega), decide_eq_true q]; rfl
  · rw [decide_eq_false q]
    by_cases q1 : x < 0
    · rw [if_pos q1]; rfl
    · rw [if_neg q1, if_pos (by omega), if_neg (by omega)]; rfl
theorem cl_mayBeat (hP : pr_P h pl V) {x : Int} (d : Nat) : mm_M mm_prog (d + 1) 54 [(14, pl), (0, x)] h = some (sp_b (decide (0 ≤ x ∧ x ≤ V 1)), h) := by
  have e : h (pl + 1) 0 = V 1 := hP.2.2.1 0 (by decide) (by decide)
  rw [e_X4_mayBeat, e]
  by_cases q : 0 ≤ x ∧ x ≤ V 1
  · rw [if_neg (by omega), if_neg (by omega), decide_eq_true q]; rfl
  · rw [decide_eq_false q]
    by_cases q1 : x < 0
    · rw [if_pos q1]; rfl
    · rw [if_neg q1, if_pos (by omega)]; rfl
theorem cl_gapOf (hP : pr_P h pl V) (hW : pr_W V) {x : Int} (d : Nat) : mm_M mm_prog (d + 2) 55 [(14, pl), (0, x)] h = some (if 0 ≤ x ∧ x ≤ V 1 then V (5 + x) else -1, h) := by
  have w1 := hW.2.1
  rw [e_X4_gapOf, cl_mayBeat hP, Option.bind_some]
  by_cases q : 0 ≤ x ∧ x ≤ V 1
  · have e := hP.2.2.2.1 x q.1 q.2
    rw [if_pos q, decide_eq_true q]
    show (if (1 : Int) = 0 then _ else _) = _
    dsimp only
    rw [if_neg (by decide), if_pos (by omega), e]
  · rw [if_neg q, decide_eq_false q]; rfl
theorem cl_placeOn (hP : pr_P h pl V) (hW : pr_W V) {a b : Int} (ha : 0 ≤ a ∧ a < 100000) (hb : 0 ≤ b ∧ b < 100000) (d : Nat) : mm_M mm_prog (d + 2) 60 [(14, pl), (0, a), (0, b)] h = some ((a + b) % V 0, h) := by
  have w0 := hW.1
  rw [e_X4_placeOn, pu_w (by omega) (by omega), hP.1, cl_rem (by omega) (by omega) (by omega) (by omega), Option.bind_some]
def f_pb (V : Int → Int) (p k : Int) : Int := bif f_out V p then V (54 + p) else (V (54 + p) + k * V (17 + p)) % V 0
theorem f_pb_ok (hW : pr_W V) (hS : pr_S V) {p k : Int} (h0 : 0 ≤ p) (h1 : p < V 2) : 0 ≤ f_pb V p k ∧ f_pb V p k < V 0 := by
  have b := hS.2.2.2.2.2.2.1 p h0 h1
  have w0 := hW.1
  unfold f_pb
  cases f_out V p with
  | true => exact b.1
  | false => exact ⟨Int.emod_nonneg _ (by omega), Int.emod_lt_of_pos _ (by omega)⟩
theorem cl_placeBehind (hP : pr_P h pl V) (hM : pr_M h m V) (hW : pr_W V) (hS : pr_S V) {p k : Int} (h0 : 0 ≤ p) (h1 : p < V 2) (hk : 0 ≤ k ∧ k ≤ 99) (d : Nat) : mm_M mm_prog (d + 3) 24 [(12, m), (14, pl), (0, p), (0, k)] h = some (f_pb V p k, h) := by
  have w2 := hW.2.2.1
  have w0 := hW.1
  have e := hM.2.2.2.2.2.2.1 p h0 h1
  have b := hS.2.2.2.2.2.2.1 p h0 h1
  have eq := hP.2.2.2.2.1 p h0 h1
  have bw := hW.2.2.2.2.2.2.1 p h0 h1
  rw [e_X2_placeBehind, cl_isOut hM hS h0 (by omega), Option.bind_some]
  unfold f_pb
  cases f_out V p with
  | true =>
    show (if (1 : Int) = 0 then _ else _) = _
    dsimp only
    rw [if_neg (by decide), if_pos (by omega), e.1]
    rfl
  | false =>
    have m1 : 0 ≤ k * V (17 + p) := Int.mul_nonneg (by omega) (by omega)
    have m2 : k * V (17 + p) ≤ 99 * 3 := Int.mul_le_mul (by omega) (by omega) (by omega) (by omega)
    show (if (0 : Int) = 0 then _ else _) = _
    dsimp only
    rw [if_pos rfl, if_pos (by omega), if_pos (by omega), e.1, eq.2, pu_w (by omega) (by omega), cl_placeOn hP hW (by omega) (by omega), Option.bind_some]
    rfl
def f_walk (V : Int → Int) (x : Int) : Bool := sp_any (fun p => !f_out V p && decide (V (54 + p) = x)) (V 2)
theorem cl_walk (hP : pr_P h pl V) (hM : pr_M h m V) (hW : pr_W V) (hS : pr_S V) {x : Int} (d : Nat) : mm_M mm_prog (d + 2) 25 [(12, m), (14, pl), (0, x)] h = some (sp_b (f_walk V x), h) := by
  have w2 := hW.2.2.1
  have e2 : h (pl + 1) 1 = V 2 := hP.2.2.1 1 (by decide) (by decide)
  rw [e_X2_somebodyWalksAt]
  refine sp_any_run (R := fun i => mm_R mm_prog (d + 1) T_X2_somebodyWalksAt 2 [(12, m), (14, pl), (0, x), (0, i)] [] h) (by omega) (fun i h0 h1 => ?_) ?_
  · have e := hM.2.2.2.2.2.2.1 i h0 h1
    show mm_R mm_prog (d + 1) T_X2_somebodyWalksAt 2 [(12, m), (14, pl), (0, x), (0, i)] [] h = _
    rw [e_X2_somebodyWalksAt_2, e2, if_pos h1, cl_isOut hM hS h0 (by omega), Option.bind_some, pu_w (by omega) (by omega)]
    cases f_out V i with
    | true => rfl
    | false =>
      show (if (0 : Int) = 0 then _ else _) = _
      dsimp only
      rw [if_pos rfl, if_pos (by omega)]
      simp only [e.1]
      by_cases q : V (54 + i) = x
      · rw [if_pos q, decide_eq_true q]; rfl
      · rw [if_neg q, decide_eq_false q]; rfl
  · show mm_R mm_prog (d + 1) T_X2_somebodyWalksAt 2 [(12, m), (14, pl), (0, x), (0, V 2)] [] h = _
    rw [e_X2_somebodyWalksAt_2, e2, if_neg (by omega)]
def f_busy (V : Int → Int) (p : Int) : Bool := !f_out V p && sp_any (fun w => f_bit (sp_open V) w && decide (V (25 + w) = V (54 + p))) (V 3)
theorem cl_isBusy (hP : pr_P h pl V) (hM : pr_M h m V) (hW : pr_W V) (hS : pr_S V) {p : Int} (h0 : 0 ≤ p) (h1 : p < V 2) (d : Nat) : mm_M mm_prog (d + 3) 23 [(12, m), (14, pl), (0, p)] h = some (sp_b (f_busy V p), h) := by
  have w2 := hW.2.2.1
  have w3 := hW.2.2.2.1
  have e2 : h (pl + 1) 2 = V 3 := hP.2.2.1 2 (by decide) (by decide)
  have ep := hM.2.2.2.2.2.2.1 p h0 h1
  have so := (sp_open_ok hW).1
  rw [e_X2_isBusy, cl_isOut hM hS h0 (by omega), Option.bind_some]
  unfold f_busy
  cases f_out V p with
  | true => rfl
  | false =>
    show (if (0 : Int) = 0 then _ else _) = _
    dsimp only
    rw [if_pos rfl, cl_open hP hM hW hS d, Option.bind_some]
    refine sp_any_run (R := fun i => mm_R mm_prog (d + 2) T_X2_isBusy 19 [(12, m), (14, pl), (0, p), (0, sp_open V), (0, i)] [] h) (by omega) (fun i i0 i1 => ?_) ?_
    · have ew := hP.2.2.2.2.2.1 i i0 i1
      show mm_R mm_prog (d + 2) T_X2_isBusy 19 [(12, m), (14, pl), (0, p), (0, sp_open V), (0, i)] [] h = _
      rw [e_X2_isBusy_19, e2, if_pos i1, cl_hasBit (by omega) (by omega) i0 (by omega), Option.bind_some, pu_w (by omega) (by omega)]
      cases f_bit (sp_open V) i with
      | false => rfl
      | true =>
        show (if (1 : Int) = 0 then _ else _) = _
        dsimp only
        rw [if_neg (by decide), if_pos (by omega), if_pos (by omega)]
        simp only [ew.1, ep.1]
        by_cases q : V (25 + i) = V (54 + p)
        · rw [if_pos q, decide_eq_true q]; rfl
        · rw [if_neg q, decide_eq_false q]; rfl
    · show mm_R mm_prog (d + 2) T_X2_isBusy 19 [(12, m), (14, pl), (0, p), (0, sp_open V), (0, V 3)] [] h = _
      rw [e_X2_isBusy_19, e2, if_neg (by omega)]
theorem cl_how (hP : pr_P h pl V) (hM : pr_M h m V) (hW : pr_W V) (hS : pr_S V) {w : Int} (h0 : 0 ≤ w) (h1 : w < V 3) (d : Nat) : mm_M mm_prog (d + 3) 22 [(12, m), (14, pl), (0, w)] h = some (if V (68 + w) = 0 then 2 else sp_b (f_bit (sp_open V) w), h) := by
  have w3 := hW.2.2.2.1
  have so := (sp_open_ok hW).1
  rw [e_X2_howWorkIs, cl_isDone hM hW hS h0 h1, Option.bind_some]
  by_cases q : V (68 + w) = 0
  · rw [if_pos q, decide_eq_true q]; rfl
  · rw [if_neg q, decide_eq_false q]
    show (if (0 : Int) = 0 then _ else _) = _
    dsimp only
    rw [if_pos rfl, cl_open hP hM hW hS d, Option.bind_some, cl_hasBit (by omega) (by omega) h0 (by omega), Option.bind_some]
    cases f_bit (sp_open V) w <;> rfl
end PC
