/-! A person; what may be said -/
def f_per (V : Int → Int) (p w : Int) : Int := if w = 0 then V (54 + p) else if w = 1 then V (17 + p) else if w = 2 then sp_b (f_out V p) else if w = 3 then V (61 + p) else sp_b (f_busy V p)
theorem ite_b (b : Bool) (h : mm_H) : (if sp_b b = 0 then some ((0 : Int), h) else some (1, h)) = some (sp_b b, h) := by
  cases b <;> rfl
theorem k_personOk (p w : Int) (d : Nat) (h : mm_H) (hI : Inv h) (hp : 0 ≤ p ∧ p < h 135 2) (hw : 0 ≤ w ∧ w ≤ 4) : mm_M mm_prog (d + 100) 284 [(20, 0), (0, p), (0, w)] h = some (f_per (h 135) p w, h) ∧ mm_M mm_prog (d + 100) 205 [(21, 133), (0, p), (0, w)] h = some (f_per (h 135) p w, mm_up h 133 0 0) := by
  have M := hI.M
  have P := hI.P
  have w2 := hI.W.2.2.1
  have e1 := P.2.2.2.2.1 p hp.1 hp.2
  have e2 := M.2.2.2.2.2.2.1 p hp.1 hp.2
  constructor
  · rw [e_X11_person]
    simp only [n15, n25]
    rw [cl_has P (by decide) (by decide), Option.bind_some]
    simp only [Int.reduceAdd]
    rw [decide_eq_true hp]
    show (if (1 : Int) = 0 then _ else _) = _
    simp only [Int.reduceAdd] at e1 e2
    rw [if_neg (by decide), if_pos (show 0 ≤ p ∧ p < 7 by omega), if_pos (show 0 ≤ p ∧ p < 7 by omega), if_pos (show 0 ≤ p ∧ p < 7 by omega), e1.2, e2.1, e2.2, cl_isOut M hI.S hp.1 (by omega), Option.bind_some, cl_isBusy P M hI.W hI.S hp.1 hp.2, Option.bind_some]
    dsimp only
    rw [ite_b, ite_b]
    unfold f_per
    by_cases c0 : w = 0
    · rw [if_pos c0, if_pos c0]
    rw [if_neg c0, if_neg c0]
    by_cases c1 : w = 1
    · rw [if_pos c1, if_pos c1]
    rw [if_neg c1, if_neg c1]
    by_cases c2 : w = 2
    · rw [if_pos c2, if_pos c2]
    rw [if_neg c2, if_neg c2]
    by_cases c3 : w = 3
    · rw [if_pos c3, if_pos c3]
    rw [if_neg c3, if_neg c3, if_pos (by omega)]
  · have hq := rf_isPerson (V := h 135) (h := mm_up h 133 0 0) hI.W (x := p) (d + 97)
    have ho := rf_isOut (V := h 135) (h := mm_up h 133 0 0) hI.S (p := p) hp.1 (by omega) (d + 97)
    have hb := rf_isBusy (V := h 135) (h := mm_up h 133 0 0) hI.W hI.S (p := p) hp.1 hp.2 (d + 96)
    rw [th_vs rfl] at hq ho hb
    rw [decide_eq_true hp] at hq
    rw [e_X12_person, hq, Option.bind_some]
    show (if (1 : Int) = 0 then _ else _) = _
    rw [if_neg (by decide)]
    dsimp only
    rw [pu_w (x := 54 + p) (by omega) (by omega), pu_w (x := 17 + p) (by omega) (by omega), pu_w (x := 61 + p) (by omega) (by omega), if_pos (show 0 ≤ 54 + p ∧ 54 + p < 316 by omega), if_pos (show 0 ≤ 17 + p ∧ 17 + p < 316 by omega), if_pos (show 0 ≤ 61 + p ∧ 61 + p < 316 by omega), r135, th_row, ho, Option.bind_some, hb, Option.bind_some]
    dsimp only
    rw [ite_b, ite_b]
    unfold f_per
    by_cases c0 : w = 0
    · rw [if_pos c0, if_pos c0]
    rw [if_neg c0, if_neg c0]
    by_cases c1 : w = 1
    · rw [if_pos c1, if_pos c1]
    rw [if_neg c1, if_neg c1]
    by_cases c2 : w = 2
    · rw [if_pos c2, if_pos c2]
    rw [if_neg c2, if_neg c2]
    by_cases c3 : w = 3
    · rw [if_pos c3, if_pos c3]
    rw [if_neg c3, if_neg c3, if_pos (by omega)]
theorem k_personNo (p w : Int) (d : Nat) (h : mm_H) (hI : Inv h) (hn : ¬ ((0 ≤ p ∧ p < h 135 2) ∧ 0 ≤ w ∧ w ≤ 4)) : mm_M mm_prog (d + 100) 205 [(21, 133), (0, p), (0, w)] h = some (0, mm_up h 133 0 1) := by
  have hq := rf_isPerson (V := h 135) (h := mm_up h 133 0 0) hI.W (x := p) (d + 97)
  rw [th_vs rfl] at hq
  rw [e_X12_person, hq, Option.bind_some]
  by_cases c : 0 ≤ p ∧ p < h 135 2
  · rw [decide_eq_true c]
    show (if (1 : Int) = 0 then _ else _) = _
    rw [if_neg (by decide), if_neg (by omega), if_neg (by omega), if_neg (by omega), if_neg (by omega), if_neg (by omega)]
    dsimp only
    rw [e_X12_refuse, Option.bind_some, up_up]
  · rw [decide_eq_false c]
    show (if (0 : Int) = 0 then _ else _) = _
    rw [if_pos rfl]
    dsimp only
    rw [e_X12_refuse, Option.bind_some, up_up]
/-! Bits of a row of what is still to be joined -/
def bv (x : Int) : BitVec 32 := (Int32.ofInt x).toBitVec
def bvs (x : Int) (st : List Bool) : Prop := ∀ j, j < 32 → (bv x).getLsbD j = st.getD j false
theorem bv_toInt (z : Int32) : bv z.toInt = z.toBitVec := by
  unfold bv
  rw [Int32.ofInt_toInt]
theorem bv_1 : ∀ j : Fin 32, (bv 1).getLsbD j = decide (j.val = 0) := by decide
theorem bv_0 : ∀ j : Fin 32, (bv 0).getLsbD j = false := by decide
theorem bv_m2 : ∀ j : Fin 32, (bv (-2)).getLsbD j = decide (j.val ≠ 0) := by decide
theorem bvs_not {x : Int} {b : Bool} {st : List Bool} (h : bvs x (b :: st)) : bvs (mm_xor x 1) ((!b) :: st) := fun j hj => by
  unfold mm_xor
  rw [bv_toInt, Int32.toBitVec_xor, BitVec.getLsbD_xor]
  show ((bv x).getLsbD j ^^ (bv 1).getLsbD j) = _
  rw [h j hj, bv_1 ⟨j, hj⟩]
  cases j with
  | zero => cases b <;> rfl
  | succ j =>
    rw [decide_eq_false (show ¬ (⟨j + 1, hj⟩ : Fin 32).val = 0 from Nat.succ_ne_zero j), Bool.xor_false]
    rfl
theorem bv_shl (x : Int) (j : Nat) (hj : j < 32) : (bv (mm_shl x 1)).getLsbD j = (!decide (j < 1) && (bv x).getLsbD (j - 1)) := by
  unfold mm_shl
  rw [bv_toInt, Int32.toBitVec_shiftLeft]
  show ((bv x) <<< ((Int32.ofInt 1 &&& 31).toBitVec.smod 32)).getLsbD j = _
  rw [BitVec.shiftLeft_eq', (pu_sk (k := 1) (by decide) (by decide)).1, BitVec.getLsbD_shiftLeft, decide_eq_true hj, Bool.true_and]
  rfl
theorem bvs_push {x : Int} {b : Bool} {st : List Bool} (h : bvs x st) : bvs (mm_or (mm_shl x 1) (sp_b b)) (b :: st) := fun j hj => by
  unfold mm_or
  rw [bv_toInt, Int32.toBitVec_or, BitVec.getLsbD_or]
  show ((bv (mm_shl x 1)).getLsbD j || (bv (sp_b b)).getLsbD j) = _
  rw [bv_shl x j hj]
  have eb : (bv (sp_b b)).getLsbD j = (b && decide (j = 0)) := by
    cases b
    · exact bv_0 ⟨j, hj⟩
    · exact bv_1 ⟨j, hj⟩
  rw [eb]
  cases j with
  | zero => cases b <;> rfl
  | succ j =>
    rw [decide_eq_false (show ¬ j + 1 < 1 by omega), decide_eq_false (Nat.succ_ne_zero j), Bool.and_false, Bool.or_false, Bool.not_false, Bool.true_and, Nat.add_sub_cancel, h j (by omega)]
    rfl
theorem bv_shr (x : Int) (j : Nat) : (bv (mm_ushr x 1)).getLsbD j = (bv x).getLsbD (1 + j) := by
  unfold mm_ushr
  rw [bv_toInt]
  show (((Int32.ofInt x).toUInt32 >>> ((Int32.ofInt 1).toUInt32 &&& Int32.toUInt32 31)).toBitVec).getLsbD j = _
  rw [UInt32.toBitVec_shiftRight]
  show ((bv x) >>> (((Int32.ofInt 1).toUInt32 &&& Int32.toUInt32 31).toBitVec % 32)).getLsbD j = _
  rw [BitVec.ushiftRight_eq', (pu_sk (k := 1) (by decide) (by decide)).2, BitVec.getLsbD_ushiftRight]
  rfl
theorem bvs_and {x : Int} {a b : Bool} {st : List Bool} (h : bvs x (b :: a :: st)) (hl : st.length ≤ 30) : bvs (mm_and (mm_ushr x 1) (mm_or x (-2))) ((a && b) :: st) := fun j hj => by
  have eo : (bv (mm_or x (-2))).getLsbD j = ((bv x).getLsbD j || decide (j ≠ 0)) := by
    unfold mm_or
    rw [bv_toInt, Int32.toBitVec_or, BitVec.getLsbD_or]
    show ((bv x).getLsbD j || (bv (-2)).getLsbD j) = _
    rw [bv_m2 ⟨j, hj⟩]
  unfold mm_and
  rw [bv_toInt, Int32.toBitVec_and, BitVec.getLsbD_and]
  show ((bv (mm_ushr x 1)).getLsbD j && (bv (mm_or x (-2))).getLsbD j) = _
  rw [eo, bv_shr]
  cases j with
  | zero =>
    rw [h 1 (by decide), h 0 (by decide)]
    cases a <;> cases b <;> rfl
  | succ j =>
    rw [decide_eq_true (Nat.succ_ne_zero j), Bool.or_true, Bool.and_true]
    by_cases z : j + 2 < 32
    · rw [show 1 + (j + 1) = j + 2 by omega, h (j + 2) z]
      rfl
    · rw [BitVec.getLsbD_of_ge _ _ (by omega)]
      show false = st.getD j false
      rw [List.getD_eq_getElem?_getD, List.getElem?_eq_none (by omega)]
      rfl
theorem bvs_or {x : Int} {a b : Bool} {st : List Bool} (h : bvs x (b :: a :: st)) (hl : st.length ≤ 30) : bvs (mm_or (mm_ushr x 1) (mm_and x 1)) ((a || b) :: st) := fun j hj => by
  have eo : (bv (mm_and x 1)).getLsbD j = ((bv x).getLsbD j && decide (j = 0)) := by
    unfold mm_and
    rw [bv_toInt, Int32.toBitVec_and, BitVec.getLsbD_and]
    show ((bv x).getLsbD j && (bv 1).getLsbD j) = _
    rw [bv_1 ⟨j, hj⟩]
  unfold mm_or
  rw [bv_toInt, Int32.toBitVec_or, BitVec.getLsbD_or]
  show ((bv (mm_ushr x 1)).getLsbD j || (bv (mm_and x 1)).getLsbD j) = _
  rw [eo, bv_shr]
  cases j with
  | zero =>
    rw [h 1 (by decide), h 0 (by decide)]
    cases a <;> cases b <;> rfl
  | succ j =>
    rw [decide_eq_false (Nat.succ_ne_zero j), Bool.and_false, Bool.or_false]
    by_cases z : j + 2 < 32
    · rw [show 1 + (j + 1) = j + 2 by omega, h (j + 2) z]
      rfl
    · rw [BitVec.getLsbD_of_ge _ _ (by omega)]
      show false = st.getD j false
      rw [List.getD_eq_getElem?_getD, List.getElem?_eq_none (by omega)]
      rfl
theorem bvs_top {x : Int} {b : Bool} {st : List Bool} (h : bvs x (b :: st)) : (mm_and x 1 = 1) = (b = true) := by
  have h0 := h 0 (by decide)
  have ha : ∀ v : Bool, (bv x).getLsbD 0 = v → mm_and x 1 = sp_b v := fun v hv => by
    unfold mm_and
    have e : (Int32.ofInt x &&& Int32.ofInt 1).toBitVec.toNat = (bv x).toNat % 2 := by
      rw [Int32.toBitVec_and, BitVec.toNat_and, show (Int32.ofInt 1).toBitVec.toNat = 1 from by decide, Nat.and_one_is_mod]
      rfl
    have e2 : (bv x).getLsbD 0 = decide ((bv x).toNat % 2 = 1) := by
      show (bv x).toNat.testBit 0 = _
      rw [Nat.testBit_zero]
    rw [pu_ti (by rw [e]; omega), e]
    rw [e2] at hv
    cases v
    · have := of_decide_eq_false hv
      show (((bv x).toNat % 2 : Nat) : Int) = 0
      omega
    · have := of_decide_eq_true hv
      show (((bv x).toNat % 2 : Nat) : Int) = 1
      omega
  rw [ha b h0]
  cases b <;> simp [sp_b]
theorem bvs_0 : bvs 0 [] := fun j hj => bv_0 ⟨j, hj⟩
