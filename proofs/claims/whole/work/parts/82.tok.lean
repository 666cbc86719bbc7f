/-! TOKENS: the class's tape (1, 2) in one heap, the reference's (133, 134) in another -/
theorem up_self (h : mm_H) (o k : Int) : mm_up h o k (h o k) = h := by
  funext o' k'
  rw [pu_up]
  by_cases c : o' = o ∧ k' = k
  · rw [if_pos c, c.1, c.2]
  · rw [if_neg c]
theorem up_id {h : mm_H} {o k v : Int} (e : h o k = v) : mm_up h o k v = h := by rw [← e, up_self]
theorem w8c {x : Int} (h0 : 0 ≤ x) (h1 : x ≤ 255) : (x < 128 ∧ mm_w8 x = x) ∨ (128 ≤ x ∧ mm_w8 x = x - 256) := by
  unfold mm_w8
  rw [Int.bmod_def]
  split <;> omega
def isLb (x : Int) : Bool := decide (97 ≤ x ∧ x ≤ 122)
def isDb (x : Int) : Bool := decide (48 ≤ x ∧ x ≤ 57)
def AL (x : Int) : Prop := (97 ≤ x ∧ x ≤ 122) ∨ (48 ≤ x ∧ x ≤ 57)
theorem rf_isLetter {x : Int} (h : mm_H) (d : Nat) : mm_M mm_prog (d + 1) 167 [(0, x)] h = some (sp_b (isLb x), h) := by
  rw [e_X12_isLetter]
  unfold isLb
  by_cases a : x < 97
  · rw [if_pos a, decide_eq_false (by omega)]; rfl
  · rw [if_neg a]
    by_cases b : 122 < x
    · rw [if_pos b, decide_eq_false (by omega)]; rfl
    · rw [if_neg b, decide_eq_true (by omega)]; rfl
theorem rf_isDigit {x : Int} (h : mm_H) (d : Nat) : mm_M mm_prog (d + 1) 166 [(0, x)] h = some (sp_b (isDb x), h) := by
  rw [e_X12_isDigit]
  unfold isDb
  by_cases a : x < 48
  · rw [if_pos a, decide_eq_false (by omega)]; rfl
  · rw [if_neg a]
    by_cases b : 57 < x
    · rw [if_pos b, decide_eq_false (by omega)]; rfl
    · rw [if_neg b, decide_eq_true (by omega)]; rfl
def TB (c r : mm_H) (n most : Int) : Prop := c 1 1 = n ∧ c 1 2 = most ∧ (0 ≤ n ∧ n ≤ 940) ∧ (0 ≤ most ∧ most ≤ 900) ∧ r 133 3 = n ∧ r 133 4 = most ∧ ∀ i, 0 ≤ i → i < n → (0 ≤ r 134 i ∧ r 134 i ≤ 255) ∧ c 2 i = mm_w8 (r 134 i)
theorem TB.cg {c r c' r' : mm_H} {n most : Int} (hB : TB c r n most) (e1 : c' 1 1 = c 1 1) (e2 : c' 1 2 = c 1 2) (e3 : ∀ k, c' 2 k = c 2 k) (e4 : r' 133 3 = r 133 3) (e5 : r' 133 4 = r 133 4) (e6 : ∀ k, r' 134 k = r 134 k) : TB c' r' n most := by
  obtain ⟨a, b, c0, c1, f, g, i⟩ := hB
  refine ⟨e1.trans a, e2.trans b, c0, c1, e4.trans f, e5.trans g, fun j h0 h1 => ?_⟩
  rw [e3, e6]
  exact i j h0 h1
theorem TB.upc {c r : mm_H} {n most k v : Int} (hB : TB c r n most) (hk : 3 ≤ k) : TB (mm_up c 1 k v) r n most := hB.cg (pu_sl (by omega)) (pu_sl (by omega)) (fun _ => pu_ob (by decide)) rfl rfl (fun _ => rfl)
theorem TB.upr {c r : mm_H} {n most k v : Int} (hB : TB c r n most) (hk : 5 ≤ k) : TB c (mm_up r 133 k v) n most := hB.cg rfl rfl (fun _ => rfl) (pu_sl (by omega)) (pu_sl (by omega)) (fun _ => pu_ob (by decide))
abbrev goL : List mm_V := [(21, 133), (9, 0), (9, 0), (9, 0), (9, 0)]
theorem tk_skip {n most : Int} (d d' : Nat) : ∀ (m : Nat) (p : Int) (c r : mm_H), TB c r n most → c 1 3 = p → r 133 5 = p → 0 ≤ p → p + m = n → ∃ p', p ≤ p' ∧ p' ≤ n ∧ mm_R mm_prog d T_X8_skipBlanks 0 [(18, 1)] [] c = some (0, mm_up c 1 3 p') ∧ mm_R mm_prog d' T_X12_go 0 goL [] r = mm_R mm_prog d' T_X12_go 52 goL [] (mm_up r 133 5 p')
  | 0, p, c, r, hB, hc, hr, h0, hm => by
    refine ⟨p, Int.le_refl _, by omega, ?_, ?_⟩
    · rw [e_X8_skipBlanks_0, hc, hB.1, if_neg (by omega), up_id hc]
    · rw [e_X12_go_0, hr, hB.2.2.2.2.1, if_neg (by omega), up_id hr]
  | m + 1, p, c, r, hB, hc, hr, h0, hm => by
    have b := hB.2.2.1
    obtain ⟨b0, b1⟩ := hB.2.2.2.2.2.2 p h0 (by omega)
    have w := w8c b0.1 b0.2
    rw [← b1] at w
    by_cases z : r 134 p = 32 ∨ r 134 p = 10
    · obtain ⟨p', q0, q1, q2, q3⟩ := tk_skip d d' m (p + 1) (mm_up c 1 3 (p + 1)) (mm_up r 133 5 (p + 1)) ((hB.upc (by decide)).upr (by decide)) (pu_eq _ _ _ _) (pu_eq _ _ _ _) (by omega) (by omega)
      rw [up_up] at q2 q3
      refine ⟨p', by omega, q1, ?_, ?_⟩
      · rw [e_X8_skipBlanks_0, hc, hB.1, if_pos (by omega), if_pos (by omega), show (1 : Int) + 1 = 2 from rfl, pu_w (by omega) (by omega), q2]
        by_cases z1 : c 2 p = 32
        · rw [if_pos z1]
        · rw [if_neg z1, if_pos (by omega), if_pos (by omega)]
      · rw [e_X12_go_0, hr, hB.2.2.2.2.1, if_pos (by omega), if_pos (by omega), show (133 : Int) + 1 = 134 from rfl, e_X12_go_39, hr, pu_w (by omega) (by omega), q3]
        by_cases z1 : r 134 p = 32
        · rw [if_pos z1]
        · rw [if_neg z1, if_pos (by omega), if_pos (by omega)]
    · refine ⟨p, Int.le_refl _, by omega, ?_, ?_⟩
      · rw [e_X8_skipBlanks_0, hc, hB.1, if_pos (by omega), if_pos (by omega), show (1 : Int) + 1 = 2 from rfl, if_neg (by omega), if_pos (by omega), if_neg (by omega), up_id hc]
      · rw [e_X12_go_0, hr, hB.2.2.2.2.1, if_pos (by omega), if_pos (by omega), show (133 : Int) + 1 = 134 from rfl, if_neg (by omega), if_pos (by omega), if_neg (by omega), up_id hr]
theorem al_run (B : Int → Int) (n : Int) : ∀ (m : Nat) (p : Int), p + m = n → ∃ q, p ≤ q ∧ q ≤ n ∧ (∀ i, p ≤ i → i < q → AL (B i)) ∧ (q < n → ¬ AL (B q))
  | 0, p, hm => ⟨p, Int.le_refl _, by omega, fun i h0 h1 => by omega, fun h => by omega⟩
  | m + 1, p, hm => by
    by_cases c : AL (B p)
    · obtain ⟨q, a, b, e, f⟩ := al_run B n m (p + 1) (by omega)
      refine ⟨q, by omega, b, fun i h0 h1 => ?_, f⟩
      by_cases z : i = p
      · rw [z]; exact c
      · exact e i (by omega) h1
    · exact ⟨p, Int.le_refl _, by omega, fun i h0 h1 => by omega, fun _ => c⟩
/-- how many letters and digits there are from p to i -/
def cntI (B : Int → Int) (p i a b : Int) : Prop := 0 ≤ a ∧ 0 ≤ b ∧ a + b = i - p ∧ (a = 0 → ∀ j, p ≤ j → j < i → 48 ≤ B j ∧ B j ≤ 57) ∧ (b = 0 → ∀ j, p ≤ j → j < i → 97 ≤ B j ∧ B j ≤ 122) ∧ ((∀ j, p ≤ j → j < i → 48 ≤ B j ∧ B j ≤ 57) → a = 0) ∧ ((∀ j, p ≤ j → j < i → 97 ≤ B j ∧ B j ≤ 122) → b = 0)
theorem ex_if {α : Type} (a b : Int) (G BAD JD JL : α) (a0 : 0 ≤ a) (b0 : 0 ≤ b) (ab : 1 ≤ a + b) : (if a = 0 then (if b = 0 then G else (if b = 0 then (if 7 < a then (if a = 0 then (if 3 < b then BAD else JD) else BAD) else JL) else (if a = 0 then (if 3 < b then BAD else JD) else BAD))) else (if b = 0 then (if 7 < a then (if a = 0 then (if 3 < b then BAD else JD) else BAD) else JL) else (if a = 0 then (if 3 < b then BAD else JD) else BAD))) = if b = 0 ∧ a ≤ 7 then JL else if a = 0 ∧ b ≤ 3 then JD else BAD := by
  by_cases A : a = 0
  · rw [if_pos A, if_neg (show ¬ b = 0 by omega), if_neg (show ¬ b = 0 by omega), if_pos A, if_neg (show ¬ (b = 0 ∧ a ≤ 7) by omega)]
    by_cases B : 3 < b
    · rw [if_pos B, if_neg (by omega)]
    · rw [if_neg B, if_pos (by omega)]
  · rw [if_neg A, if_neg A]
    by_cases B : b = 0
    · rw [if_pos B]
      by_cases C : 7 < a
      · rw [if_pos C, if_neg (by omega), if_neg (by omega)]
      · rw [if_neg C, if_pos (by omega)]
    · rw [if_neg B, if_neg (by omega), if_neg (by omega)]
set_option maxHeartbeats 4000000 in
theorem cl_tend {n most q a b : Int} {u : mm_V} {c r : mm_H} (hB : TB c r n most) (q0 : 0 ≤ q) (hc : c 1 3 = q) (hq : q < n → ¬ AL (r 134 q)) (a0 : 0 ≤ a) (b0 : 0 ≤ b) (ab : 1 ≤ a + b) (d : Nat) : mm_R mm_prog d T_X8_readToken 4 [(18, 1), (0, a), (0, b), u] [] c = if b = 0 ∧ a ≤ 7 then some (0, mm_up c 1 4 2) else if a = 0 ∧ b ≤ 3 then some (0, mm_up (mm_up c 1 7 0) 1 4 3) else some (0, mm_up (mm_up c 1 7 0) 1 4 1) := by
  have bn := hB.2.2.1
  rw [e_X8_readToken_4, hc, hB.1, show (1 : Int) + 1 = 2 from rfl]
  by_cases z : q < n
  · obtain ⟨c0, c1⟩ := hB.2.2.2.2.2.2 q (by omega) (by omega)
    have w := w8c c0.1 c0.2
    rw [← c1] at w
    have hA1 := hq z
    unfold AL at hA1
    rw [if_pos z, if_pos (by omega)]
    by_cases z1 : c 2 q < 97
    · rw [if_pos z1]
      by_cases z2 : c 2 q < 48
      · rw [if_pos z2, ex_if a b _ _ _ _ a0 b0 ab]
      · rw [if_neg z2, if_pos (by omega), ex_if a b _ _ _ _ a0 b0 ab]
    · rw [if_neg z1, if_pos (by omega), if_neg (by omega), if_pos (by omega), ex_if a b _ _ _ _ a0 b0 ab]
  · rw [if_neg z, ex_if a b _ _ _ _ a0 b0 ab]
