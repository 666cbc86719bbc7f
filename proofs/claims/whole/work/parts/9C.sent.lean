/-! SENTENCES: trees of nodes, and what the class has of them -/
def f_tr (N : Int → Int) (c2 c3 : Int) : Nat → Int → Prop
  | 0, _ => False
  | n + 1, k => (0 ≤ k ∧ k < n + 1) ∧ ((N (4 * k) = 1 ∧ f_tr N c2 c3 n (N (4 * k + 1))) ∨ ((N (4 * k) = 2 ∨ N (4 * k) = 3) ∧ f_tr N c2 c3 n (N (4 * k + 1)) ∧ f_tr N c2 c3 n (N (4 * k + 2))) ∨ f_lok c2 c3 (N (4 * k)) (N (4 * k + 1)) (N (4 * k + 2)) (N (4 * k + 3)))
theorem lok_n {c2 c3 w x y r : Int} (q : f_lok c2 c3 w x y r) : w ≠ 1 ∧ w ≠ 2 ∧ w ≠ 3 := by
  unfold f_lok at q
  omega
theorem tr_cg {N N' : Int → Int} {c2 c3 : Int} : ∀ (n : Nat) (k : Int), (∀ j : Int, 0 ≤ j → j < 4 * n → N' j = N j) → f_tr N c2 c3 n k → f_tr N' c2 c3 n k ∧ f_post N' n k = f_post N n k ∧ f_lv N' n k = f_lv N n k
  | 0, _, _, h => h.elim
  | n + 1, k, e, h => by
    obtain ⟨hk, hh⟩ := h
    have e0 := e (4 * k) (by omega) (by omega)
    have e1 := e (4 * k + 1) (by omega) (by omega)
    have e2 := e (4 * k + 2) (by omega) (by omega)
    have e3 := e (4 * k + 3) (by omega) (by omega)
    have ih := fun k' => tr_cg (c2 := c2) (c3 := c3) n k' (fun j j0 j1 => e j j0 (by omega))
    unfold f_tr f_post f_lv
    rw [e0, e1, e2, e3]
    rcases hh with ⟨q, w⟩ | ⟨q, w1, w2⟩ | q
    · obtain ⟨a, b, c⟩ := ih _ w
      rw [if_pos q, if_pos q, if_pos q, if_pos q, b, c]
      exact ⟨⟨hk, Or.inl ⟨q, a⟩⟩, rfl, rfl⟩
    · obtain ⟨a, b, c⟩ := ih _ w1
      obtain ⟨a2, b2, c2⟩ := ih _ w2
      rw [b, c, b2, c2]
      exact ⟨⟨hk, Or.inr (Or.inl ⟨q, a, a2⟩)⟩, rfl, rfl⟩
    · obtain ⟨n1, n2, n3⟩ := lok_n q
      rw [if_neg n1, if_neg n1, if_neg n2, if_neg n2, if_neg n3, if_neg n3, if_neg n1, if_neg n1, if_neg (by omega), if_neg (by omega)]
      exact ⟨⟨hk, Or.inr (Or.inr q)⟩, rfl, rfl⟩
theorem tr_up {N : Int → Int} {c2 c3 : Int} : ∀ (n : Nat) (k : Int), f_tr N c2 c3 n k → f_tr N c2 c3 (n + 1) k ∧ f_post N (n + 1) k = f_post N n k ∧ f_lv N (n + 1) k = f_lv N n k
  | 0, _, h => h.elim
  | n + 1, k, h => by
    obtain ⟨hk, hh⟩ := h
    have ih := fun k' => tr_up (N := N) (c2 := c2) (c3 := c3) n k'
    rw [f_tr, f_post, f_lv, show f_post N (n + 1) k = (if N (4 * k) = 1 then f_post N n (N (4 * k + 1)) ++ [(28, 28, 0)] else if N (4 * k) = 2 then f_post N n (N (4 * k + 1)) ++ f_post N n (N (4 * k + 2)) ++ [(27, 27, 0)] else if N (4 * k) = 3 then f_post N n (N (4 * k + 1)) ++ f_post N n (N (4 * k + 2)) ++ [(26, 26, 0)] else [f_leaf (N (4 * k)) (N (4 * k + 1)) (N (4 * k + 2)) (N (4 * k + 3))]) from rfl, show f_lv N (n + 1) k = (if N (4 * k) = 1 then f_lv N n (N (4 * k + 1)) else if N (4 * k) = 2 ∨ N (4 * k) = 3 then f_lv N n (N (4 * k + 1)) + f_lv N n (N (4 * k + 2)) else 1) from rfl]
    rcases hh with ⟨q, w⟩ | ⟨q, w1, w2⟩ | q
    · obtain ⟨a, b, c⟩ := ih _ w
      rw [if_pos q, if_pos q, if_pos q, if_pos q, b, c]
      exact ⟨⟨by omega, Or.inl ⟨q, a⟩⟩, rfl, rfl⟩
    · obtain ⟨a, b, c⟩ := ih _ w1
      obtain ⟨a2, b2, c2⟩ := ih _ w2
      rw [b, c, b2, c2]
      exact ⟨⟨by omega, Or.inr (Or.inl ⟨q, a, a2⟩)⟩, rfl, rfl⟩
    · obtain ⟨n1, n2, n3⟩ := lok_n q
      rw [if_neg n1, if_neg n1, if_neg n2, if_neg n2, if_neg n3, if_neg n3, if_neg n1, if_neg n1, if_neg (by omega), if_neg (by omega)]
      exact ⟨⟨by omega, Or.inr (Or.inr q)⟩, rfl, rfl⟩
theorem tr_le {N : Int → Int} {c2 c3 : Int} {n m : Nat} {k : Int} (hnm : n ≤ m) (h : f_tr N c2 c3 n k) : f_tr N c2 c3 m k ∧ f_post N m k = f_post N n k ∧ f_lv N m k = f_lv N n k := by
  induction hnm with
  | refl => exact ⟨h, rfl, rfl⟩
  | step _ ih =>
    obtain ⟨a, b, c⟩ := ih
    obtain ⟨a2, b2, c2⟩ := tr_up _ _ a
    exact ⟨a2, b2.trans b, c2.trans c⟩
theorem tr_wf {N : Int → Int} {c2 c3 : Int} : ∀ (n : Nat) (k : Int), n ≤ 60 → f_tr N c2 c3 n k → f_wf N c2 c3 n k
  | 0, _, _, h => h.elim
  | n + 1, k, hn, h => by
    obtain ⟨hk, hh⟩ := h
    refine ⟨by omega, ?_⟩
    rcases hh with ⟨q, w⟩ | ⟨q, w1, w2⟩ | q
    · exact Or.inl ⟨q, tr_wf n _ (by omega) w⟩
    · exact Or.inr (Or.inl ⟨q, tr_wf n _ (by omega) w1, tr_wf n _ (by omega) w2⟩)
    · exact Or.inr (Or.inr q)
theorem tr_pos {N : Int → Int} {c2 c3 : Int} {n : Nat} {k : Int} (h : f_tr N c2 c3 n k) : 0 ≤ k ∧ k < n := by
  cases n with
  | zero => exact h.elim
  | succ n => exact ⟨h.1.1, by have := h.1.2; omega⟩
def SEGd (c : mm_H) (i : Int) (l : List (Int × Int × Int)) : Prop := ∀ j : Nat, j < l.length → l[j]? = some (c 91 (i + j), c 92 (i + j), c 93 (i + j))
theorem SEGd.cg {c c' : mm_H} {i : Int} {l : List (Int × Int × Int)} (h : SEGd c i l) (e : ∀ k, i ≤ k → k < i + l.length → c' 91 k = c 91 k ∧ c' 92 k = c 92 k ∧ c' 93 k = c 93 k) : SEGd c' i l := fun j hj => by
  have q := e (i + j) (by omega) (by omega)
  rw [q.1, q.2.1, q.2.2]
  exact h j hj
theorem SEGd.app {c : mm_H} {i : Int} {a b : List (Int × Int × Int)} (ha : SEGd c i a) (hb : SEGd c (i + a.length) b) : SEGd c i (a ++ b) := fun j hj => by
  by_cases z : j < a.length
  · rw [List.getElem?_append_left z]; exact ha j z
  · rw [List.getElem?_append_right (by omega)]
    rw [List.length_append] at hj
    have := hb (j - a.length) (by omega)
    rw [this, show i + (a.length : Int) + ((j - a.length : Nat) : Int) = i + j by omega]
theorem SEGd.one {c : mm_H} {i : Int} {t : Int × Int × Int} (e1 : c 91 i = t.1) (e2 : c 92 i = t.2.1) (e3 : c 93 i = t.2.2) : SEGd c i [t] := fun j hj => by
  have : j = 0 := by rw [List.length_singleton] at hj; omega
  subst this
  rw [show i + ((0 : Nat) : Int) = i by omega, e1, e2, e3]
  rfl
/-- a tree was read, from size s and o ones on -/
def SGa (c r c' r' : mm_H) (s o s1 o1 a : Int) : Prop := (c' 90 3 = s1 ∧ r' 133 43 = s1 ∧ c' 90 4 = o1 ∧ r' 133 44 = o1 ∧ r' 133 45 = r 133 45) ∧ (0 ≤ s ∧ s < s1 ∧ 0 ≤ o ∧ o < o1 ∧ o1 ≤ 20 ∧ s1 - s + 1 ≤ 2 * (o1 - o)) ∧ f_tr (r' 152) (r 135 2) (r 135 3) s1.toNat a ∧ ((f_post (r' 152) s1.toNat a).length : Int) = s1 - s ∧ SEGd c' s (f_post (r' 152) s1.toNat a) ∧ f_lv (r' 152) s1.toNat a ≤ o1 - o ∧ (∀ i, i < s → c' 91 i = c 91 i ∧ c' 92 i = c 92 i ∧ c' 93 i = c 93 i) ∧ ∀ j, 0 ≤ j → j < 4 * s → r' 152 j = r 152 j
def addS (c : mm_H) (s x y z : Int) : mm_H := mm_up (mm_up (mm_up (mm_up c 91 s x) 92 s y) 93 s z) 90 3 (s + 1)
def sayS (r : mm_H) (s w a b e : Int) : mm_H := mm_up (mm_up (mm_up (mm_up (mm_up r 152 (4 * s) w) 152 (4 * s + 1) a) 152 (4 * s + 2) b) 152 (4 * s + 3) e) 133 43 (s + 1)
theorem cl_addS {c : mm_H} {s x y z : Int} (hs : c 90 3 = s) (s0 : 0 ≤ s) (s1 : s < 40) (d : Nat) : mm_M mm_prog (d + 1) 76 [(17, 90), (2, x), (2, y), (0, z)] c = some (1, addS c s x y z) := by
  have e1 : (mm_up c 91 s x) 90 3 = s := by rw [pu_ob (by decide), hs]
  have e2 : (mm_up (mm_up c 91 s x) 92 s y) 90 3 = s := by rw [pu_ob (by decide), e1]
  have e3 : (mm_up (mm_up (mm_up c 91 s x) 92 s y) 93 s z) 90 3 = s := by rw [pu_ob (by decide), e2]
  rw [e_X7_add]
  simp only [show (90 : Int) + 1 = 91 from rfl, show (90 : Int) + 2 = 92 from rfl, show (90 : Int) + 3 = 93 from rfl, hs, e1, e2, e3]
  rw [if_pos s1, if_pos ⟨s0, s1⟩, if_pos ⟨s0, s1⟩, if_pos ⟨s0, s1⟩, pu_w (by omega) (by omega)]
  rfl
theorem rf_sayS {r : mm_H} {s w a b e : Int} (hs : r 133 43 = s) (s0 : 0 ≤ s) (s1 : s < 60) (d : Nat) : mm_M mm_prog (d + 1) 270 [(21, 133), (0, w), (0, a), (0, b), (0, e)] r = some (s, sayS r s w a b e) := by
  have e1 : (mm_up (mm_up (mm_up (mm_up r 152 (4 * s) w) 152 (4 * s + 1) a) 152 (4 * s + 2) b) 152 (4 * s + 3) e) 133 43 = s := by
    rw [pu_ob (by decide), pu_ob (by decide), pu_ob (by decide), pu_ob (by decide), hs]
  rw [e_X12_saysOne]
  simp only [show (133 : Int) + 19 = 152 from rfl, hs, pu_w (x := 4 * s) (show -2147483648 ≤ 4 * s by omega) (by omega), pu_w (x := 4 * s + 1) (show -2147483648 ≤ 4 * s + 1 by omega) (by omega), pu_w (x := 4 * s + 2) (show -2147483648 ≤ 4 * s + 2 by omega) (by omega), pu_w (x := 4 * s + 3) (show -2147483648 ≤ 4 * s + 3 by omega) (by omega), e1, pu_w (x := s + 1) (show -2147483648 ≤ s + 1 by omega) (by omega), pu_eq]
  rw [if_pos (by omega), if_pos (by omega), if_pos (by omega), if_pos (by omega), show s + 1 - 1 = s by omega, pu_w (by omega) (by omega)]
  rfl
theorem say_lo {r : mm_H} {s w a b e j : Int} (hj : j < 4 * s) : sayS r s w a b e 152 j = r 152 j := by
  unfold sayS
  rw [pu_ob (by decide), pu_sl (by omega), pu_sl (by omega), pu_sl (by omega), pu_sl (by omega)]
theorem say_at {r : mm_H} {s w a b e : Int} : sayS r s w a b e 152 (4 * s) = w ∧ sayS r s w a b e 152 (4 * s + 1) = a ∧ sayS r s w a b e 152 (4 * s + 2) = b ∧ sayS r s w a b e 152 (4 * s + 3) = e := by
  unfold sayS
  refine ⟨?_, ?_, ?_, ?_⟩
  · rw [pu_ob (by decide), pu_sl (by omega), pu_sl (by omega), pu_sl (by omega), pu_eq]
  · rw [pu_ob (by decide), pu_sl (by omega), pu_sl (by omega), pu_eq]
  · rw [pu_ob (by decide), pu_sl (by omega), pu_eq]
  · rw [pu_ob (by decide), pu_eq]
theorem say_133 {r : mm_H} {s w a b e k : Int} (hk : k ≠ 43) : sayS r s w a b e 133 k = r 133 k := by
  unfold sayS
  rw [pu_sl hk, pu_ob (by decide), pu_ob (by decide), pu_ob (by decide), pu_ob (by decide)]
theorem say_43 {r : mm_H} {s w a b e : Int} : sayS r s w a b e 133 43 = s + 1 := pu_eq _ _ _ _
theorem add_lo {c : mm_H} {s x y z i : Int} (hi : i < s) : addS c s x y z 91 i = c 91 i ∧ addS c s x y z 92 i = c 92 i ∧ addS c s x y z 93 i = c 93 i := by
  unfold addS
  refine ⟨?_, ?_, ?_⟩
  · rw [pu_ob (by decide), pu_ob (by decide), pu_ob (by decide), pu_sl (by omega)]
  · rw [pu_ob (by decide), pu_ob (by decide), pu_sl (by omega), pu_ob (by decide)]
  · rw [pu_ob (by decide), pu_sl (by omega), pu_ob (by decide), pu_ob (by decide)]
theorem add_at {c : mm_H} {s x y z : Int} : addS c s x y z 91 s = x ∧ addS c s x y z 92 s = y ∧ addS c s x y z 93 s = z := by
  unfold addS
  refine ⟨?_, ?_, ?_⟩
  · rw [pu_ob (by decide), pu_ob (by decide), pu_ob (by decide), pu_eq]
  · rw [pu_ob (by decide), pu_ob (by decide), pu_eq]
  · rw [pu_ob (by decide), pu_eq]
theorem add_90 {c : mm_H} {s x y z : Int} : addS c s x y z 90 3 = s + 1 ∧ addS c s x y z 90 4 = c 90 4 := by
  unfold addS
  exact ⟨pu_eq _ _ _ _, by rw [pu_sl (by decide), pu_ob (by decide), pu_ob (by decide), pu_ob (by decide)]⟩
/-- a leaf -/
theorem SGa_leaf {c r c1 r1 : mm_H} {s o w x y e X Y Z : Int} (hs : c1 90 3 = s) (ho : c1 90 4 = o + 1) (ho' : r1 133 44 = o + 1) (hw : r1 133 45 = r 133 45) (s0 : 0 ≤ s) (o0 : 0 ≤ o) (o1 : o + 1 ≤ 20) (hl : f_lok (r 135 2) (r 135 3) w x y e) (hf : f_leaf w x y e = (X, Y, Z)) (e1 : ∀ i, i < s → c1 91 i = c 91 i ∧ c1 92 i = c 92 i ∧ c1 93 i = c 93 i) (e2 : ∀ j, 0 ≤ j → j < 4 * s → r1 152 j = r 152 j) : SGa c r (addS c1 s X Y Z) (sayS r1 s w x y e) s o (s + 1) (o + 1) s := by
  obtain ⟨n1, n2, n3⟩ := lok_n hl
  have sn : (s + 1).toNat = s.toNat + 1 := by omega
  obtain ⟨q0, q1, q2, q3⟩ := say_at (r := r1) (s := s) (w := w) (a := x) (b := y) (e := e)
  have hp : f_post (sayS r1 s w x y e 152) (s + 1).toNat s = [(X, Y, Z)] := by
    rw [sn, f_post, q0, q1, q2, q3, if_neg n1, if_neg n2, if_neg n3, hf]
  have hv : f_lv (sayS r1 s w x y e 152) (s + 1).toNat s = 1 := by
    rw [sn, f_lv, q0, if_neg n1, if_neg (by omega)]
  obtain ⟨a1, a2, a3⟩ := add_at (c := c1) (s := s) (x := X) (y := Y) (z := Z)
  refine ⟨⟨add_90.1, say_43, by rw [add_90.2]; exact ho, by rw [say_133 (by decide)]; exact ho', by rw [say_133 (by decide)]; exact hw⟩, by omega, ?_, ?_, ?_, ?_, fun i hi => ?_, fun j j0 j1 => ?_⟩
  · rw [sn, f_tr, q0, q1, q2, q3]
    exact ⟨by omega, Or.inr (Or.inr hl)⟩
  · rw [hp, List.length_singleton]; omega
  · rw [hp]; exact SEGd.one a1 a2 a3
  · rw [hv]; omega
  · have := add_lo (c := c1) (x := X) (y := Y) (z := Z) hi
    rw [this.1, this.2.1, this.2.2]
    exact e1 i hi
  · rw [say_lo j1]; exact e2 j j0 j1
/-- not -/
theorem SGa_not {c r c1 r1 c2 r2 : mm_H} {s o s2 o2 a : Int} (h : SGa c1 r1 c2 r2 s (o + 1) s2 o2 a) (hw : r1 133 45 = r 133 45 + 1) (o0 : 0 ≤ o) (ev : r1 135 = r 135) (e1 : ∀ i, i < s → c1 91 i = c 91 i ∧ c1 92 i = c 92 i ∧ c1 93 i = c 93 i) (e2 : ∀ j, 0 ≤ j → j < 4 * s → r1 152 j = r 152 j) (r3 : mm_H) (er : ∀ k, r3 152 k = sayS r2 s2 1 a 0 0 152 k) (er2 : r3 133 43 = s2 + 1) (er3 : r3 133 44 = o2) (er4 : r3 133 45 = r 133 45) : SGa c r (addS c2 s2 28 28 0) r3 s o (s2 + 1) o2 s2 := by
  obtain ⟨⟨h1, h2, h3, h4, h5⟩, hb, ht, hl, hs, hv, hc, hr⟩ := h
  have sn : (s2 + 1).toNat = s2.toNat + 1 := by omega
  obtain ⟨q0, q1, q2, q3⟩ := say_at (r := r2) (s := s2) (w := 1) (a := a) (b := 0) (e := 0)
  have row : r3 152 = sayS r2 s2 1 a 0 0 152 := funext er
  obtain ⟨t1, t2, t3⟩ := tr_cg (N := r2 152) (N' := sayS r2 s2 1 a 0 0 152) s2.toNat a (fun j j0 j1 => say_lo (by omega)) ht
  have hp : f_post (r3 152) (s2 + 1).toNat s2 = f_post (r2 152) s2.toNat a ++ [(28, 28, 0)] := by
    rw [row, sn, f_post, q0, if_pos rfl, q1, t2]
  have hv2 : f_lv (r3 152) (s2 + 1).toNat s2 = f_lv (r2 152) s2.toNat a := by
    rw [row, sn, f_lv, q0, if_pos rfl, q1, t3]
  obtain ⟨a1, a2, a3⟩ := add_at (c := c2) (s := s2) (x := 28) (y := 28) (z := 0)
  refine ⟨⟨add_90.1, er2, by rw [add_90.2]; exact h3, er3, er4⟩, by omega, ?_, ?_, ?_, ?_, fun i hi => ?_, fun j j0 j1 => ?_⟩
  · rw [row, sn, f_tr, q0, q1, ← ev]
    exact ⟨by omega, Or.inl ⟨rfl, t1⟩⟩
  · rw [hp, List.length_append, List.length_singleton]; omega
  · rw [hp]
    refine SEGd.app (hs.cg (fun k k0 k1 => add_lo (by omega))) ?_
    rw [hl, show s + (s2 - s) = s2 by omega]
    exact SEGd.one a1 a2 a3
  · rw [hv2]; omega
  · have q := add_lo (c := c2) (s := s2) (x := 28) (y := 28) (z := 0) (show i < s2 by omega)
    have q2 := hc i hi
    have q3 := e1 i hi
    rw [q.1, q.2.1, q.2.2, q2.1, q2.2.1, q2.2.2]
    exact q3
  · rw [row, say_lo (by omega), hr j j0 j1]; exact e2 j j0 j1
/-- and, or -/
theorem SGa_join {c r c1 r1 c2 r2 c3 r3 : mm_H} {s o s1 o1 a s2 o2 b w wd : Int} (h1 : SGa c r c1 r1 s o s1 o1 a) (h2 : SGa c2 r2 c3 r3 s1 o1 s2 o2 b) (hw : (w = 2 ∧ wd = 27) ∨ (w = 3 ∧ wd = 26)) (e90 : ∀ i, c2 91 i = c1 91 i ∧ c2 92 i = c1 92 i ∧ c2 93 i = c1 93 i) (e152 : ∀ j, r2 152 j = r1 152 j) (e45 : r2 133 45 = r1 133 45) (ev : r2 135 = r 135) : SGa c r (addS c3 s2 wd wd 0) (sayS r3 s2 w a b 0) s o (s2 + 1) o2 s2 := by
  obtain ⟨⟨p1, p2, p3, p4, p5⟩, pb, pt, pl, ps, pv, pc, pr⟩ := h1
  obtain ⟨⟨g1, g2, g3, g4, g5⟩, gb, gt, gl, gs, gv, gc, gr⟩ := h2
  have sn : (s2 + 1).toNat = s2.toNat + 1 := by omega
  obtain ⟨q0, q1, q2, q3⟩ := say_at (r := r3) (s := s2) (w := w) (a := a) (b := b) (e := 0)
  obtain ⟨N, hN⟩ : ∃ N, N = sayS r3 s2 w a b 0 152 := ⟨_, rfl⟩
  have lo : ∀ j, 0 ≤ j → j < 4 * s2 → N j = r3 152 j := fun j j0 j1 => by rw [hN, say_lo j1]
  obtain ⟨t1, t2, t3⟩ := tr_cg (N := r3 152) (N' := N) s2.toNat b (fun j j0 j1 => lo j j0 (by omega)) gt
  obtain ⟨u1, u2, u3⟩ := tr_cg (N := r1 152) (N' := N) s1.toNat a (fun j j0 j1 => by rw [lo j j0 (by omega), gr j j0 (by omega), e152]) pt
  obtain ⟨v1, v2, v3⟩ := tr_le (show s1.toNat ≤ s2.toNat by omega) u1
  rw [← hN] at q0 q1 q2 q3
  have hp : f_post N (s2 + 1).toNat s2 = f_post (r1 152) s1.toNat a ++ f_post (r3 152) s2.toNat b ++ [(wd, wd, 0)] := by
    rw [sn, f_post, q0, q1, q2]
    rcases hw with ⟨rfl, rfl⟩ | ⟨rfl, rfl⟩
    · rw [if_neg (by decide), if_pos rfl, t2, v2, u2]
    · rw [if_neg (by decide), if_neg (by decide), if_pos rfl, t2, v2, u2]
  have hv2 : f_lv N (s2 + 1).toNat s2 = f_lv (r1 152) s1.toNat a + f_lv (r3 152) s2.toNat b := by
    rw [sn, f_lv, q0, q1, q2, if_neg (by omega), if_pos (by omega), t3, v3, u3]
  obtain ⟨a1, a2, a3⟩ := add_at (c := c3) (s := s2) (x := wd) (y := wd) (z := 0)
  refine ⟨⟨add_90.1, say_43, by rw [add_90.2]; exact g3, by rw [say_133 (by decide)]; exact g4, by rw [say_133 (by decide), g5, e45, p5]⟩, by omega, ?_, ?_, ?_, ?_, fun i hi => ?_, fun j j0 j1 => ?_⟩
  · rw [← hN, sn, f_tr, q0, q1, q2]
    rw [ev] at t1
    exact ⟨by omega, Or.inr (Or.inl ⟨by omega, v1, t1⟩)⟩
  · rw [← hN, hp, List.length_append, List.length_append, List.length_singleton]; omega
  · rw [← hN, hp]
    refine SEGd.app (SEGd.app ?_ ?_) ?_
    · refine ps.cg (fun k k0 k1 => ?_)
      have q := add_lo (c := c3) (s := s2) (x := wd) (y := wd) (z := 0) (show k < s2 by omega)
      have q2 := gc k (by omega)
      have q3 := e90 k
      rw [q.1, q.2.1, q.2.2, q2.1, q2.2.1, q2.2.2]
      exact q3
    · rw [pl, show s + (s1 - s) = s1 by omega]
      exact gs.cg (fun k k0 k1 => add_lo (by omega))
    · rw [List.length_append, show s + ((List.length (f_post (r1 152) s1.toNat a) + List.length (f_post (r3 152) s2.toNat b) : Nat) : Int) = s2 by omega]
      exact SEGd.one a1 a2 a3
  · rw [← hN, hv2]; omega
  · have q := add_lo (c := c3) (s := s2) (x := wd) (y := wd) (z := 0) (show i < s2 by omega)
    have q2 := gc i (by omega)
    have q3 := e90 i
    have q4 := pc i hi
    rw [q.1, q.2.1, q.2.2, q2.1, q2.2.1, q2.2.2, q3.1, q3.2.1, q3.2.2]
    exact q4
  · rw [say_lo (by omega), gr j j0 (by omega), e152, pr j j0 j1]
