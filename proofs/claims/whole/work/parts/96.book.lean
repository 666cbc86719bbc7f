/-! A BOOK's LINES, read on both sides -/
def BX (c r : mm_H) : Prop := pr_W (r 135) ∧ pr_P c 15 (r 135) ∧ ∀ s i, 0 ≤ s → s < 4 → 0 ≤ i → i < r 135 (1 + s) → nmr (c 17 (7 * s + i)) (r 140 (f_nb s + i))
def bl (V : Int → Int) (a x : Int) : Prop := f_may V a x ∨ (a = 6 ∧ 1 ≤ x ∧ x ≤ 60)
def BKn (c r : mm_H) (m : Int) : Prop := c 87 2 = m ∧ (0 ≤ m ∧ m ≤ 40) ∧ ∀ i, 0 ≤ i → i < m → c 88 i = r 150 (2 * i) ∧ c 89 i = r 150 (2 * i + 1) ∧ bl (r 135) (c 88 i) (c 89 i)
theorem BX.cg {c r c' r' : mm_H} (h : BX c r) (e1 : ∀ o, 15 ≤ o → o ≤ 24 → c' o = c o) (e2 : r' 135 = r 135) (e3 : r' 140 = r 140) : BX c' r' := by
  unfold BX
  rw [e2, e3, e1 17 (by decide) (by decide)]
  exact ⟨h.1, h.2.1.rows (fun o h0 h1 _ => e1 o (by omega) (by omega)), h.2.2⟩
theorem BX.fr {c r c' r' : mm_H} (h : BX c r) (hc : cF c c') (hr : rF r r') : BX c' r' := h.cg (fun o h0 h1 => hc.row (by omega)) (hr.row (by decide)) (hr.row (by decide))
theorem BKn.of {c r c' r' : mm_H} {m a x : Int} (h : BKn c r m) (m4 : m < 40) (e1 : c' 87 2 = m + 1) (e2 : c' 88 m = a) (e3 : c' 89 m = x) (e4 : ∀ i, i < m → c' 88 i = c 88 i ∧ c' 89 i = c 89 i) (e5 : r' 150 (2 * m) = a) (e6 : r' 150 (2 * m + 1) = x) (e7 : ∀ j, j < 2 * m → r' 150 j = r 150 j) (e8 : r' 135 = r 135) (hb : bl (r 135) a x) : BKn c' r' (m + 1) := by
  obtain ⟨h1, h2, h3⟩ := h
  refine ⟨e1, by omega, fun i i0 i1 => ?_⟩
  rw [e8]
  by_cases z : i = m
  · subst z
    rw [e2, e3, e5, e6]
    exact ⟨rfl, rfl, hb⟩
  · rw [(e4 i (by omega)).1, (e4 i (by omega)).2, e7 _ (by omega), e7 _ (by omega)]
    exact h3 i i0 (by omega)
section
variable {c r : mm_H} {n most p t : Int}
theorem tf_end2 (h : TF c r n most p t) (d d' : Nat) :
    (t = 4 ∧ ∃ c' r' p' t', mm_M mm_prog (d + 5) 91 [(18, 1), (2, 4)] c = some (1, c') ∧ mm_M mm_prog (d' + 5) 176 [(21, 133)] r = some (1, r') ∧ TF c' r' n most p' t' ∧ p + gd t' ≤ p' ∧ cF c c' ∧ rF r r') ∨
    (∃ c' r', mm_M mm_prog (d + 5) 91 [(18, 1), (2, 4)] c = some (0, c') ∧ mm_M mm_prog (d' + 5) 176 [(21, 133)] r = some (0, r') ∧ FL c' r' ∧ cF c c' ∧ rF r r') := by
  have sg := tk_sign (x := 59) h.1 (d' + 3)
  rcases tf_take (w := 4) h (by decide) (by decide) d d' with ⟨z, c', r', p', t', e1, e2, e3, e4, e5, e6⟩ | ⟨z, c', r', e1, e2, e3, e4, e5⟩
  · left
    refine ⟨z, c', r', p', t', e1, ?_, e3, e4, e5, e6⟩
    rw [e_X12_readEnd, sg, Option.bind_some, if_neg (sp_bt (decide_eq_true (by rw [z]; decide)))]
    dsimp only
    rw [e2, Option.bind_some]
  · right
    refine ⟨c', r', e1, ?_, e3, e4, e5⟩
    rw [e_X12_readEnd, sg, Option.bind_some, if_pos (sp_bn (decide_eq_false (fun q => z (by
      have := q.2
      unfold sgc at this
      by_cases y : t < 8
      · rw [if_pos y] at this; omega
      · rw [if_neg y] at this; omega))))]
    dsimp only
    rw [e2, Option.bind_some, if_pos (Or.inl rfl)]
theorem bx_find (h : BX c r) {s key w : Int} (s0 : 0 ≤ s) (s1 : s < 4) (hk : nmr key w) (d d' : Nat) : ∃ x, (x = -1 ∨ (0 ≤ x ∧ x < r 135 (1 + s))) ∧ mm_M mm_prog (d + 1) 58 [(14, 15), (0, s), (1, key)] c = some (x, c) ∧ mm_M mm_prog (d' + 1) 180 [(42, 140), (0, f_nb s), (0, r 135 (1 + s)), (1, w)] r = some (x, r) := by
  have W := W_cnt h.1 s0 s1
  exact pr_find s0 s1 (h.2.1.2.2.1 s s0 s1) W.1 (by omega) W.2.2.2.2 (by omega) (fun i i0 i1 => h.2.2 s i s0 s1 i0 i1) hk d d'
/-- one of a sort, named -/
theorem bx_named {s : Int} (h : TF c r n most p t) (hX : BX c r) (s0 : 0 ≤ s) (s1 : s < 4) (d d' : Nat) :
    (∃ x c' r' p' t', mm_M mm_prog (d + 5) 93 [(18, 1), (14, 15), (0, s)] c = some (x, c') ∧ mm_M mm_prog (d' + 5) 262 [(21, 133), (0, f_nb s), (0, r 135 (1 + s))] r = some (1, r') ∧ (0 ≤ x ∧ x < r 135 (1 + s)) ∧ r' 133 13 = x ∧ TF c' r' n most p' t' ∧ p + gd t' ≤ p' ∧ cF c c' ∧ rF r r' ∧ t = 2) ∨
    (∃ c' r', mm_M mm_prog (d + 5) 93 [(18, 1), (14, 15), (0, s)] c = some (-1, c') ∧ mm_M mm_prog (d' + 5) 262 [(21, 133), (0, f_nb s), (0, r 135 (1 + s))] r = some (0, r') ∧ FL c' r' ∧ cF c c' ∧ rF r r') := by
  have g := h.1.2.2.2.1
  by_cases t2 : t = 2
  · subst t2
    have hk := tk_nmr h.1
    obtain ⟨y, x0, y1, x2⟩ := bx_find hX s0 s1 hk (d + 3) (d' + 3)
    have rpre : mm_M mm_prog (d' + 5) 262 [(21, 133), (0, f_nb s), (0, r 135 (1 + s))] r = if y = -1 then ((mm_M mm_prog (d' + 4) 174 [(21, 133), (0, 3)] (mm_up r 133 13 y)).bind fun o3 => (if o3.1 = 0 ∨ o3.1 = 1 then (some (o3.1, o3.2)) else none)) else ((mm_M mm_prog (d' + 4) 168 [(21, 133)] (mm_up r 133 13 y)).bind fun o3 => (some (1, o3.2))) := by
      rw [e_X12_readNamed, tk_name h.1, Option.bind_some, decide_eq_true rfl]
      show (if (1 : Int) = 0 then _ else _) = _
      rw [if_neg (by decide)]
      simp only [show (133 : Int) + 7 = 140 from rfl]
      rw [x2, Option.bind_some]
      dsimp only
      by_cases z : y = -1
      · rw [if_pos z, if_pos (by rw [pu_eq]; exact z)]
      · rw [if_neg z, if_neg (by rw [pu_eq]; exact z)]
    have h' : TF c (mm_up r 133 13 y) n most p 2 := h.oth rfl rfl (fun k _ _ => pu_sl (by omega)) (row_ne (by decide))
    have r1 : rF r (mm_up r 133 13 y) := (rF.rf r).up (by decide)
    by_cases z : y = -1
    · right
      obtain ⟨cf, rf, u1, u2, u3, u4, u5⟩ := tf_fail (k := 3) h' (by decide) (fun w => absurd w (by decide)) (d + 2) (d' + 3)
      refine ⟨cf, rf, ?_, ?_, u3, u4, r1.tr u5⟩
      · rw [e_X8_takeOneOf, if_pos g, y1, Option.bind_some]
        dsimp only
        rw [if_pos z, u1, Option.bind_some]
      · rw [rpre, if_pos z, u2, Option.bind_some, if_pos (Or.inl rfl)]
    · left
      obtain ⟨c', r', p', t', e1, e2, e3, e4, e5, e6⟩ := tf_adv h' d d'
      refine ⟨y, c', r', p', t', ?_, ?_, by omega, ?_, e3, e4, e5.c, r1.tr e6.r, rfl⟩
      · rw [e_X8_takeOneOf, if_pos g, y1, Option.bind_some]
        dsimp only
        rw [if_neg z, e1, Option.bind_some]
      · rw [rpre, if_neg z, e2, Option.bind_some]
      · rw [e6 _ _ (by omega), pu_eq]
  · right
    obtain ⟨cf, rf, u1, u2, u3, u4, u5⟩ := tf_fail (k := 1) h (by decide) (fun _ => rfl) (d + 2) (d' + 3)
    refine ⟨cf, rf, ?_, ?_, u3, u4, u5⟩
    · rw [e_X8_takeOneOf, if_neg (by rw [g]; exact t2), u1, Option.bind_some]
    · rw [e_X12_readNamed, tk_name h.1, Option.bind_some, decide_eq_false t2]
      show (if (0 : Int) = 0 then _ else _) = _
      rw [if_pos rfl, u2, Option.bind_some, if_pos (Or.inl rfl)]
theorem cl_add {m a x : Int} (hm : c 87 2 = m) (m0 : 0 ≤ m) (m1 : m < 40) (d : Nat) : mm_M mm_prog (d + 1) 6 [(10, 87), (0, a), (0, x)] c = some (1, mm_up (mm_up (mm_up c 88 m a) 89 m x) 87 2 (m + 1)) := by
  rw [e_X0_add]
  simp only [show (87 : Int) + 1 = 88 from rfl, show (87 : Int) + 2 = 89 from rfl, hm]
  have e1 : (mm_up c 88 m a) 87 2 = m := by rw [pu_ob (by decide), hm]
  simp only [e1]
  have e2 : (mm_up (mm_up c 88 m a) 89 m x) 87 2 = m := by rw [pu_ob (by decide), e1]
  rw [e2, if_pos m1, if_pos ⟨m0, m1⟩, if_pos ⟨m0, m1⟩, pu_w (by omega) (by omega)]
def wB (c c' : mm_H) : Prop := ∀ o k, ¬ ((o = 1 ∧ 3 ≤ k ∧ k ≤ 9) ∨ (o = 87 ∧ k = 2) ∨ o = 88 ∨ o = 89) → c' o k = c o k
def xB (r r' : mm_H) : Prop := ∀ o k, ¬ ((o = 133 ∧ 5 ≤ k ∧ k ≤ 13) ∨ o = 150) → r' o k = r o k
theorem wB.tr {a b c : mm_H} (h1 : wB a b) (h2 : wB b c) : wB a c := fun o k z => (h2 o k z).trans (h1 o k z)
theorem xB.tr {a b c : mm_H} (h1 : xB a b) (h2 : xB b c) : xB a c := fun o k z => (h2 o k z).trans (h1 o k z)
theorem wB.rf (c : mm_H) : wB c c := fun _ _ _ => rfl
theorem xB.rf (c : mm_H) : xB c c := fun _ _ _ => rfl
theorem cF.b {a b : mm_H} (h : cF a b) : wB a b := fun o k z => h o k (fun q => z (Or.inl q))
theorem rF.b {a b : mm_H} (h : rF a b) : xB a b := fun o k z => h o k (fun q => z (Or.inl q))
theorem xB.up {a b : mm_H} {k v : Int} (h : xB a b) : xB a (mm_up b 150 k v) := fun o' k' z => by
  rw [pu_ob (fun q => z (Or.inr q))]
  exact h o' k' z
theorem wB.add {a b : mm_H} {m x y z : Int} (h : wB a b) : wB a (mm_up (mm_up (mm_up b 88 m x) 89 m y) 87 2 z) := fun o' k' q => by
  rw [pu_up, if_neg (fun w => q (Or.inr (Or.inl w))), pu_ob (fun w => q (Or.inr (Or.inr (Or.inr w)))), pu_ob (fun w => q (Or.inr (Or.inr (Or.inl w))))]
  exact h o' k' q
theorem BX.b {c r c' r' : mm_H} (h : BX c r) (hc : wB c c') (hr : xB r r') : BX c' r' := h.cg (fun o h0 h1 => funext fun k => hc o k (by omega)) (funext fun k => hr _ k (by omega)) (funext fun k => hr _ k (by omega))
/-- a LINE of a BOOK and its end, on both sides -/
def BL (X : Option mm_O) (Z : mm_H → Option mm_O) (Y : Option mm_O) (c r : mm_H) (n most m : Int) : Prop :=
  (∃ c1 c' r' p' t', X = some (1, c1) ∧ Z c1 = some (1, c') ∧ Y = some (1, r') ∧ TF c' r' n most p' t' ∧ BKn c' r' (m + 1) ∧ wB c c' ∧ xB r r') ∨
  (∃ c' r', (X = some (0, c') ∨ ∃ c1, X = some (1, c1) ∧ Z c1 = some (0, c')) ∧ Y = some (0, r') ∧ FL c' r' ∧ wB c c' ∧ xB r r')
/-- the LINE is told; now its end -/
theorem bl_fin {c1 r1 : mm_H} {m a x p1 t1 : Int} {X Y : Option mm_O} {Z : mm_H → Option mm_O} (hK : BKn c r m) (m4 : m < 40) (h1 : TF c1 r1 n most p1 t1) (d d' : Nat) (eX : X = some (1, mm_up (mm_up (mm_up c1 88 m a) 89 m x) 87 2 (m + 1))) (eZ : ∀ g, Z g = mm_M mm_prog (d + 5) 91 [(18, 1), (2, 4)] g) (eY1 : ∀ r', mm_M mm_prog (d' + 5) 176 [(21, 133)] r1 = some (1, r') → Y = some (1, r')) (eY0 : ∀ r', mm_M mm_prog (d' + 5) 176 [(21, 133)] r1 = some (0, r') → Y = some (0, r')) (wc : wB c c1) (e88 : ∀ i, c1 88 i = c 88 i) (e89 : ∀ i, c1 89 i = c 89 i) (xr : xB r r1) (e5 : r1 150 (2 * m) = a) (e6 : r1 150 (2 * m + 1) = x) (e7 : ∀ j, j < 2 * m → r1 150 j = r 150 j) (hb : bl (r 135) a x) : BL X Z Y c r n most m := by
  obtain ⟨c2, hc2⟩ : ∃ c2, c2 = mm_up (mm_up (mm_up c1 88 m a) 89 m x) 87 2 (m + 1) := ⟨_, rfl⟩
  rw [← hc2] at eX
  have w2 : wB c c2 := by rw [hc2]; exact wc.add
  have h2 : TF c2 r1 n most p1 t1 := h1.cg (fun k => by rw [hc2, pu_ob (by decide), pu_ob (by decide), pu_ob (by decide)]) (fun k => by rw [hc2, pu_ob (by decide), pu_ob (by decide), pu_ob (by decide)]) (fun k _ _ => rfl) (fun k => rfl)
  rcases tf_end2 h2 d d' with ⟨z, c3, r3, p3, t3, f1, f2, f3, f4, f5, f6⟩ | ⟨c3, r3, f1, f2, f3, f4, f5⟩
  · left
    refine ⟨c2, c3, r3, p3, t3, eX, (eZ c2).trans f1, eY1 r3 f2, f3, ?_, w2.tr f5.b, xr.tr f6.b⟩
    refine hK.of m4 ?_ ?_ ?_ (fun i i1 => ⟨?_, ?_⟩) (by rw [f6.ob (by decide)]; exact e5) (by rw [f6.ob (by decide)]; exact e6) (fun j hj => by rw [f6.ob (by decide)]; exact e7 j hj) (funext fun k => by rw [f6.ob (by decide), xr _ _ (by omega)]) hb
    · rw [f5.ob (by decide), hc2, pu_eq]
    · rw [f5.ob (by decide), hc2, pu_ob (by decide), pu_ob (by decide), pu_eq]
    · rw [f5.ob (by decide), hc2, pu_ob (by decide), pu_eq]
    · rw [f5.ob (by decide), hc2, pu_ob (by decide), pu_ob (by decide), pu_sl (by omega), e88]
    · rw [f5.ob (by decide), hc2, pu_ob (by decide), pu_sl (by omega), pu_ob (by decide), e89]
  · right
    exact ⟨c3, r3, Or.inr ⟨c2, eX, (eZ c2).trans f1⟩, eY0 r3 f2, f3, w2.tr f4.b, xr.tr f5.b⟩
end
