/-! What readers do with tokens, on both sides -/
def cF (c c' : mm_H) : Prop := ∀ o k, ¬ (o = 1 ∧ 3 ≤ k ∧ k ≤ 9) → c' o k = c o k
def rF (r r' : mm_H) : Prop := ∀ o k, ¬ (o = 133 ∧ 5 ≤ k ∧ k ≤ 13) → r' o k = r o k
theorem cF.rf (c : mm_H) : cF c c := fun _ _ _ => rfl
theorem rF.rf (c : mm_H) : rF c c := fun _ _ _ => rfl
theorem cF.tr {a b c : mm_H} (h1 : cF a b) (h2 : cF b c) : cF a c := fun o k z => (h2 o k z).trans (h1 o k z)
theorem rF.tr {a b c : mm_H} (h1 : rF a b) (h2 : rF b c) : rF a c := fun o k z => (h2 o k z).trans (h1 o k z)
theorem cF.up {a b : mm_H} {k v : Int} (h : cF a b) (hk : 3 ≤ k ∧ k ≤ 9) : cF a (mm_up b 1 k v) := fun o k' z => by
  rw [pu_up, if_neg (fun q => z ⟨q.1, by rw [q.2]; exact hk⟩)]
  exact h o k' z
theorem rF.up {a b : mm_H} {k v : Int} (h : rF a b) (hk : 5 ≤ k ∧ k ≤ 13) : rF a (mm_up b 133 k v) := fun o k' z => by
  rw [pu_up, if_neg (fun q => z ⟨q.1, by rw [q.2]; exact hk⟩)]
  exact h o k' z
theorem adF.c {a b : mm_H} (h : adF a b) : cF a b := fun o k z => h o k (fun q => z ⟨q.1, by omega, by omega⟩)
theorem goF.r {a b : mm_H} (h : goF a b) : rF a b := fun o k z => h o k (fun q => z ⟨q.1, by omega, by omega⟩)
theorem cF.ob {a b : mm_H} (h : cF a b) {o : Int} (ho : o ≠ 1) (k : Int) : b o k = a o k := h o k (fun z => ho z.1)
theorem rF.ob {a b : mm_H} (h : rF a b) {o : Int} (ho : o ≠ 133) (k : Int) : b o k = a o k := h o k (fun z => ho z.1)
def TF (c r : mm_H) (n most p t : Int) : Prop := TK c r n most p t ∧ c 1 8 = 0 ∧ r 133 10 = 0
/-- the class's tape alone -/
def TC (c : mm_H) : Prop := ∃ (r : mm_H) (n most p : Int), TB c r n most ∧ c 1 3 = p ∧ 0 ≤ p ∧ p ≤ n
def FL (c r : mm_H) : Prop := TC c ∧ c 1 8 ≠ 0 ∧ r 133 10 = c 1 8 ∧ r 133 11 = c 1 9 ∧ 0 ≤ c 1 9 ∧ c 1 9 ≤ 940
theorem rk.cg {t : Int} {c r c' r' : mm_H} (h : rk t c r) (e1 : ∀ k, c' 1 k = c 1 k) (e3 : ∀ k, 3 ≤ k → k ≤ 12 → r' 133 k = r 133 k) : rk t c' r' := by
  unfold rk
  rw [e3 7 (by decide) (by decide), e3 8 (by decide) (by decide), e3 9 (by decide) (by decide), e3 12 (by decide) (by decide), e1 6, e1 7]
  exact h
theorem TF.cg {c r c' r' : mm_H} {n most p t : Int} (h : TF c r n most p t) (e1 : ∀ k, c' 1 k = c 1 k) (e2 : ∀ k, c' 2 k = c 2 k) (e3 : ∀ k, 3 ≤ k → k ≤ 12 → r' 133 k = r 133 k) (e4 : ∀ k, r' 134 k = r 134 k) : TF c' r' n most p t := by
  obtain ⟨⟨hB, ⟨a, b⟩, f, g, i, j, l⟩, m, o⟩ := h
  refine ⟨⟨hB.cg (e1 _) (e1 _) e2 (e3 _ (by decide) (by decide)) (e3 _ (by decide) (by decide)) e4, ⟨(e1 _).trans a, (e3 _ (by decide) (by decide)).trans b⟩, f, (e1 _).trans g, ?_, ?_, l.cg e1 e3⟩, (e1 _).trans m, (e3 _ (by decide) (by decide)).trans o⟩
  · rw [e1, e3 6 (by decide) (by decide)]; exact i
  · rw [e3 6 (by decide) (by decide)]; exact j
theorem TC.cg {c c' : mm_H} (h : TC c) (e1 : ∀ k, k ≤ 3 → c' 1 k = c 1 k) (e2 : ∀ k, c' 2 k = c 2 k) : TC c' := by
  obtain ⟨r, n, most, p, hB, h3, p0, p1⟩ := h
  exact ⟨r, n, most, p, hB.cg (e1 _ (by decide)) (e1 _ (by decide)) e2 rfl rfl (fun _ => rfl), (e1 _ (by decide)).trans h3, p0, p1⟩
theorem TK.C {c r : mm_H} {n most p t : Int} (h : TK c r n most p t) : TC c := ⟨r, n, most, p, h.1, h.2.1.1, h.2.2.1.1, h.2.2.1.2⟩
theorem FL.cg {c r c' r' : mm_H} (h : FL c r) (e1 : ∀ k, c' 1 k = c 1 k) (e2 : ∀ k, c' 2 k = c 2 k) (e3 : r' 133 10 = r 133 10) (e4 : r' 133 11 = r 133 11) : FL c' r' := by
  obtain ⟨a, b, f, g, i⟩ := h
  unfold FL
  rw [e1 8, e1 9, e3, e4]
  exact ⟨a.cg (fun k _ => e1 k) e2, b, f, g, i⟩
section
variable {c r : mm_H} {n most p t : Int}
theorem tf_adv (h : TF c r n most p t) (d d' : Nat) : ∃ c' r' p' t', mm_M mm_prog (d + 4) 84 [(18, 1)] c = some (0, c') ∧ mm_M mm_prog (d' + 4) 168 [(21, 133)] r = some (0, r') ∧ TF c' r' n most p' t' ∧ p + gd t' ≤ p' ∧ adF c c' ∧ goF r r' := by
  obtain ⟨⟨hB, ⟨a, b⟩, f, -⟩, m, o⟩ := h
  obtain ⟨c', r', p', t', e1, e2, e3, e4, e5, e6⟩ := tk_adv hB a b f.1 f.2 d d'
  exact ⟨c', r', p', t', e1, e2, ⟨e3, (e5 _ _ (by omega)).trans m, (e6 _ _ (by omega)).trans o⟩, e4, e5, e6⟩
theorem tc_adv (h : TC c) (d : Nat) : ∃ c', mm_M mm_prog (d + 4) 84 [(18, 1)] c = some (0, c') ∧ TC c' ∧ adF c c' := by
  obtain ⟨r, n, most, p, hB, h3, p0, p1⟩ := h
  obtain ⟨c', r', p', t', e1, e2, e3, e4, e5, e6⟩ := tk_adv (hB.upr (k := 5) (v := p) (by decide)) h3 (pu_eq _ _ _ _) p0 p1 d d
  exact ⟨c', e1, e3.C, e5⟩
theorem cl_fail {k : Int} (h8 : c 1 8 = 0) (d : Nat) : mm_M mm_prog (d + 2) 90 [(18, 1), (0, k)] c = some (0, mm_up (mm_up c 1 8 k) 1 9 (c 1 5)) := by
  rw [e_X8_fail, e_X8_failAt, if_pos h8, Option.bind_some, if_pos (Or.inl rfl)]
theorem cl_failf {k : Int} (h8 : c 1 8 ≠ 0) (d : Nat) : mm_M mm_prog (d + 2) 90 [(18, 1), (0, k)] c = some (0, c) := by
  rw [e_X8_fail, e_X8_failAt, if_neg h8, Option.bind_some, if_pos (Or.inl rfl)]
theorem tf_fail {k : Int} (h : TF c r n most p t) (hk : k ≠ 0) (ht : t = 1 → k = 1) (d d' : Nat) : ∃ c' r', mm_M mm_prog (d + 2) 90 [(18, 1), (0, k)] c = some (0, c') ∧ mm_M mm_prog (d' + 1) 174 [(21, 133), (0, k)] r = some (0, r') ∧ FL c' r' ∧ cF c c' ∧ rF r r' := by
  obtain ⟨⟨hB, ⟨a, b⟩, f, g, i, j, l⟩, m, o⟩ := h
  refine ⟨mm_up (mm_up c 1 8 k) 1 9 (c 1 5), mm_up (mm_up r 133 10 k) 133 11 (r 133 6), cl_fail m d, ?_, ⟨⟨r, n, most, p, (hB.upc (by decide)).upc (by decide), by rw [pu_sl (by decide), pu_sl (by decide), a], f.1, f.2⟩, ?_, ?_, ?_, ?_⟩, ((cF.rf c).up (by decide)).up (by decide), ((rF.rf r).up (by decide)).up (by decide)⟩
  · rw [e_X12_bad]
    by_cases z : r 133 7 = 1
    · have t1 : t = 1 := by
        rcases l with l | l | l | l | l | l
        · omega
        · exact l.1
        · omega
        · omega
        · omega
        · omega
      rw [if_pos z, pu_sl (by decide), ht t1]
    · rw [if_neg z, pu_sl (by decide)]
  · rw [pu_sl (by decide), pu_eq]; exact hk
  · rw [pu_sl (by decide), pu_eq, pu_sl (by decide), pu_eq]
  · rw [pu_eq, pu_eq, i]
  · rw [pu_eq, i]; exact j
theorem rk.range (l : rk t c r) : 0 ≤ t ∧ t ≤ 35 := by
  rcases l with l | l | l | l | l | l <;> omega
theorem rk.k0 (l : rk t c r) : r 133 7 = 0 ↔ t = 0 := by
  rcases l with l | l | l | l | l | l <;> omega
/-- a NUMBER -/
theorem tf_num {a b : Int} (h : TF c r n most p t) (d d' : Nat) :
    (∃ x c' r' p' t', mm_M mm_prog (d + 5) 92 [(18, 1), (0, a), (0, b)] c = some (x, c') ∧ mm_M mm_prog (d' + 5) 175 [(21, 133), (0, a), (0, b)] r = some (1, r') ∧ (a ≤ x ∧ x ≤ b) ∧ r' 133 13 = x ∧ TF c' r' n most p' t' ∧ p + gd t' ≤ p' ∧ cF c c' ∧ rF r r' ∧ t = 3) ∨
    (∃ c' r', mm_M mm_prog (d + 5) 92 [(18, 1), (0, a), (0, b)] c = some (-1, c') ∧ mm_M mm_prog (d' + 5) 175 [(21, 133), (0, a), (0, b)] r = some (0, r') ∧ FL c' r' ∧ cF c c' ∧ rF r r') := by
  have h' := h
  obtain ⟨⟨hB, ⟨-, -⟩, f, g, i, j, l⟩, m, o⟩ := h'
  by_cases t3 : t = 3
  · have l3 : r 133 7 = 3 ∧ c 1 6 = r 133 8 := by
      rcases l with l | l | l | l | l | l
      · omega
      · omega
      · omega
      · exact ⟨l.2.1, l.2.2.1⟩
      · omega
      · omega
    have ec : mm_M mm_prog (d + 5) 92 [(18, 1), (0, a), (0, b)] c = if c 1 6 < a ∨ b < c 1 6 then ((mm_M mm_prog (d + 4) 90 [(18, 1), (0, 2)] c).bind fun o1 => (some ((-1), o1.2))) else ((mm_M mm_prog (d + 4) 84 [(18, 1)] c).bind fun o1 => (some (c 1 6, o1.2))) := by
      rw [e_X8_takeNumber, g, if_pos t3]
      by_cases z : c 1 6 < a
      · rw [if_pos z, if_pos (Or.inl z)]
      · rw [if_neg z]
        by_cases y : b < c 1 6
        · rw [if_pos y, if_pos (Or.inr y)]
        · rw [if_neg y, if_neg (by omega)]
    have er : mm_M mm_prog (d' + 5) 175 [(21, 133), (0, a), (0, b)] r = if a ≤ r 133 8 ∧ r 133 8 ≤ b then ((mm_M mm_prog (d' + 4) 168 [(21, 133)] (mm_up r 133 13 (r 133 8))).bind fun o2 => (some (1, o2.2))) else ((mm_M mm_prog (d' + 4) 174 [(21, 133), (0, 2)] r).bind fun o2 => (if o2.1 = 0 ∨ o2.1 = 1 then (some (o2.1, o2.2)) else none)) := by
      rw [e_X12_readNumber, if_pos l3.1, rf_isIn, Option.bind_some]
      dsimp only
      by_cases z : a ≤ r 133 8 ∧ r 133 8 ≤ b
      · rw [decide_eq_true z, if_pos z]; rfl
      · rw [decide_eq_false z, if_neg z]; rfl
    by_cases z : a ≤ r 133 8 ∧ r 133 8 ≤ b
    · left
      have h2 : TF c (mm_up r 133 13 (r 133 8)) n most p t := h.cg (fun _ => rfl) (fun _ => rfl) (fun k k0 k1 => pu_sl (by omega)) (fun k => pu_ob (by decide))
      obtain ⟨c', r', p', t', e1, e2, e3, e4, e5, e6⟩ := tf_adv h2 d d'
      refine ⟨r 133 8, c', r', p', t', ?_, ?_, z, ?_, e3, e4, e5.c, ((rF.rf r).up (by decide)).tr e6.r, t3⟩
      · rw [ec, if_neg (by omega), e1, Option.bind_some, l3.2]
      · rw [er, if_pos z, e2, Option.bind_some]
      · rw [e6 _ _ (by omega), pu_eq]
    · right
      obtain ⟨c', r', e1, e2, e3, e4, e5⟩ := tf_fail (k := 2) h (by decide) (fun w => by omega) (d + 2) (d' + 3)
      refine ⟨c', r', ?_, ?_, e3, e4, e5⟩
      · rw [ec, if_pos (by omega), e1, Option.bind_some]
      · rw [er, if_neg z, e2, Option.bind_some, if_pos (Or.inl rfl)]
  · right
    have l3 : r 133 7 ≠ 3 := by
      rcases l with l | l | l | l | l | l <;> omega
    obtain ⟨c', r', e1, e2, e3, e4, e5⟩ := tf_fail (k := 1) h (by decide) (fun _ => rfl) (d + 2) (d' + 3)
    refine ⟨c', r', ?_, ?_, e3, e4, e5⟩
    · rw [e_X8_takeNumber, g, if_neg t3, e1, Option.bind_some]
    · rw [e_X12_readNumber, if_neg l3, e2, Option.bind_some, if_pos (Or.inl rfl)]
theorem fl_num {a b : Int} (h : FL c r) (d : Nat) : ∃ x c', mm_M mm_prog (d + 5) 92 [(18, 1), (0, a), (0, b)] c = some (x, c') ∧ FL c' r ∧ cF c c' := by
  obtain ⟨hC, h8, f, g, i⟩ := h
  have ff : ∀ k, mm_M mm_prog (d + 4) 90 [(18, 1), (0, k)] c = some (0, c) := fun k => cl_failf h8 (d + 2)
  obtain ⟨c', e1, e2, e3⟩ := tc_adv hC d
  have F' : FL c' r := ⟨e2, by rw [e3 _ _ (by omega)]; exact h8, by rw [e3 _ _ (by omega)]; exact f, by rw [e3 _ _ (by omega)]; exact g, by rw [e3 _ _ (by omega)]; exact i⟩
  rw [e_X8_takeNumber]
  by_cases z1 : c 1 4 = 3
  · rw [if_pos z1]
    by_cases z2 : c 1 6 < a
    · exact ⟨-1, c, by rw [if_pos z2, ff, Option.bind_some], ⟨hC, h8, f, g, i⟩, cF.rf c⟩
    · rw [if_neg z2]
      by_cases z3 : b < c 1 6
      · exact ⟨-1, c, by rw [if_pos z3, ff, Option.bind_some], ⟨hC, h8, f, g, i⟩, cF.rf c⟩
      · exact ⟨c 1 6, c', by rw [if_neg z3, e1, Option.bind_some], F', e3.c⟩
  · exact ⟨-1, c, by rw [if_neg z1, ff, Option.bind_some], ⟨hC, h8, f, g, i⟩, cF.rf c⟩
/-- a token that must come -/
theorem tf_take {w : Int} (h : TF c r n most p t) (w0 : 0 ≤ w) (w1 : w < 36) (d d' : Nat) :
    (t = w ∧ ∃ c' r' p' t', mm_M mm_prog (d + 5) 91 [(18, 1), (2, w)] c = some (1, c') ∧ mm_M mm_prog (d' + 4) 168 [(21, 133)] r = some (0, r') ∧ TF c' r' n most p' t' ∧ p + gd t' ≤ p' ∧ cF c c' ∧ rF r r') ∨
    (t ≠ w ∧ ∃ c' r', mm_M mm_prog (d + 5) 91 [(18, 1), (2, w)] c = some (0, c') ∧ mm_M mm_prog (d' + 4) 174 [(21, 133), (0, 1)] r = some (0, r') ∧ FL c' r' ∧ cF c c' ∧ rF r r') := by
  have g := h.1.2.2.2.1
  have wr : mm_wr w = true := decide_eq_true ⟨w0, w1⟩
  by_cases z : t = w
  · left
    obtain ⟨c', r', p', t', e1, e2, e3, e4, e5, e6⟩ := tf_adv h d d'
    refine ⟨z, c', r', p', t', ?_, e2, e3, e4, e5.c, e6.r⟩
    rw [e_X8_take, wr, cond_true, g, if_pos z, e1, Option.bind_some]
  · right
    obtain ⟨c', r', e1, e2, e3, e4, e5⟩ := tf_fail (k := 1) h (by decide) (fun _ => rfl) (d + 2) (d' + 3)
    refine ⟨z, c', r', ?_, e2, e3, e4, e5⟩
    rw [e_X8_take, wr, cond_true, g, if_neg z, e1, Option.bind_some, if_pos (Or.inl rfl)]
/-! what the reference asks of a token -/
theorem tk_word {k : Int} (h : TK c r n most p t) (k0 : 0 ≤ k) (k1 : k ≤ 25) (d : Nat) : mm_M mm_prog (d + 3) 171 [(21, 133), (0, k)] r = some (sp_b (decide (t = wo k)), r) := by
  obtain ⟨-, -, -, -, -, -, l⟩ := h
  have w := wo_ok k.toNat (by omega)
  rw [show ((k.toNat : Nat) : Int) = k by omega] at w
  have wk := wl_ok w.1 w.2.1
  rw [e_X12_isWord]
  by_cases z : r 133 7 = 2
  · rw [if_pos z, rf_wordOf k0 k1, Option.bind_some]
    simp only [lcmp0]
    have key : (r 133 12 = f_enc 27 96 (wl (wo k))) ↔ t = wo k := by
      rcases l with l | l | l | l | l | l
      · omega
      · omega
      · obtain ⟨l1, -, L, lL, -, l3, l4⟩ := l
        rw [l3]
        constructor
        · intro e
          exact absurd (f_enc_inj (by decide) _ _ _ (Nat.le_refl _) (ltr.b lL.2.2) (ltr.b wk.2.2.1) e) (l4 _ w.1 w.2.1)
        · intro e; omega
      · omega
      · omega
      · obtain ⟨l1, -, l3⟩ := l
        have wt := wl_ok l1.1 l1.2
        rw [l3]
        constructor
        · intro e
          exact wl_inj l1.1 l1.2 w.1 w.2.1 (f_enc_inj (by decide) _ _ _ (Nat.le_refl _) (ltr.b wt.2.2.1) (ltr.b wk.2.2.1) e)
        · intro e; rw [e]
    by_cases y : t = wo k
    · rw [if_pos (key.mpr y), decide_eq_true y]; rfl
    · rw [if_neg (fun e => y (key.mp e)), decide_eq_false y]; rfl
  · have y : t ≠ wo k := by
      intro e
      rcases l with l | l | l | l | l | l <;> omega
    rw [if_neg z, decide_eq_false y]; rfl
theorem tk_name (h : TK c r n most p t) (d : Nat) : mm_M mm_prog (d + 4) 173 [(21, 133)] r = some (sp_b (decide (t = 2)), r) := by
  have l := h.2.2.2.2.2.2
  rw [e_X12_isName]
  by_cases z : r 133 7 = 2
  · rw [if_pos z]
    have stp : ∀ i, 0 ≤ i → i < 26 → mm_R mm_prog (d + 3) T_X12_isName 12 [(21, 133), (0, i)] [] r = bif decide (t = wo i) then some (0, r) else mm_R mm_prog (d + 3) T_X12_isName 12 [(21, 133), (0, i + 1)] [] r := by
      intro i i0 i1
      have q := tk_word h i0 (by omega) (d + 1)
      rw [e_X12_isWord, if_pos z, rf_wordOf i0 (by omega), Option.bind_some] at q
      simp only [lcmp0] at q
      rw [e_X12_isName_12, if_neg (by omega), rf_wordOf i0 (by omega), Option.bind_some, pu_w (by omega) (by omega)]
      simp only [lcmp0]
      by_cases y : r 133 12 = f_enc 27 96 (wl (wo i))
      · rw [if_pos y] at q ⊢
        cases hd : decide (t = wo i) with
        | true => rfl
        | false => rw [hd] at q; cases q
      · rw [if_neg y] at q ⊢
        cases hd : decide (t = wo i) with
        | true => rw [hd] at q; cases q
        | false => rfl
    have run := sp_find_run (R := fun i => mm_R mm_prog (d + 3) T_X12_isName 12 [(21, 133), (0, i)] [] r) (r := fun _ => some (0, r)) stp 26 0 (by decide) (by decide)
    rw [run]
    by_cases t2 : t = 2
    · have nn : sp_find (fun i => decide (t = wo i)) 26 0 = none := sp_find_none.mpr (fun k k0 k1 => decide_eq_false (fun e => by
        have w := wo_ok k.toNat (by omega)
        rw [show ((k.toNat : Nat) : Int) = k by omega] at w
        omega))
      rw [nn, decide_eq_true t2]
      dsimp only
      rw [e_X12_isName_12, if_pos (by decide)]
      rfl
    · have t10 : 10 ≤ t ∧ t ≤ 35 := by rcases l with l | l | l | l | l | l <;> omega
      obtain ⟨k, kl, ke⟩ := wo_on (t - 10).toNat (by omega)
      rw [decide_eq_false t2]
      cases e : sp_find (fun i => decide (t = wo i)) 26 0 with
      | none =>
        have := sp_find_none.mp e (k : Int) (by omega) (by omega)
        exact absurd (show t = wo (k : Int) by omega) (of_decide_eq_false this)
      | some j => rfl
  · have y : t ≠ 2 := by
      intro e
      rcases l with l | l | l | l | l | l <;> omega
    rw [if_neg z, decide_eq_false y]; rfl
theorem tk_sign {x : Int} (h : TK c r n most p t) (d : Nat) : mm_M mm_prog (d + 1) 172 [(21, 133), (0, x)] r = some (sp_b (decide ((4 ≤ t ∧ t ≤ 9) ∧ sgc t = x)), r) := by
  obtain ⟨-, -, -, -, -, -, l⟩ := h
  rw [e_X12_isSign]
  by_cases z : r 133 7 = 4
  · have l5 : (4 ≤ t ∧ t ≤ 9) ∧ r 133 9 = sgc t := by
      rcases l with l | l | l | l | l | l
      · omega
      · omega
      · omega
      · omega
      · exact ⟨l.1, l.2.2⟩
      · omega
    rw [if_pos z, l5.2]
    by_cases y : sgc t = x
    · rw [if_pos y, decide_eq_true ⟨l5.1, y⟩]; rfl
    · rw [if_neg y, decide_eq_false (fun e => y e.2)]; rfl
  · have y : ¬ ((4 ≤ t ∧ t ≤ 9) ∧ sgc t = x) := by
      intro e
      rcases l with l | l | l | l | l | l <;> omega
    rw [if_neg z, decide_eq_false y]; rfl
end
/-! names -/
theorem cl_numberOf {c : mm_H} {pl s cnt key : Int} (s0 : 0 ≤ s) (s1 : s < 4) (hc : c (pl + 1) s = cnt) (c0 : 0 ≤ cnt) (c1 : cnt ≤ 7) (d : Nat) : mm_M mm_prog (d + 1) 58 [(14, pl), (0, s), (1, key)] c = some ((sp_find (fun i => decide (c (pl + 2) (7 * s + i) = key)) cnt.toNat 0).getD (-1), c) := by
  have stp : ∀ i, 0 ≤ i → i < cnt → mm_R mm_prog d T_X4_numberOf 3 [(14, pl), (0, s), (1, key), (9, 0), (0, i)] [] c = bif decide (c (pl + 2) (7 * s + i) = key) then some (i, c) else mm_R mm_prog d T_X4_numberOf 3 [(14, pl), (0, s), (1, key), (9, 0), (0, i + 1)] [] c := by
    intro i i0 i1
    rw [e_X4_numberOf_3, if_pos ⟨s0, s1⟩, hc, if_pos i1, pu_w (x := s * 7) (by omega) (by omega), pu_w (x := s * 7 + i) (by omega) (by omega), pu_w (x := i + 1) (by omega) (by omega), if_pos (by omega), show s * 7 + i = 7 * s + i by omega]
    simp only [lcmp0]
    by_cases y : c (pl + 2) (7 * s + i) = key
    · rw [if_pos y, decide_eq_true y]; rfl
    · rw [if_neg y, decide_eq_false y]; rfl
  have run := sp_find_run (R := fun i => mm_R mm_prog d T_X4_numberOf 3 [(14, pl), (0, s), (1, key), (9, 0), (0, i)] [] c) (r := fun i => some (i, c)) stp cnt.toNat 0 (by decide) (by omega)
  rw [e_X4_numberOf, run]
  cases sp_find (fun i => decide (c (pl + 2) (7 * s + i) = key)) cnt.toNat 0 with
  | some j => rfl
  | none =>
    dsimp only
    rw [e_X4_numberOf_3, if_pos ⟨s0, s1⟩, hc, if_neg (by omega)]
    rfl
theorem rf_findIn {r : mm_H} {nb base cnt w : Int} (b0 : 0 ≤ base) (c0 : 0 ≤ cnt) (c1 : base + cnt ≤ 22) (d : Nat) : mm_M mm_prog (d + 1) 180 [(42, nb), (0, base), (0, cnt), (1, w)] r = some ((sp_find (fun i => decide (r nb (base + i) = w)) cnt.toNat 0).getD (-1), r) := by
  have stp : ∀ i, 0 ≤ i → i < cnt → mm_R mm_prog d T_X12_findIn 3 [(42, nb), (0, base), (0, cnt), (1, w), (9, 0), (0, i)] [] r = bif decide (r nb (base + i) = w) then some (i, r) else mm_R mm_prog d T_X12_findIn 3 [(42, nb), (0, base), (0, cnt), (1, w), (9, 0), (0, i + 1)] [] r := by
    intro i i0 i1
    rw [e_X12_findIn_3, if_pos i1, pu_w (x := base + i) (by omega) (by omega), pu_w (x := i + 1) (by omega) (by omega), if_pos (by omega)]
    simp only [lcmp0]
    by_cases y : r nb (base + i) = w
    · rw [if_pos y, decide_eq_true y]; rfl
    · rw [if_neg y, decide_eq_false y]; rfl
  have run := sp_find_run (R := fun i => mm_R mm_prog d T_X12_findIn 3 [(42, nb), (0, base), (0, cnt), (1, w), (9, 0), (0, i)] [] r) (r := fun i => some (i, r)) stp cnt.toNat 0 (by decide) (by omega)
  rw [e_X12_findIn, run]
  cases sp_find (fun i => decide (r nb (base + i) = w)) cnt.toNat 0 with
  | some j => rfl
  | none =>
    dsimp only
    rw [e_X12_findIn_3, if_neg (by omega)]
    rfl
theorem fi_range (f : Int → Bool) (cnt : Int) (c0 : 0 ≤ cnt) : (sp_find f cnt.toNat 0).getD (-1) = -1 ∨ (0 ≤ (sp_find f cnt.toNat 0).getD (-1) ∧ (sp_find f cnt.toNat 0).getD (-1) < cnt) := by
  cases e : sp_find f cnt.toNat 0 with
  | none => exact Or.inl rfl
  | some j =>
    obtain ⟨a, b, -⟩ := sp_find_some e
    exact Or.inr ⟨a, by show j < cnt; omega⟩
/-- a name is found alike -/
theorem pr_find {c r : mm_H} {pl s cnt nb base key w : Int} (s0 : 0 ≤ s) (s1 : s < 4) (hc : c (pl + 1) s = cnt) (c0 : 0 ≤ cnt) (c1 : cnt ≤ 7) (b0 : 0 ≤ base) (b1 : base + cnt ≤ 22) (hN : ∀ i, 0 ≤ i → i < cnt → nmr (c (pl + 2) (7 * s + i)) (r nb (base + i))) (hk : nmr key w) (d d' : Nat) : ∃ x, (x = -1 ∨ (0 ≤ x ∧ x < cnt)) ∧ mm_M mm_prog (d + 1) 58 [(14, pl), (0, s), (1, key)] c = some (x, c) ∧ mm_M mm_prog (d' + 1) 180 [(42, nb), (0, base), (0, cnt), (1, w)] r = some (x, r) := by
  refine ⟨_, fi_range _ cnt c0, cl_numberOf s0 s1 hc c0 c1 d, ?_⟩
  rw [rf_findIn b0 c0 b1, sp_find_congr (c := fun i => decide (r nb (base + i) = w)) (c' := fun i => decide (c (pl + 2) (7 * s + i) = key)) (fun k k0 k1 => by
    have e := (hN k k0 (by omega)).eq hk
    by_cases y : c (pl + 2) (7 * s + k) = key
    · rw [decide_eq_true y, decide_eq_true (e.mp y)]
    · rw [decide_eq_false y, decide_eq_false (fun z => y (e.mpr z))])]
