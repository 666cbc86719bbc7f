/-! Any LINE, all LINES of a TOWN; two heaps as one -/
section
variable {c r : mm_H} {n most p t : Int}
theorem LR.wrap {X Y : Option mm_O} (h : LR X Y c r n most p) : LR (X.bind fun o => (if o.1 = 0 ∨ o.1 = 1 then (some (o.1, o.2)) else none)) (Y.bind fun o => (if o.1 = 0 ∨ o.1 = 1 then (some (o.1, o.2)) else none)) c r n most p := by
  rcases h with ⟨c', r', p', t', e1, e2, e3⟩ | ⟨c', r', e1, e2, e3⟩
  · exact Or.inl ⟨c', r', p', t', by rw [e1, Option.bind_some, if_pos (Or.inr rfl)], by rw [e2, Option.bind_some, if_pos (Or.inr rfl)], e3⟩
  · exact Or.inr ⟨c', r', by rw [e1, Option.bind_some, if_pos (Or.inl rfl)], by rw [e2, Option.bind_some, if_pos (Or.inl rfl)], e3⟩
theorem LR.wrapc {X Y : Option mm_O} (h : LR X Y c r n most p) : LR (X.bind fun o => (if o.1 = 0 ∨ o.1 = 1 then (some (o.1, o.2)) else none)) Y c r n most p := by
  rcases h with ⟨c', r', p', t', e1, e2, e3⟩ | ⟨c', r', e1, e2, e3⟩
  · exact Or.inl ⟨c', r', p', t', by rw [e1, Option.bind_some, if_pos (Or.inr rfl)], e2, e3⟩
  · exact Or.inr ⟨c', r', by rw [e1, Option.bind_some, if_pos (Or.inl rfl)], e2, e3⟩
theorem sp_bn {b : Bool} (h : b = false) : sp_b b = 0 := by rw [h]; rfl
theorem sp_bt {b : Bool} (h : b = true) : ¬ sp_b b = 0 := by rw [h]; decide
theorem ln_any (h : TF c r n most p t) (hW : TW c r) (d : Nat) : LR (mm_M mm_prog (d + 9) 95 [(19, 3), (18, 1)] c) (mm_M mm_prog (d + 9) 194 [(21, 133)] r) c r n most p := by
  have g := h.1.2.2.2.1
  have k0 := tk_word (k := 0) h.1 (by decide) (by decide) (d + 5)
  have k1 := tk_word (k := 1) h.1 (by decide) (by decide) (d + 5)
  have k2 := tk_word (k := 2) h.1 (by decide) (by decide) (d + 5)
  have k3 := tk_word (k := 3) h.1 (by decide) (by decide) (d + 5)
  have k4 := tk_word (k := 4) h.1 (by decide) (by decide) (d + 5)
  have k5 := tk_word (k := 5) h.1 (by decide) (by decide) (d + 5)
  have k6 := tk_word (k := 6) h.1 (by decide) (by decide) (d + 5)
  rw [show wo 0 = 10 from rfl] at k0
  rw [show wo 1 = 11 from rfl] at k1
  rw [show wo 2 = 12 from rfl] at k2
  rw [show wo 3 = 13 from rfl] at k3
  rw [show wo 4 = 14 from rfl] at k4
  rw [show wo 5 = 15 from rfl] at k5
  rw [show wo 6 = 16 from rfl] at k6
  rw [e_X9_readLine, e_X12_readLine, g, k0, Option.bind_some]
  by_cases z0 : t = 10
  · rw [if_pos z0, if_neg (sp_bt (decide_eq_true z0))]
    exact (ln_ring h hW (by omega) d).wrap
  rw [if_neg z0, if_pos (sp_bn (decide_eq_false z0))]
  dsimp only
  rw [k1, Option.bind_some]
  by_cases z1 : t = 11
  · rw [if_pos z1, if_neg (sp_bt (decide_eq_true z1))]
    exact (ln_gap h hW (by omega) d).wrapc
  rw [if_neg z1, if_pos (sp_bn (decide_eq_false z1))]
  dsimp only
  rw [k2, Option.bind_some]
  by_cases z2 : t = 12
  · rw [if_pos z2, if_neg (sp_bt (decide_eq_true z2))]
    exact (ln_cousin h hW (by omega) d).wrap
  rw [if_neg z2, if_pos (sp_bn (decide_eq_false z2))]
  dsimp only
  rw [k3, Option.bind_some]
  by_cases z3 : t = 13
  · rw [if_pos z3, if_neg (sp_bt (decide_eq_true z3))]
    exact (ln_person h hW (by omega) d).wrap
  rw [if_neg z3, if_pos (sp_bn (decide_eq_false z3))]
  dsimp only
  rw [k4, Option.bind_some]
  by_cases z4 : t = 14
  · rw [if_pos z4, if_neg (sp_bt (decide_eq_true z4))]
    exact (ln_work h hW (by omega) d).wrap
  rw [if_neg z4, if_pos (sp_bn (decide_eq_false z4))]
  dsimp only
  rw [k5, Option.bind_some]
  by_cases z5 : t = 15
  · rw [if_pos z5, if_neg (sp_bt (decide_eq_true z5))]
    exact (ln_after h hW d).wrap
  rw [if_neg z5, if_pos (sp_bn (decide_eq_false z5))]
  dsimp only
  rw [k6, Option.bind_some]
  by_cases z6 : t = 16
  · rw [if_pos z6, if_neg (sp_bt (decide_eq_true z6))]
    exact (ln_thing h hW (by omega) d).wrap
  rw [if_neg z6, if_pos (sp_bn (decide_eq_false z6))]
  dsimp only
  obtain ⟨cf, rf, u1, u2, u3, u4, u5⟩ := tf_fail (k := 1) h (by decide) (fun _ => rfl) (d + 6) (d + 7)
  right
  exact ⟨cf, rf, by rw [u1, Option.bind_some, if_pos (Or.inl rfl)], by rw [u2, Option.bind_some, if_pos (Or.inl rfl)], u3, u4.w, u5.x⟩
/-- the LINE's end -/
theorem tf_end (h : TF c r n most p t) (d : Nat) :
    (t = 4 ∧ ∃ c' r' p' t', mm_M mm_prog (d + 5) 91 [(18, 1), (2, 4)] c = some (1, c') ∧ mm_M mm_prog (d + 5) 176 [(21, 133)] r = some (1, r') ∧ TF c' r' n most p' t' ∧ p + gd t' ≤ p' ∧ cF c c' ∧ rF r r') ∨
    (∃ c' r', mm_M mm_prog (d + 5) 91 [(18, 1), (2, 4)] c = some (0, c') ∧ mm_M mm_prog (d + 5) 176 [(21, 133)] r = some (0, r') ∧ FL c' r' ∧ cF c c' ∧ rF r r') := by
  have sg := tk_sign (x := 59) h.1 (d + 3)
  rcases tf_take (w := 4) h (by decide) (by decide) d d with ⟨z, c', r', p', t', e1, e2, e3, e4, e5, e6⟩ | ⟨z, c', r', e1, e2, e3, e4, e5⟩
  · left
    refine ⟨z, c', r', p', t', e1, ?_, e3, e4, e5, e6⟩
    rw [e_X12_readEnd, sg, Option.bind_some, if_neg (sp_bt (decide_eq_true (by rw [z]; decide)))]
    dsimp only
    rw [e2, Option.bind_some]
  · right
    refine ⟨c', r', e1, ?_, e3, e4, e5⟩
    rw [e_X12_readEnd, sg, Option.bind_some, if_pos (sp_bn (decide_eq_false (fun q => z (by
      have := q.2
      unfold sgc at this
      by_cases y : t < 8
      · rw [if_pos y] at this; omega
      · rw [if_neg y] at this; omega))))]
    dsimp only
    rw [e2, Option.bind_some, if_pos (Or.inl rfl)]
end
theorem tw_loop {n : Int} (d : Nat) : ∀ (m : Nat) (i p t : Int) (c r : mm_H), TF c r n 900 p t → TW c r → 0 ≤ i → 2 * i ≤ p → n - p < m →
    (∃ k c' r' p', mm_R mm_prog (d + 9) T_X9_readTown 19 [(19, 3), (18, 1), (0, i)] [] c = some (k, c') ∧ mm_R mm_prog (d + 9) T_X12_town 13 [(21, 133), (0, i), (9, 0)] [] r = mm_R mm_prog (d + 9) T_X12_town 49 [(21, 133), (0, k), (0, 0)] [] r' ∧ (0 ≤ k ∧ k ≤ 470) ∧ TF c' r' n 900 p' 0 ∧ TW c' r' ∧ wF c c' ∧ xF r r') ∨
    (∃ c' r', mm_R mm_prog (d + 9) T_X9_readTown 19 [(19, 3), (18, 1), (0, i)] [] c = some (-1, c') ∧ mm_R mm_prog (d + 9) T_X12_town 13 [(21, 133), (0, i), (9, 0)] [] r = some (-1 - c' 1 9, r') ∧ FL c' r' ∧ wF c c' ∧ xF r r')
  | 0, i, p, t, c, r, h, hW, i0, ip, hm => by
    have := h.1.2.2.1
    omega
  | m + 1, i, p, t, c, r, h, hW, i0, ip, hm => by
    have bp := h.1.2.2.1
    have bn := h.1.1.2.2.1
    have g := h.1.2.2.2.1
    have k0 := h.1.2.2.2.2.2.2.k0
    rw [e_X9_readTown_19, e_X12_town_13, if_pos (by omega), g]
    by_cases z : t = 0
    · left
      subst z
      refine ⟨i, c, r, p, by rw [if_pos rfl], by rw [if_pos (k0.mpr rfl)], by omega, h, hW, wF.rf c, xF.rf r⟩
    rw [if_neg z, if_neg (fun e => z (k0.mp e))]
    have fin : ∀ (c' r' : mm_H), FL c' r' → (-1 : Int) - r' 133 11 = -1 - c' 1 9 ∧ mm_w (-1 - r' 133 11) = -1 - r' 133 11 := fun c' r' hf => by
      obtain ⟨-, -, -, q4, q5⟩ := hf
      rw [q4]
      exact ⟨rfl, pu_w (by omega) (by omega)⟩
    rcases ln_any h hW d with ⟨c1, r1, p1, t1, e1, e2, e3, e4, e5, e6, e7⟩ | ⟨c1, r1, e1, e2, e3, e4, e5⟩
    · rcases tf_end e3 (d + 4) with ⟨y, c2, r2, p2, t2, f1, f2, f3, f4, f5, f6⟩ | ⟨c2, r2, f1, f2, f3, f4, f5⟩
      · have gt : gd t1 = 1 := by rw [y]; rfl
        have g0 := gd_nn t2
        rw [e1, Option.bind_some, e2, Option.bind_some]
        show (∃ k c' r' p', (if (1 : Int) = 0 then _ else _) = _ ∧ (if (1 : Int) = 0 then _ else _) = _ ∧ _) ∨ (∃ c' r', (if (1 : Int) = 0 then _ else _) = _ ∧ (if (1 : Int) = 0 then _ else _) = _ ∧ _)
        simp only [if_neg (show ¬ (1 : Int) = 0 by decide)]
        rw [f1, Option.bind_some, f2, Option.bind_some]
        simp only [if_neg (show ¬ (1 : Int) = 0 by decide)]
        rw [pu_w (by omega) (by omega)]
        rcases tw_loop d m (i + 1) p2 t2 c2 r2 f3 (e4.fr f5 f6) (by omega) (by omega) (by omega) with ⟨k, c', r', p', q1, q2, q3, q4, q5, q6, q7⟩ | ⟨c', r', q1, q2, q3, q4, q5⟩
        · exact Or.inl ⟨k, c', r', p', q1, q2, q3, q4, q5, (e6.tr f5.w).tr q6, (e7.tr f6.x).tr q7⟩
        · exact Or.inr ⟨c', r', q1, q2, q3, (e6.tr f5.w).tr q4, (e7.tr f6.x).tr q5⟩
      · right
        refine ⟨c2, r2, ?_, ?_, f3, e6.tr f4.w, e7.tr f5.x⟩
        · rw [e1, Option.bind_some]
          show (if (1 : Int) = 0 then _ else _) = _
          rw [if_neg (by decide)]
          dsimp only
          rw [f1, Option.bind_some]
          rfl
        · rw [e2, Option.bind_some]
          show (if (1 : Int) = 0 then _ else _) = _
          rw [if_neg (by decide)]
          dsimp only
          rw [f2, Option.bind_some]
          show (if (0 : Int) = 0 then _ else _) = _
          rw [if_pos rfl]
          dsimp only
          rw [(fin _ _ f3).2, (fin _ _ f3).1]
    · right
      refine ⟨c1, r1, ?_, ?_, e3, e4, e5⟩
      · rw [e1, Option.bind_some]
        rfl
      · rw [e2, Option.bind_some]
        show (if (0 : Int) = 0 then _ else _) = _
        rw [if_pos rfl]
        dsimp only
        rw [(fin _ _ e3).2, (fin _ _ e3).1]
/-! Two heaps, one for each side -/
def mg (c r : mm_H) : mm_H := fun o k => if o < 133 then c o k else r o k
theorem mg_c {c r : mm_H} {o : Int} (h : o < 133) (k : Int) : mg c r o k = c o k := if_pos h
theorem mg_r {c r : mm_H} {o : Int} (h : 133 ≤ o) (k : Int) : mg c r o k = r o k := if_neg (by omega)
theorem mg_rc {c r : mm_H} {o : Int} (h : o < 133) : mg c r o = c o := funext fun k => mg_c h k
theorem mg_rr {c r : mm_H} {o : Int} (h : 133 ≤ o) : mg c r o = r o := funext fun k => mg_r h k
theorem mg_id {h h1 : mm_H} (e : ∀ o j, 133 ≤ o → h1 o j = h o j) : mg h h1 = h := by
  funext o k
  by_cases z : o < 133
  · exact mg_c z k
  · rw [mg_r (by omega), e o k (by omega)]
theorem mg_id2 {h h1 : mm_H} (e : ∀ o j, o < 133 → h1 o j = h o j) : mg h h1 = h1 := by
  funext o k
  by_cases z : o < 133
  · rw [mg_c z, e o k z]
  · exact mg_r (by omega) k
theorem Cal_of {q1 q2 : Nat} {as : List mm_V} (H : ∀ (d : Nat) (c r : mm_H), Inv (mg c r) → ∃ k c' r', mm_M mm_prog (d + 100) q1 ((20, 0) :: as) c = some (k, c') ∧ mm_M mm_prog (d + 100) q2 ((21, 133) :: as) r = some (k, r') ∧ Inv (mg c' r') ∧ (∀ o j, 133 ≤ o → c' o j = c o j) ∧ (∀ o j, o < 133 → r' o j = r o j)) : Cal q1 q2 as := by
  intro d h hI
  obtain ⟨k, c', r', a1, a2, a3, a4, a5⟩ := H d h h (by rw [mg_id (fun _ _ _ => rfl)]; exact hI)
  obtain ⟨k2, c2, r2, b1, b2, b3, b4, b5⟩ := H d h c' (by rw [mg_id a4]; exact hI)
  rw [a1] at b1
  have e := Option.some.inj b1
  have e1 : k = k2 := congrArg Prod.fst e
  have e2 : c' = c2 := congrArg Prod.snd e
  subst e1 e2
  rw [mg_id2 b5] at b3
  exact ⟨k, c', r2, a1, b2, b3⟩
