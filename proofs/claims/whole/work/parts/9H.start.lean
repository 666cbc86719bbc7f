/-! The start: what the two constructors make keeps what holds between calls -/
def V00 : Int → Int := fun j => if j = 0 then 8 else if j = 5 then 4 else 0
theorem V00_W : pr_W V00 := by
  refine ⟨by decide, by decide, by decide, by decide, by decide, fun c c0 c1 => ?_, fun p p0 p1 => ?_, by decide, fun w w0 w1 => ?_, fun t t0 t1 => ?_⟩
  · have c1 : c ≤ 0 := c1
    have z : c = 0 := by omega
    subst z
    decide
  · have p1 : p < 0 := p1
    omega
  · have p1 : w < 0 := w1
    omega
  · have p1 : t < 0 := t1
    omega
theorem rf_start (d : Nat) : ∃ h, mm_R mm_prog (d + 1) T_X12_init 179 [(21, 133), (9, 0)] [] mm_h0 = some (0, h) ∧ Inv h := by
  obtain ⟨s1, e1, a1, a2, a3, a4, a5⟩ := rf_startRead (r := mm_h0) d
  obtain ⟨s2, r2, x2⟩ := sp_it_rel (R := fun i s => mm_R mm_prog (d + 1) T_X12_init 185 [(21, 133), (0, i)] [] s) (f := fun _ (x : Unit) => x) (I := fun i s _ => (∀ q, 0 ≤ q → q < i → s 135 q = V00 q) ∧ ∀ o k, o ≠ 135 → s o k = s1 o k) (N := 48) (fun i s y i0 i1 hs => by
    refine ⟨mm_up s 135 i (s 136 i), ?_, fun q q0 q1 => ?_, fun o k ho => ?_⟩
    · rw [e_X12_init_185, if_pos i1, if_pos ⟨i0, i1⟩, if_pos (by omega), pu_w (by omega) (by omega), show (133 : Int) + 2 = 135 from rfl, show (133 : Int) + 3 = 136 from rfl]
    · by_cases z : q = i
      · rw [z, pu_eq, hs.2 _ _ (by decide), a1 i i0 i1]; rfl
      · rw [pu_sl z]; exact hs.1 q q0 (by omega)
    · rw [pu_ob ho]; exact hs.2 o k ho) 48 0 s1 () (by decide) (by decide) ⟨fun q q0 q1 => by omega, fun _ _ _ => rfl⟩
  obtain ⟨h, e3, b1, b2⟩ := rf_startSo (r := s2) d
  have eV : ∀ j, 0 ≤ j → j < 48 → h 135 j = V00 j := fun j j0 j1 => by
    rw [b1 j j0 (by omega)]
    unfold f_new
    rw [if_pos j1, x2.1 j j0 j1]
  have eS : f_st0 V00 (h 135) := f_new_st fun j j0 j1 => by
    rw [b1 j j0 j1]
    exact f_new_cg (fun j j0 j1 => x2.1 j j0 j1) j0
  have eo : ∀ o k, o ≠ 135 → o ≠ 136 → o ≠ 144 → ¬ (o = 133 ∧ k = 25) → h o k = mm_h0 o k := fun o k q1 q2 q3 q4 => by
    rw [b2 o k q1, x2.2 o k q1, a5 o k (by omega)]
  refine ⟨h, ?_, ⟨W_cg V00_W eV, f_st0_T V00_W eV eS, P_cg ?_ V00_W eV, ?_, ?_, ?_⟩, ?_, ?_, ?_, ?_, ?_, ?_, ?_, ?_, ?_, ?_⟩
  · rw [e_X12_init_179, e1, Option.bind_some]
    exact r2.trans (by rw [e_X12_init_185, if_neg (by decide), e3, Option.bind_some])
  · refine ⟨?_, ?_, fun s q0 q1 => ?_, fun c c0 c1 => ?_, fun p p0 p1 => absurd (show p < 0 from p1) (by omega), fun p p0 p1 => absurd (show p < 0 from p1) (by omega), fun p p0 p1 => absurd (show p < 0 from p1) (by omega)⟩
    · rw [eo _ _ (by decide) (by decide) (by decide) (by decide)]; decide
    · rw [eo _ _ (by decide) (by decide) (by decide) (by decide)]; decide
    · rw [eo _ _ (by decide) (by decide) (by decide) (by omega)]
      rcases (show s = 0 ∨ s = 1 ∨ s = 2 ∨ s = 3 by omega) with z | z | z | z <;> subst z <;> decide
    · have c1 : c ≤ 0 := c1
      have z : c = 0 := by omega
      subst z
      rw [eo _ _ (by decide) (by decide) (by decide) (by decide)]; decide
  · obtain ⟨t0, t1, t2, t3, t4, t5, t6, t7, t8⟩ := eS
    have v2 : h 135 2 = 0 := eV 2 (by decide) (by decide)
    have v3 : h 135 3 = 0 := eV 3 (by decide) (by decide)
    refine ⟨?_, ?_, ?_, ?_, ?_, ?_, fun p p0 p1 => absurd p1 (by omega), fun p p0 p1 => absurd p1 (by omega)⟩
    · rw [t0, eo _ _ (by decide) (by decide) (by decide) (by decide)]; decide
    · rw [t1, eo _ _ (by decide) (by decide) (by decide) (by decide)]; decide
    · rw [t2, eo _ _ (by decide) (by decide) (by decide) (by decide)]; decide
    · rw [t3, eo _ _ (by decide) (by decide) (by decide) (by decide)]; decide
    · rw [t4, eo _ _ (by decide) (by decide) (by decide) (by decide)]; decide
    · rw [t5, eo _ _ (by decide) (by decide) (by decide) (by decide)]; decide
  · intro s i q0 q1 i0 i1
    rw [eV (1 + s) (by omega) (by omega)] at i1
    unfold V00 at i1
    rw [if_neg (by omega), if_neg (by omega)] at i1
    omega
  · exact Or.inl ⟨eS.2.2.2.2.2.2.2.2, by rw [eo _ _ (by decide) (by decide) (by decide) (by decide)]; decide⟩
  · refine ⟨?_, ?_, ?_, fun i i0 i1 => ?_⟩
    · rw [eo _ _ (by decide) (by decide) (by decide) (by decide)]; decide
    · rw [eo _ _ (by decide) (by decide) (by decide) (by decide)]; decide
    · rw [eo _ _ (by decide) (by decide) (by decide) (by decide), eo _ _ (by decide) (by decide) (by decide) (by decide)]; decide
    · rw [eo _ _ (by decide) (by decide) (by decide) (by decide)] at i1
      have i1 : i < 0 := i1
      omega
  · refine ⟨?_, Or.inl ?_⟩
    · rw [eo _ _ (by decide) (by decide) (by decide) (by decide), eo _ _ (by decide) (by decide) (by decide) (by decide)]; decide
    · rw [eo _ _ (by decide) (by decide) (by decide) (by decide)]; decide
  · refine ⟨?_, Or.inl ?_⟩
    · rw [eo _ _ (by decide) (by decide) (by decide) (by decide), eo _ _ (by decide) (by decide) (by decide) (by decide)]; decide
    · rw [eo _ _ (by decide) (by decide) (by decide) (by decide)]; decide
  · refine ⟨?_, ?_, ?_⟩
    all_goals (rw [eo _ _ (by decide) (by decide) (by decide) (by decide), eo _ _ (by decide) (by decide) (by decide) (by decide)]; decide)
  · refine ⟨?_, ?_, fun i i0 i1 => ?_, fun n n0 n1 => ?_⟩
    · rw [eo _ _ (by decide) (by decide) (by decide) (by decide), eo _ _ (by decide) (by decide) (by decide) (by decide)]; decide
    · rw [eo _ _ (by decide) (by decide) (by decide) (by decide)]; decide
    · rw [eo _ _ (by decide) (by decide) (by decide) (by decide)] at i1
      have i1 : i < 0 := i1
      omega
    · rw [eo _ _ (by decide) (by decide) (by decide) (by omega)]; rfl
  · rw [eo _ _ (by decide) (by decide) (by decide) (by decide), eo _ _ (by decide) (by decide) (by decide) (by decide)]; decide
  · refine ⟨?_, ?_, fun i i0 i1 => ?_⟩
    · rw [eo _ _ (by decide) (by decide) (by decide) (by decide), eo _ _ (by decide) (by decide) (by decide) (by decide)]; decide
    · rw [eo _ _ (by decide) (by decide) (by decide) (by decide)]; decide
    · rw [eo _ _ (by decide) (by decide) (by decide) (by decide)] at i1
      have i1 : i < 0 := i1
      omega
  · refine ⟨?_, Or.inl ?_⟩
    · rw [eo _ _ (by decide) (by decide) (by decide) (by decide), eo _ _ (by decide) (by decide) (by decide) (by decide)]; decide
    · rw [eo _ _ (by decide) (by decide) (by decide) (by decide)]; decide
  · rw [eo _ _ (by decide) (by decide) (by decide) (by decide), eo _ _ (by decide) (by decide) (by decide) (by decide)]; decide
  · refine ⟨?_, ?_, fun i i0 i1 => ?_⟩
    · rw [eo _ _ (by decide) (by decide) (by decide) (by decide), eo _ _ (by decide) (by decide) (by decide) (by decide)]; decide
    · rw [eo _ _ (by decide) (by decide) (by decide) (by decide)]; decide
    · rw [eo _ _ (by decide) (by decide) (by decide) (by decide)] at i1
      have i1 : i < 0 := i1
      omega
