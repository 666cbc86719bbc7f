/-! How long it stood: the call -/
section PC
variable {V : Int → Int} {h : mm_H} {L : Int}
/-- the class's tape, plan and row, whatever of the clues has changed -/
theorem cl_judge (hT : TA h) (hV : pr_P h 15 V) (hW : pr_W V) (hL : h 1 1 = L) (l2 : 2 ≤ L ∧ L ≤ 16 ∧ L % 2 = 0) (np : sp_any (f_nth V (h 134)) (L / 2) = false) (d : Nat) : ∃ h', mm_M mm_prog (d + 4) 9 [(11, 76), (18, 1), (14, 15)] h = some (f_ct (f_fit V (h 134) L) 256, h') ∧ dif (fun o k => o = 77 ∨ (o = 76 ∧ 1 ≤ k ∧ k ≤ 3)) h h' ∧ (f_ct (f_fit V (h 134) L) 256 = 0 → ∀ k, h' 76 k = h 76 k) ∧ (0 < f_ct (f_fit V (h 134) L) 256 → kbI (f_fit V (h 134) L) 256 (h' 76 1) (h' 76 2) ∧ h' 76 3 = (sp_it (f_nt V (f_fit V (h 134) L)) (V 4).toNat 0 (-1, 257)).1) := by
  obtain ⟨c, hc⟩ : ∃ c, c = f_fit V (h 134) L := ⟨_, rfl⟩
  rw [← hc]
  rw [e_X1_judge, cl_pairs hT hV hL, Option.bind_some, decide_eq_true l2, np]
  show ∃ h', (if (1 : Int) = 0 then _ else _) = _ ∧ _
  rw [if_neg (by decide)]
  dsimp only
  obtain ⟨⟨s1, a1⟩, r1, D1, F1, e1⟩ := sp_it_rel (R := fun i (q : mm_H × Int) => mm_R mm_prog (d + 3) T_X1_judge 15 [(11, 76), (18, 1), (14, 15), (0, q.2), (0, i)] [] q.1) (f := fun _ (x : Unit) => x) (I := fun i q _ => dif (fun o _ => o = 77) h q.1 ∧ FT c q.1 i ∧ q.2 = f_ct c i.toNat) (N := 256) (fun i q x i0 i1 hI => by
    obtain ⟨q, a⟩ := q
    obtain ⟨qD, qF, qa⟩ := hI
    dsimp only at qD qF qa ⊢
    subst qa
    have qD' : ∀ o k, ¬ o = 77 → q o k = h o k := qD
    have nb := f_ct_b c i.toNat
    have qT : TA q := hT.dif qD (fun o k z w => by
      have w' : o = 77 := w
      omega)
    have er : q 134 = h 134 := funext fun k => qD' 134 k (by omega)
    have cr := cl_rests qT (hV.ob (fun o h0 h1 _ k => qD' o k (by omega))) hW ((qD' 1 1 (by omega)).trans hL) l2.2.2 (by rw [er]; exact np) i0 i1 (d + 1)
    rw [er, ← hc] at cr
    rw [e_X1_judge_15, if_pos i1, cr, Option.bind_some, if_pos ⟨i0, i1⟩, if_pos (sp_b01 _), if_pos ⟨i0, i1⟩, show (76 : Int) + 1 = 77 from rfl, pu_eq, pu_w (x := i + 1) (by omega) (by omega), pu_w (x := f_ct c i.toNat + 1) (by omega) (by omega)]
    dsimp only
    refine ⟨(mm_up q 77 i (sp_b (c i)), f_ct c i.toNat + sp_b (c i)), ?_, qD.up rfl, fun m m0 m1 => ?_, (f_ct_S i0).symm⟩
    · dsimp only
      cases c i with
      | true => rfl
      | false =>
        show _ = mm_R mm_prog (d + 3) T_X1_judge 15 [(11, 76), (18, 1), (14, 15), (0, f_ct c i.toNat + 0), (0, i + 1)] [] _
        rw [Int.add_zero]
        rfl
    · dsimp only
      by_cases e : m = i
      · rw [e, pu_eq]
      · rw [pu_sl e]
        exact qF m m0 (by omega)) 256 0 (h, 0) () (by decide) (by decide) ⟨dif.rf _ h, fun m m0 m1 => by omega, rfl⟩
  dsimp only at r1 D1 F1 e1
  change a1 = f_ct c 256 at e1
  have D1' : ∀ o k, ¬ o = 77 → s1 o k = h o k := D1
  have nb := f_ct_b c 256
  rw [r1, e_X1_judge_15, if_neg (by decide), e1]
  by_cases z : 0 < f_ct c 256
  · rw [if_pos z]
    obtain ⟨s2, r2, D2, K2⟩ := cl_bounds F1 (d + 2)
    have D2' : ∀ o k, ¬ (o = 76 ∧ (k = 1 ∨ k = 2)) → s2 o k = s1 o k := D2
    have F2 : FT c s2 256 := fun m m0 m1 => by
      rw [D2' 77 m (by omega)]
      exact F1 m m0 m1
    have tt := cl_ttl (hV.ob (fun o h0 h1 _ k => (D2' o k (by omega)).trans (D1' o k (by omega)))) hW F2 (d + 1)
    rw [r2, Option.bind_some]
    dsimp only
    rw [tt, Option.bind_some]
    dsimp only
    refine ⟨_, rfl, ?_, fun w => by omega, fun _ => ⟨?_, pu_eq _ _ _ _⟩⟩
    · exact dif.up (ch := fun o k => o = 77 ∨ (o = 76 ∧ 1 ≤ k ∧ k ≤ 3)) (D1.tr D2 (fun o k (q : o = 77) => Or.inl q) (fun o k (q : o = 76 ∧ (k = 1 ∨ k = 2)) => Or.inr (by omega))) (Or.inr ⟨rfl, by decide, by decide⟩)
    · rw [pu_sl (by decide), pu_sl (by decide)]
      exact K2
  · rw [if_neg z]
    exact ⟨s1, rfl, D1.tr (dif.rf (fun _ _ => False) s1) (fun o k (q : o = 77) => Or.inl q) (fun _ _ q => q.elim), fun _ k => D1' 76 k (by omega), fun w => absurd w z⟩
end PC
section PR
variable {V : Int → Int} {s : mm_H} {L : Int}
theorem rf_hasStood (er : s 135 = V) (hW : pr_W V) (l0 : 0 ≤ L ∧ L ≤ 16) (l2 : L % 2 = 0) (np : sp_any (f_nth V (s 134)) (L / 2) = false) {m : Int} (m0 : 0 ≤ m) (m1 : m < 256) (d : Nat) : mm_M mm_prog (d + 1) 236 [(21, 133), (0, m), (0, L)] s = some (sp_b (f_fit V (s 134) L m), s) := by
  have w4 := hW.2.2.2.2.1
  rw [e_X12_hasStood]
  have th : ∀ j, 0 ≤ j → j < L / 2 → 0 ≤ s 134 (2 * j) ∧ s 134 (2 * j) < V 4 := fun j j0 j1 => by
    by_cases z : 0 ≤ s 134 (2 * j) ∧ s 134 (2 * j) < V 4
    · exact z
    · have : sp_any (f_nth V (s 134)) (L / 2) = true := sp_any_iff.mpr ⟨j, j0, j1, by unfold f_nth; rw [decide_eq_false z]; rfl⟩
      rw [np] at this
      cases this
  refine sp_any_run2 (R := fun i => mm_R mm_prog d T_X12_hasStood 2 [(21, 133), (0, m), (0, L), (0, 2 * i)] [] s) (N := L / 2) (by omega) (fun i i0 i1 => ?_) ?_
  · obtain ⟨a, b⟩ := th i i0 i1
    have g := hW.2.2.2.2.2.2.2.2.2 (s 134 (2 * i)) a b
    have eg : s 135 (43 + s 134 (2 * i)) = V (43 + s 134 (2 * i)) := by rw [er]
    rw [e_X12_hasStood_2, if_pos (by omega), if_pos (by omega), show (133 : Int) + 1 = 134 from rfl, r135, pu_w (x := 43 + s 134 (2 * i)) (by omega) (by omega), if_pos (by omega), eg, if_neg (by omega), pu_w (x := 2 * i + 1) (by omega) (by omega), if_pos (by omega), pu_rem m0 (by omega) (by omega) (by omega), pu_w (x := 2 * i + 2) (by omega) (by omega), show 2 * i + 2 = 2 * (i + 1) by omega]
    unfold f_nrs
    by_cases z : m % V (43 + s 134 (2 * i)) = s 134 (2 * i + 1)
    · rw [if_pos z, decide_eq_true z]; rfl
    · rw [if_neg z, decide_eq_false z]; rfl
  · rw [e_X12_hasStood_2, if_neg (by omega)]
/-- the reference's row of what fits -/
def EN (c : Int → Bool) (s : mm_H) (n : Int) : Prop := ∀ m, 0 ≤ m → m < n → c m = true → s 145 (f_ct c m.toNat) = m
theorem rf_leftBy {c : Int → Bool} (er : s 135 = V) (hW : pr_W V) (hE : EN c s 256) {t : Int} (t0 : 0 ≤ t) (t1 : t < V 4) (d : Nat) : ∃ s', mm_M mm_prog (d + 1) 237 [(21, 133), (0, t), (0, f_ct c 256)] s = some (f_mx c (V (43 + t)), s') ∧ dif (fun o _ => o = 146) s s' := by
  have w4 := hW.2.2.2.2.1
  have g := hW.2.2.2.2.2.2.2.2.2 t t0 t1
  obtain ⟨e, he⟩ : ∃ e, e = V (43 + t) := ⟨_, rfl⟩
  rw [← he] at g ⊢
  rw [e_X12_leftBy]
  obtain ⟨s1, r1, D1, Z1⟩ := sp_it_rel (R := fun i q => mm_R mm_prog d T_X12_leftBy 2 [(21, 133), (0, t), (0, f_ct c 256), (0, i), (9, 0), (9, 0)] [] q) (f := fun _ (x : Unit) => x) (I := fun i q _ => dif (fun o _ => o = 146) s q ∧ ∀ r, 0 ≤ r → r < i → q 146 r = 0) (N := 60) (fun i q x i0 i1 hI => by
    obtain ⟨qD, qZ⟩ := hI
    refine ⟨mm_up q 146 i 0, ?_, qD.up rfl, fun r r0 r1 => ?_⟩
    · rw [e_X12_leftBy_2, if_pos i1, if_pos ⟨i0, i1⟩, pu_w (by omega) (by omega), show (133 : Int) + 13 = 146 from rfl]
    · by_cases z : r = i
      · rw [z, pu_eq]
      · rw [pu_sl z]
        exact qZ r r0 (by omega)) 60 0 s () (by decide) (by decide) ⟨dif.rf _ s, fun r r0 r1 => by omega⟩
  obtain ⟨⟨s2, a2, u2⟩, r2, D2, Z2, X2⟩ := sp_it_rel (R := fun i (q : mm_H × Int × mm_V) => mm_R mm_prog d T_X12_leftBy 26 [(21, 133), (0, t), (0, f_ct c 256), (0, q.2.1), (0, f_ct c i.toNat), q.2.2] [] q.1) (f := fun _ (x : Unit) => x) (I := fun i q _ => dif (fun o _ => o = 146) s q.1 ∧ (∀ r, 0 ≤ r → r < e → q.1 146 r = f_nr c e r i.toNat) ∧ isMx c e i.toNat e q.2.1) (N := 256) (fun i q x i0 i1 hI => by
    obtain ⟨q, a, u⟩ := q
    obtain ⟨qD, qZ, qX⟩ := hI
    dsimp only at qD qZ qX ⊢
    have qD' : ∀ o k, ¬ o = 146 → q o k = s o k := qD
    have nb := f_ct_b c i.toNat
    have cS := f_ct_S (c := c) i0
    cases ec : c i with
    | false =>
      rw [ec] at cS
      have cS' : f_ct c (i + 1).toNat = f_ct c i.toNat := by rw [cS]; show _ + 0 = _; omega
      have nS : ∀ r, f_nr c e r (i + 1).toNat = f_nr c e r i.toNat := fun r => by
        rw [f_nr_S i0, ec, Bool.false_and]
        show _ + 0 = _
        omega
      refine ⟨(q, a, u), by dsimp only; rw [cS'], qD, fun r r0 r1 => by rw [nS]; exact qZ r r0 r1, ?_⟩
      unfold isMx
      simp only [nS]
      exact qX
    | true =>
      rw [ec] at cS
      have cS' : f_ct c (i + 1).toNat = f_ct c i.toNat + 1 := cS
      have lt : f_ct c (i + 1).toNat ≤ f_ct c 256 := f_ct_mono c (by omega)
      have ei : q (133 + 12) (f_ct c i.toNat) = i := (qD' 145 _ (by omega)).trans (hE i i0 i1 ec)
      have eg : q 135 (43 + t) = e := by
        rw [qD' 135 _ (by omega), er, he]
      obtain ⟨ρ, hρ⟩ : ∃ ρ, ρ = i % e := ⟨_, rfl⟩
      have ρ0 : 0 ≤ ρ := by rw [hρ]; exact Int.emod_nonneg _ (by omega)
      have ρ1 : ρ < e := by rw [hρ]; exact Int.emod_lt_of_pos _ (by omega)
      have nS : ∀ r, f_nr c e r (i + 1).toNat = f_nr c e r i.toNat + sp_b (decide (ρ = r)) := fun r => by
        rw [f_nr_S i0, ec, Bool.true_and, hρ]
      have nb2 := f_ct_b (fun y => c y && decide (y % e = ρ)) i.toNat
      have nb3 : 0 ≤ f_nr c e ρ i.toNat ∧ f_nr c e ρ i.toNat ≤ i.toNat := nb2
      have eo : f_nr c e ρ (i + 1).toNat = f_nr c e ρ i.toNat + 1 := by rw [nS, decide_eq_true rfl]; rfl
      have en : ∀ r, r ≠ ρ → f_nr c e r (i + 1).toNat = f_nr c e r i.toNat := fun r hr => by
        rw [nS, decide_eq_false (fun z => hr z.symm)]
        show _ + 0 = _
        omega
      have nZ : ∀ r, 0 ≤ r → r < e → mm_up q 146 ρ (f_nr c e ρ i.toNat + 1) 146 r = f_nr c e r (i + 1).toNat := fun r r0 r1 => by
        by_cases z : r = ρ
        · rw [z, pu_eq, eo]
        · rw [pu_sl z, en r z]
          exact qZ r r0 r1
      have cρ : 0 ≤ ρ ∧ ρ < 60 := by omega
      rw [e_X12_leftBy_26, if_pos (by omega), if_pos (by omega), r135, ei, pu_w (x := 43 + t) (by omega) (by omega), if_pos (by omega), eg, if_neg (by omega), pu_rem i0 (by omega) (by omega) (by omega), ← hρ, if_pos cρ, if_pos cρ, if_pos cρ, if_pos cρ, show (133 : Int) + 13 = 146 from rfl, qZ ρ ρ0 ρ1, pu_w (x := f_nr c e ρ i.toNat + 1) (by omega) (by omega), pu_eq, pu_w (x := f_ct c i.toNat + 1) (by omega) (by omega), cS']
      by_cases z : a < f_nr c e ρ i.toNat + 1
      · rw [if_pos z]
        refine ⟨(_, _, _), rfl, qD.up rfl, nZ, fun r r0 r1 => ?_, by dsimp only; omega, Or.inr ⟨ρ, ρ0, ρ1, eo⟩⟩
        dsimp only
        by_cases w : r = ρ
        · rw [w, eo]; omega
        · rw [en r w]
          have := qX.1 r r0 r1
          omega
      · rw [if_neg z]
        refine ⟨(_, a, _), rfl, qD.up rfl, nZ, fun r r0 r1 => ?_, qX.2.1, ?_⟩
        · dsimp only
          by_cases w : r = ρ
          · rw [w, eo]; omega
          · rw [en r w]
            exact qX.1 r r0 r1
        · rcases qX.2.2 with w | ⟨r, r0, r1, w⟩
          · exact Or.inl w
          · have : r ≠ ρ := fun z2 => by
              rw [z2] at w
              omega
            exact Or.inr ⟨r, r0, r1, by rw [en r this]; exact w⟩) 256 0 (s1, 0, (9, 0)) () (by decide) (by decide) ⟨D1, fun r r0 r1 => Z1 r r0 (by omega), fun r r0 r1 => Int.le_refl 0, Int.le_refl 0, Or.inl rfl⟩
  dsimp only at r2 D2 X2
  refine ⟨s2, ?_, D2⟩
  change isMx c e 256 e a2 at X2
  have ea : a2 = f_mx c e := X2.uniq (f_mx_ok c (by omega))
  change mm_R mm_prog d T_X12_leftBy 26 [(21, 133), (0, t), (0, f_ct c 256), (0, 0), (0, 0), (9, 0)] [] s1 = mm_R mm_prog d T_X12_leftBy 26 [(21, 133), (0, t), (0, f_ct c 256), (0, a2), (0, f_ct c 256), u2] [] s2 at r2
  rw [r1, e_X12_leftBy_2, if_neg (by decide), r2, e_X12_leftBy_26, if_neg (by omega), ea]
end PR
/-- what stood may change -/
def q_sd (o k : Int) : Prop := (o = 77 ∨ (o = 76 ∧ 1 ≤ k ∧ k ≤ 3)) ∨ (o = 1 ∧ k = 1) ∨ (o = 133 ∧ (k = 0 ∨ k = 2 ∨ (28 ≤ k ∧ k ≤ 30))) ∨ o = 145 ∨ o = 146
theorem Inv.sd {h h' : mm_H} (hI : Inv h) (E : ∀ o k, ¬ q_sd o k → h' o k = h o k) (cu : CU h') (l1 : h' 1 1 = 0) (l2 : h' 133 2 = 0) : Inv h' := by
  have E' := E
  unfold q_sd at E'
  obtain ⟨c1, c2, c3, c4, c5, c6, c7, c8, c9⟩ := (Inv_iff.mp hI).2.2
  refine hI.gen (ch := q_sd) E (fun o j q z => by unfold q_img at q; unfold q_sd at z; omega) (fun o j q z => by unfold q_town at q; unfold q_sd at z; omega) (fun o j q z => by unfold q_past at q; unfold q_sd at z; omega) cu (c4.dif (ch := q_sd) E (fun o j q z => by unfold q_sd at z; omega)) (by rw [E' 0 14 (by omega), E' 133 34 (by omega)]; exact c5) (c6.dif (ch := q_sd) E (fun o j q z => by unfold q_sd at z; omega)) (c7.dif (ch := q_sd) E (fun o j q z => by unfold q_sd at z; omega)) (by rw [E' 0 13 (by omega), E' 133 10 (by omega)]; exact c8) ⟨by rw [l1, l2], by rw [l1]; decide, fun i i0 i1 => by rw [l1] at i1; omega⟩
theorem k_stood : Cal 124 238 [] := by
  intro d h hI
  have hT := hI.tap
  have t1 := hT.1
  have t2 := hT.2.1
  have w4 := hI.W.2.2.2.2.1
  have cu := hI.2.2.2.2.1
  obtain ⟨L, hL⟩ : ∃ L, L = h 1 1 := ⟨_, rfl⟩
  rw [← hL] at t1 t2
  by_cases ok : (2 ≤ L ∧ L ≤ 16 ∧ L % 2 = 0) ∧ sp_any (f_nth (h 135) (h 134)) (L / 2) = false
  · obtain ⟨l2, np⟩ := ok
    obtain ⟨h1, e1, D1, A1, B1⟩ := cl_judge hT hI.P hI.W hL.symm l2 np (d + 95)
    have D1' : ∀ o k, ¬ (o = 77 ∨ (o = 76 ∧ 1 ≤ k ∧ k ≤ 3)) → h1 o k = h o k := D1
    obtain ⟨c, hc⟩ : ∃ c, c = f_fit (h 135) (h 134) L := ⟨_, rfl⟩
    rw [← hc] at e1 A1 B1
    have nb := f_ct_b c 256
    obtain ⟨g0, hg0⟩ : ∃ g0, g0 = mm_up (mm_up (mm_up h1 1 1 0) 133 0 0) 133 2 0 := ⟨_, rfl⟩
    have E0 : ∀ o k, ¬ ((o = 1 ∧ k = 1) ∨ (o = 133 ∧ (k = 0 ∨ k = 2))) → g0 o k = h1 o k := fun o k q => by
      rw [hg0]
      unfold mm_up
      rw [if_neg (by omega), if_neg (by omega), if_neg (by omega)]
    have r0 : g0 135 = h 135 := funext fun k => (E0 135 k (by omega)).trans (D1' 135 k (by omega))
    have r4 : g0 134 = h 134 := funext fun k => (E0 134 k (by omega)).trans (D1' 134 k (by omega))
    have th : ∀ j, 0 ≤ j → j < L / 2 → 0 ≤ h 134 (2 * j) ∧ h 134 (2 * j) < h 135 4 := fun j j0 j1 => by
      by_cases z : 0 ≤ h 134 (2 * j) ∧ h 134 (2 * j) < h 135 4
      · exact z
      · have : sp_any (f_nth (h 135) (h 134)) (L / 2) = true := sp_any_iff.mpr ⟨j, j0, j1, by unfold f_nth; rw [decide_eq_false z]; rfl⟩
        rw [np] at this
        cases this
    -- the pairs again
    have p1 : mm_R mm_prog (d + 99) T_X12_stood 32 [(21, 133), (0, L), (0, 0), (9, 0)] [] g0 = mm_R mm_prog (d + 99) T_X12_stood 70 [(21, 133), (0, L), (0, 0), (0, 0)] [] g0 := by
      have := sp_it_rel (σ := Unit) (R := fun i _ => mm_R mm_prog (d + 99) T_X12_stood 32 [(21, 133), (0, L), (0, 2 * i), (9, 0)] [] g0) (f := fun _ (x : Unit) => x) (I := fun _ _ _ => True) (N := L / 2) (fun i s x i0 i1 _ => ⟨(), by
        obtain ⟨a, b⟩ := th i i0 i1
        rw [e_X12_stood_32, if_pos (by omega), if_pos (by omega), r135, show (133 : Int) + 1 = 134 from rfl, r0, r4, pu_w (x := h 135 4 - 1) (by omega) (by omega), rf_isIn, Option.bind_some, decide_eq_true (by omega)]
        show (if (1 : Int) = 0 then _ else _) = _
        rw [if_neg (by decide), pu_w (by omega) (by omega), show 2 * i + 2 = 2 * (i + 1) by omega], trivial⟩) (L / 2).toNat 0 () () (by decide) (by omega) trivial
      obtain ⟨-, e, -⟩ := this
      have e' : mm_R mm_prog (d + 99) T_X12_stood 32 [(21, 133), (0, L), (0, 0), (9, 0)] [] g0 = mm_R mm_prog (d + 99) T_X12_stood 32 [(21, 133), (0, L), (0, 2 * (L / 2)), (9, 0)] [] g0 := e
      rw [e', e_X12_stood_32, if_neg (by omega)]
    obtain ⟨⟨g1, a1⟩, p2, G1, N1, b1⟩ := sp_it_rel (R := fun i (q : mm_H × Int) => mm_R mm_prog (d + 99) T_X12_stood 70 [(21, 133), (0, L), (0, q.2), (0, i)] [] q.1) (f := fun _ (x : Unit) => x) (I := fun i q _ => dif (fun o _ => o = 145) g0 q.1 ∧ EN c q.1 i ∧ q.2 = f_ct c i.toNat) (N := 256) (fun i q x i0 i1 hJ => by
      obtain ⟨q, a⟩ := q
      obtain ⟨qD, qN, qa⟩ := hJ
      dsimp only at qD qN qa ⊢
      subst qa
      have qD' : ∀ o k, ¬ o = 145 → q o k = g0 o k := qD
      have nb := f_ct_b c i.toNat
      have cS := f_ct_S (c := c) i0
      have q4 : q 134 = h 134 := by rw [← r4]; exact funext fun k => qD' 134 k (by omega)
      have hs := rf_hasStood (s := q) (V := h 135) (by rw [← r0]; exact funext fun k => qD' 135 k (by omega)) hI.W (L := L) (by omega) l2.2.2 (by rw [q4]; exact np) i0 i1 (d + 98)
      rw [q4, ← hc] at hs
      rw [e_X12_stood_70, if_pos i1, hs, Option.bind_some, pu_w (x := i + 1) (by omega) (by omega)]
      cases ec : c i with
      | false =>
        rw [ec] at cS
        have cS' : f_ct c (i + 1).toNat = f_ct c i.toNat := by rw [cS]; show _ + 0 = _; omega
        refine ⟨(q, f_ct c i.toNat), rfl, qD, fun m m0 m1 mc => ?_, cS'.symm⟩
        by_cases z : m = i
        · rw [z, ec] at mc
          cases mc
        · exact qN m m0 (by omega) mc
      | true =>
        rw [ec] at cS
        have cS' : f_ct c (i + 1).toNat = f_ct c i.toNat + 1 := cS
        show ∃ s', (if (1 : Int) = 0 then _ else _) = _ ∧ _
        rw [if_neg (by decide), if_pos (by omega), pu_w (x := f_ct c i.toNat + 1) (by omega) (by omega), show (133 : Int) + 12 = 145 from rfl]
        dsimp only
        refine ⟨(mm_up q 145 (f_ct c i.toNat) i, f_ct c i.toNat + 1), rfl, qD.up rfl, fun m m0 m1 mc => ?_, cS'.symm⟩
        dsimp only
        by_cases z : m = i
        · rw [z, pu_eq]
        · have m2 := f_ct_S (c := c) m0
          rw [mc] at m2
          have m2' : f_ct c (m + 1).toNat = f_ct c m.toNat + 1 := m2
          have m3 : f_ct c (m + 1).toNat ≤ f_ct c i.toNat := f_ct_mono c (by omega)
          rw [pu_sl (by omega)]
          exact qN m m0 (by omega) mc) 256 0 (g0, 0) () (by decide) (by decide) ⟨dif.rf _ g0, fun m m0 m1 => by omega, rfl⟩
    dsimp only at p2 G1 N1 b1
    change a1 = f_ct c 256 at b1
    have G1' : ∀ o k, ¬ o = 145 → g1 o k = g0 o k := G1
    have cls : mm_M mm_prog (d + 100) 124 [(20, 0)] h = some (f_ct c 256, mm_up h1 1 1 0) := by
      rw [e_X11_stood]
      simp only [n15, show (0 : Int) + 76 = 76 from rfl, show (0 : Int) + 1 = 1 from rfl]
      rw [e1, Option.bind_some]
    have rfs : mm_M mm_prog (d + 100) 238 [(21, 133)] (mm_up h1 1 1 0) = mm_R mm_prog (d + 99) T_X12_stood 70 [(21, 133), (0, L), (0, f_ct c 256), (0, 256)] [] g1 := by
      rw [e_X12_stood, e_X12_take, Option.bind_some]
      have eL : mm_up (mm_up h1 1 1 0) 133 0 0 133 2 = L := by
        rw [pu_sl (by decide), pu_ob (by decide), D1' 133 2 (by omega)]
        exact t1.symm
      rw [eL, ← hg0]
      dsimp only
      rw [if_neg (by decide), pu_rem (by omega) (by omega) (by decide) (by decide), if_pos l2.2.2, if_neg (by decide), pu_div (by omega) (by omega) (by decide) (by decide), rf_isIn, Option.bind_some, decide_eq_true (by omega)]
      show (if (1 : Int) = 0 then _ else _) = _
      rw [if_neg (by decide)]
      dsimp only
      rw [p1, p2, b1]
    by_cases z : 0 < f_ct c 256
    · obtain ⟨kb, nx⟩ := B1 z
      rcases kb with kb | ⟨-, kl, kg⟩
      · have : f_ct c 256 = 0 := kb.1
        omega
      have s0 : g1 145 0 = h1 76 1 := by
        have := N1 _ kl.1 kl.2.1 kl.2.2.1
        rw [kl.2.2.2] at this
        exact this
      have s9 : g1 145 (f_ct c 256 - 1) = h1 76 2 := by
        have := N1 _ kg.1 kg.2.1 kg.2.2.1
        have e9 : f_ct c (h1 76 2).toNat + 1 = f_ct c 256 := kg.2.2.2
        rw [show f_ct c (h1 76 2).toNat = f_ct c 256 - 1 by omega] at this
        exact this
      obtain ⟨g2, hg2⟩ : ∃ g2, g2 = mm_up (mm_up (mm_up g1 133 28 (h1 76 1)) 133 29 (h1 76 2)) 133 30 0 := ⟨_, rfl⟩
      have E2 : ∀ o k, ¬ (o = 133 ∧ 28 ≤ k ∧ k ≤ 30) → g2 o k = g1 o k := fun o k q => by
        rw [hg2]
        unfold mm_up
        rw [if_neg (by omega), if_neg (by omega), if_neg (by omega)]
      have v0 : 0 ≤ h 135 4 ∧ 1 ≤ h 135 4 := by
        have := th 0 (by decide) (by omega)
        omega
      have m0 := hI.W.2.2.2.2.2.2.2.2.2 0 (by decide) (by omega)
      have f0 := f_mx_le c (e := h 135 (43 + 0)) (by omega)
      have st : sp_it (f_nt (h 135) c) (h 135 4).toNat 0 (-1, 257) = sp_it (f_nt (h 135) c) (h 135 4 - 1).toNat 1 (0, f_mx c (h 135 (43 + 0))) := by
        have e9 : f_nt (h 135) c 0 (-1, 257) = (0, f_mx c (h 135 (43 + 0))) := by
          unfold f_nt
          rw [if_pos (by dsimp only; omega)]
        rw [show (h 135 4).toNat = (h 135 4 - 1).toNat + 1 by omega]
        show sp_it (f_nt (h 135) c) (h 135 4 - 1).toNat (0 + 1) (f_nt (h 135) c 0 (-1, 257)) = _
        rw [e9]
        rfl
      obtain ⟨s3, p3, D3, x3, y3, z3⟩ := sp_it_rel (R := fun i q => mm_R mm_prog (d + 99) T_X12_stood 140 [(21, 133), (0, L), (0, f_ct c 256), (0, i)] [] q) (f := f_nt (h 135) c) (I := fun i q x => dif (fun o k => o = 146 ∨ (o = 133 ∧ k = 30)) g2 q ∧ q 133 30 = x.1 ∧ (0 ≤ x.1 ∧ x.1 < i) ∧ x.2 = f_mx c (h 135 (43 + x.1))) (N := h 135 4) (fun i q x i0 i1 hJ => by
        obtain ⟨qD, q30, xb, x2⟩ := hJ
        have qD' : ∀ o k, ¬ (o = 146 ∨ (o = 133 ∧ k = 30)) → q o k = g2 o k := qD
        have rq : q 135 = h 135 := by
          rw [← r0]
          exact funext fun k => ((qD' 135 k (by omega)).trans (E2 135 k (by omega))).trans (G1' 135 k (by omega))
        have Nq : EN c q 256 := fun m m0 m1 mc => by
          rw [qD' 145 _ (by omega), E2 145 _ (by omega)]
          exact N1 m m0 m1 mc
        obtain ⟨q1, e1, d1⟩ := rf_leftBy rq hI.W Nq i0 i1 (d + 98)
        have d1' : ∀ o k, ¬ o = 146 → q1 o k = q o k := d1
        obtain ⟨q2, e2, d2⟩ := rf_leftBy (s := q1) (c := c) (by rw [← rq]; exact funext fun k => d1' 135 k (by omega)) hI.W (fun m m0 m1 mc => by rw [d1' 145 _ (by omega)]; exact Nq m m0 m1 mc) xb.1 (by omega) (d + 98)
        have d2' : ∀ o k, ¬ o = 146 → q2 o k = q1 o k := d2
        have e30 : q1 133 30 = x.1 := (d1' 133 30 (by omega)).trans q30
        have e4 : q 135 4 = h 135 4 := by rw [rq]
        have dd : dif (fun o k => o = 146 ∨ (o = 133 ∧ k = 30)) g2 q2 := (qD.tr d1 (fun _ _ w => w) (fun o k (w : o = 146) => Or.inl w)).tr d2 (fun _ _ w => w) (fun o k (w : o = 146) => Or.inl w)
        rw [e_X12_stood_140, r135, e4, if_pos i1, e1, Option.bind_some]
        dsimp only
        rw [e30, e2, Option.bind_some, pu_w (by omega) (by omega)]
        dsimp only
        unfold f_nt
        rw [x2]
        by_cases w : f_mx c (h 135 (43 + i)) < f_mx c (h 135 (43 + x.1))
        · rw [if_pos w, if_pos w]
          exact ⟨mm_up q2 133 30 i, rfl, dd.up (Or.inr ⟨rfl, rfl⟩), pu_eq _ _ _ _, by dsimp only; omega, rfl⟩
        · rw [if_neg w, if_neg w]
          exact ⟨q2, rfl, dd, (d2' 133 30 (by omega)).trans e30, by omega, x2⟩) (h 135 4 - 1).toNat 1 g2 (0, f_mx c (h 135 (43 + 0))) (by decide) (by omega) ⟨dif.rf _ g2, by rw [hg2, pu_eq], by dsimp only; omega, rfl⟩
      rw [← st] at x3
      have D3' : ∀ o k, ¬ (o = 146 ∨ (o = 133 ∧ k = 30)) → s3 o k = g2 o k := D3
      have e34 : s3 135 4 = h 135 4 := by
        rw [D3' 135 4 (by omega), E2 135 4 (by omega), G1' 135 4 (by omega), r0]
      refine ⟨f_ct c 256, mm_up h1 1 1 0, s3, cls, ?_, ?_⟩
      · rw [rfs, e_X12_stood_70, if_neg (by decide), if_neg (by omega), pu_w (x := f_ct c 256 - 1) (by omega) (by omega), if_pos (by omega), show (133 : Int) + 12 = 145 from rfl, pu_ob (o' := 145) (by decide), s0, s9, ← hg2, p3, e_X12_stood_140, r135, if_neg (by rw [e34]; omega)]
      · have c76 : ∀ k, s3 76 k = h1 76 k := fun k => by
          rw [D3' 76 k (by omega), E2 76 k (by omega), G1' 76 k (by omega), E0 76 k (by omega)]
        refine hI.sd (fun o k q => ?_) ⟨?_, ?_, ?_⟩ ?_ ?_
        · unfold q_sd at q
          rw [D3' o k (by omega), E2 o k (by omega), G1' o k (by omega), E0 o k (by omega), D1' o k (by omega)]
        · rw [c76, D3' 133 28 (by omega), hg2, pu_sl (by decide), pu_sl (by decide), pu_eq]
        · rw [c76, D3' 133 29 (by omega), hg2, pu_sl (by decide), pu_eq]
        · rw [c76, nx, x3]
        · rw [D3' 1 1 (by omega), E2 1 1 (by omega), G1' 1 1 (by omega), hg0, pu_ob (by decide), pu_ob (by decide), pu_eq]
        · rw [D3' 133 2 (by omega), E2 133 2 (by omega), G1' 133 2 (by omega), hg0, pu_eq]
    · have z0 : f_ct c 256 = 0 := by omega
      have A := A1 z0
      refine ⟨f_ct c 256, mm_up h1 1 1 0, g1, cls, ?_, ?_⟩
      · rw [rfs, e_X12_stood_70, if_neg (by decide), if_pos z0, z0]
      · have c76 : ∀ k, g1 76 k = h 76 k := fun k => by
          rw [G1' 76 k (by omega), E0 76 k (by omega), A k]
        have c13 : ∀ k, 28 ≤ k → g1 133 k = h 133 k := fun k hk => by
          rw [G1' 133 k (by omega), E0 133 k (by omega), D1' 133 k (by omega)]
        refine hI.sd (fun o k q => ?_) ⟨?_, ?_, ?_⟩ ?_ ?_
        · unfold q_sd at q
          rw [G1' o k (by omega), E0 o k (by omega), D1' o k (by omega)]
        · rw [c76, c13 28 (by decide)]; exact cu.1
        · rw [c76, c13 29 (by decide)]; exact cu.2.1
        · rw [c76, c13 30 (by decide)]; exact cu.2.2
        · rw [G1' 1 1 (by omega), hg0, pu_ob (by decide), pu_ob (by decide), pu_eq]
        · rw [G1' 133 2 (by omega), hg0, pu_eq]
  · obtain ⟨g0, hg0⟩ : ∃ g0, g0 = mm_up (mm_up (mm_up h 1 1 0) 133 0 0) 133 2 0 := ⟨_, rfl⟩
    have E0 : ∀ o k, ¬ ((o = 1 ∧ k = 1) ∨ (o = 133 ∧ (k = 0 ∨ k = 2))) → g0 o k = h o k := fun o k q => by
      rw [hg0]
      unfold mm_up
      rw [if_neg (by omega), if_neg (by omega), if_neg (by omega)]
    refine ⟨-1, mm_up h 1 1 0, g0, ?_, ?_, ?_⟩
    · rw [e_X11_stood]
      simp only [n15, show (0 : Int) + 76 = 76 from rfl, show (0 : Int) + 1 = 1 from rfl]
      have cp := cl_pairs hT hI.P hL.symm (d + 96)
      have eb : (decide (2 ≤ L ∧ L ≤ 16 ∧ L % 2 = 0) && !sp_any (f_nth (h 135) (h 134)) (L / 2)) = false := by
        by_cases q : 2 ≤ L ∧ L ≤ 16 ∧ L % 2 = 0
        · rw [decide_eq_true q, Bool.true_and]
          cases e : sp_any (f_nth (h 135) (h 134)) (L / 2) with
          | true => rfl
          | false => exact absurd ⟨q, e⟩ ok
        · rw [decide_eq_false q, Bool.false_and]
      rw [eb] at cp
      rw [e_X1_judge, cp, Option.bind_some]
      rfl
    · rw [e_X12_stood, e_X12_take, Option.bind_some]
      have eL : mm_up (mm_up h 1 1 0) 133 0 0 133 2 = L := by
        rw [pu_sl (by decide), pu_ob (by decide)]
        exact t1.symm
      rw [eL, ← hg0]
      dsimp only
      rw [if_neg (by decide), pu_rem (by omega) (by omega) (by decide) (by decide)]
      by_cases q1 : L % 2 = 0
      · rw [if_pos q1, if_neg (by decide), pu_div (by omega) (by omega) (by decide) (by decide), rf_isIn, Option.bind_some]
        by_cases q2 : 1 ≤ L / 2 ∧ L / 2 ≤ 8
        · rw [decide_eq_true q2]
          show (if (1 : Int) = 0 then _ else _) = _
          rw [if_neg (by decide)]
          dsimp only
          have r0 : g0 135 = h 135 := funext fun k => E0 135 k (by omega)
          have r4 : g0 134 = h 134 := funext fun k => E0 134 k (by omega)
          have fr := sp_find_run (R := fun i => mm_R mm_prog (d + 99) T_X12_stood 32 [(21, 133), (0, L), (0, 2 * i), (9, 0)] [] g0) (r := fun _ => some (-1, g0)) (c := f_nth (h 135) (h 134)) (N := L / 2) (fun i i0 i1 => by
            have tt := (hT.2.2 (2 * i) (by omega) (by omega)).1
            rw [e_X12_stood_32, if_pos (by omega), if_pos (by omega), r135, show (133 : Int) + 1 = 134 from rfl, r0, r4, pu_w (x := h 135 4 - 1) (by omega) (by omega), rf_isIn, Option.bind_some, pu_w (by omega) (by omega), show 2 * i + 2 = 2 * (i + 1) by omega]
            unfold f_nth
            by_cases z : 0 ≤ h 134 (2 * i) ∧ h 134 (2 * i) < h 135 4
            · rw [decide_eq_true z, decide_eq_true (by omega)]; rfl
            · rw [decide_eq_false z, decide_eq_false (by omega)]; rfl) (L / 2).toNat 0 (by decide) (by omega)
          have e0 : mm_R mm_prog (d + 99) T_X12_stood 32 [(21, 133), (0, L), (0, 0), (9, 0)] [] g0 = mm_R mm_prog (d + 99) T_X12_stood 32 [(21, 133), (0, L), (0, 2 * 0), (9, 0)] [] g0 := rfl
          rw [e0, fr]
          cases e : sp_find (f_nth (h 135) (h 134)) (L / 2).toNat 0 with
          | some j => rfl
          | none =>
            exfalso
            exact ok ⟨by omega, by unfold sp_any; rw [e]; rfl⟩
        · rw [decide_eq_false q2]; rfl
      · rw [if_neg q1]
    · refine hI.sd (fun o k q => ?_) ⟨?_, ?_, ?_⟩ ?_ ?_
      · unfold q_sd at q
        exact E0 o k (by omega)
      · rw [E0 76 1 (by omega), E0 133 28 (by omega)]; exact cu.1
      · rw [E0 76 2 (by omega), E0 133 29 (by omega)]; exact cu.2.1
      · rw [E0 76 3 (by omega), E0 133 30 (by omega)]; exact cu.2.2
      · rw [hg0, pu_ob (by decide), pu_ob (by decide), pu_eq]
      · rw [hg0, pu_eq]
