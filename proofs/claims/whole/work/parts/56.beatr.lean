section PR
variable {V : Int → Int} {h : mm_H}
/-- the places at which one walks, as a set -/
def whI (V0 : Int → Int) (i : Int) (x : Int → Int) (wh : Int) : Prop := (0 ≤ wh ∧ wh < 2 ^ 12) ∧ ∀ k, 0 ≤ k → (pu_bt wh k ↔ ∃ p, 0 ≤ p ∧ p < i ∧ f_out V0 p = false ∧ x (54 + p) = k)
theorem rf_beat (hW : pr_W V) (hS : pr_S V) (hs : ∀ p, 0 ≤ p → p < V 2 → V (61 + p) ≤ 3 * V 52) (d : Nat) : mm_M mm_prog (d + 3) 222 [(21, 133)] (vs h V) = some (0, vs h (f_beat V)) := by
  have w0 := hW.1
  have w1 := hW.2.1
  have w2 := hW.2.2.1
  have w3 := hW.2.2.2.1
  have so := (sp_open_ok hW).1
  obtain ⟨mW, mS⟩ := f_mvs_S hW hS hs
  have mI := f_mvs_I hW hS
  rw [e_X12_beat, rf_open1 hW d, Option.bind_some]
  obtain ⟨⟨h1, wh⟩, r1, ⟨E1, -, wI⟩⟩ := sp_it_rel (R := fun i (s : mm_H × Int) => mm_R mm_prog (d + 2) T_X12_beat 9 [(21, 133), (0, sp_open V), (0, s.2), (0, i)] [] s.1) (f := f_mv) (I := fun i s x => s.1 = vs h x ∧ mvI V i x ∧ whI V i x s.2) (N := V 2) (fun i s x i0 i1 hI => by
    obtain ⟨s1, wh⟩ := s
    obtain ⟨rfl, sI, sw⟩ := hI
    have xW := sI.W hW
    have xS := sI.S hW hS hs
    have x2 : x 2 = V 2 := sI.1 2 (by omega)
    have bx := xS.2.2.2.2.2.2.1 i i0 (by omega)
    have b52 := xS.2.2.2.2.1
    have bw := xW.2.2.2.2.2.2.1 i i0 (by omega)
    have x0 := xW.1
    dsimp only at sw ⊢
    rw [e_X12_beat_9, r135, vs_at, x2, if_pos i1, rf_isOut xS i0 (by omega), Option.bind_some, pu_w (x := i + 1) (by omega) (by omega), pu_w (x := 54 + i) (by omega) (by omega), pu_w (x := 17 + i) (by omega) (by omega), pu_w (x := 61 + i) (by omega) (by omega)]
    unfold f_mv
    have st := sI.step hW hS i0 i1
    unfold f_mv at st
    have eo : f_out x i = f_out V i := sI.out
    cases w : f_out x i with
    | true =>
      rw [w, cond_true] at st
      refine ⟨(vs h x, wh), rfl, rfl, st, sw.1, fun k hk => ?_⟩
      rw [sw.2 k hk]
      constructor
      · rintro ⟨p, p0, p1, p2, p3⟩
        exact ⟨p, p0, by omega, p2, p3⟩
      · rintro ⟨p, p0, p1, p2, p3⟩
        have : p ≠ i := fun e => by rw [e, ← eo, w] at p2; cases p2
        exact ⟨p, p0, by omega, p2, p3⟩
    | false =>
      rw [w, cond_false] at st
      have n0 : 0 ≤ (x (54 + i) + x (17 + i)) % x 0 := Int.emod_nonneg _ (by omega)
      have n1 : (x (54 + i) + x (17 + i)) % x 0 < x 0 := Int.emod_lt_of_pos _ (by omega)
      obtain ⟨q1, q2⟩ := pu_ins (x := wh) (j := (x (54 + i) + x (17 + i)) % x 0) (n := 12) sw.1.1 sw.1.2 (by decide) n0 (by omega)
      refine ⟨(vs h (vu (vu x (54 + i) ((x (54 + i) + x (17 + i)) % x 0)) (61 + i) (x (61 + i) + x (17 + i))), mm_or wh (mm_shl 1 ((x (54 + i) + x (17 + i)) % x 0))), ?_, rfl, st, q1, fun k hk => ?_⟩
      · show (if (0 : Int) = 0 then _ else _) = _
        dsimp only
        rw [if_pos rfl, if_pos (by omega), if_pos (by omega), if_neg (by rw [vs_at]; omega), if_pos (by omega), if_pos (by omega), if_pos (by omega), if_pos (by omega), if_pos (by omega)]
        simp only [vs_at, vs_up]
        rw [pu_w (x := x (54 + i) + x (17 + i)) (by omega) (by omega), pu_rem (by omega) (by omega) (by omega) (by omega), vu_ne (j := 61 + i) (by omega), vu_ne (j := 17 + i) (by omega), pu_w (x := x (61 + i) + x (17 + i)) (by omega) (by omega), vu_ne (j := 54 + i) (by omega), vu_eq]
      · rw [q2 k hk, sw.2 k hk]
        constructor
        · rintro (⟨p, p0, p1, p2, p3⟩ | e)
          · exact ⟨p, p0, by omega, p2, by rw [cond_false, vu_ne (by omega), vu_ne (by omega)]; exact p3⟩
          · exact ⟨i, i0, by omega, by rw [← eo]; exact w, by rw [cond_false, vu_ne (by omega), vu_eq]; exact e.symm⟩
        · rintro ⟨p, p0, p1, p2, p3⟩
          rw [cond_false, vu_ne (by omega)] at p3
          by_cases e : p = i
          · rw [e, vu_eq] at p3
            exact Or.inr p3.symm
          · rw [vu_ne (by omega)] at p3
            exact Or.inl ⟨p, p0, by omega, p2, p3⟩) (V 2).toNat 0 (vs h V, 0) V (by omega) (by omega) ⟨rfl, ⟨fun _ _ => rfl, fun _ _ _ => ⟨rfl, rfl⟩, fun p h0 h1 => by omega⟩, ⟨Int.le_refl 0, by show (0 : Int) < 2 ^ 12; decide⟩, fun k hk => ⟨fun q => absurd q (pu_bt0 k), fun ⟨p, p0, p1, _⟩ => by omega⟩⟩
  dsimp only at r1 E1 wI ⊢
  rw [r1, E1]
  change whI V (V 2) (f_mvs V) wh at wI
  change mm_R mm_prog (d + 2) T_X12_beat 9 _ [] (vs h (f_mvs V)) = _
  have e3 : f_mvs V 3 = V 3 := mI.1 3 (by omega)
  have e2 : f_mvs V 2 = V 2 := mI.1 2 (by omega)
  rw [e_X12_beat_9, r135, vs_at, e2, if_neg (by omega)]
  have onz : ∀ w, 0 ≤ w → w < f_mvs V 3 → f_bit (sp_open V) w = true → f_mvs V (68 + w) ≠ 0 := fun w g0 g1 g2 => by
    rw [mI.1 _ (by omega)]
    exact f_open_nz hW g0 g2
  have wk : ∀ k, 0 ≤ k → f_bit wh k = f_walk (f_mvs V) k := by
    intro k hk
    rw [Bool.eq_iff_iff, f_bit_iff, wI.2 k hk]
    unfold f_walk
    rw [sp_any_iff, e2]
    constructor
    · rintro ⟨p, p0, p1, p2, p3⟩
      exact ⟨p, p0, p1, by rw [mI.out, p2, decide_eq_true p3]; rfl⟩
    · rintro ⟨p, p0, p1, p2⟩
      rw [Bool.and_eq_true, mI.out] at p2
      exact ⟨p, p0, p1, by simpa using p2.1, of_decide_eq_true p2.2⟩
  obtain ⟨h2, r2, ⟨E2, I2⟩⟩ := sp_it_rel (R := fun i s => mm_R mm_prog (d + 2) T_X12_beat 108 [(21, 133), (0, sp_open V), (0, wh), (0, i)] [] s) (f := f_wk (sp_open V)) (I := fun i s x => s = vs h x ∧ wkI (f_mvs V) i x) (N := V 3) (fun i s x i0 i1 hI => by
    obtain ⟨rfl, sI⟩ := hI
    have xW := sI.W mW
    have xS := sI.S mW mS
    have x3 : x 3 = V 3 := (sI.1 3 (by omega)).trans e3
    have bx := xS.2.2.2.2.2.2.2 i i0 (by omega)
    have bp := xW.2.2.2.2.2.2.2.2.1 i i0 (by omega)
    have x0 := xW.1
    rw [e_X12_beat_108, r135, vs_at, x3, if_pos i1, rf_hasb (by omega) (by omega) i0 (by omega), Option.bind_some, pu_w (x := i + 1) (by omega) (by omega), pu_w (x := 25 + i) (by omega) (by omega), pu_w (x := 68 + i) (by omega) (by omega)]
    have st := sI.step mW mS onz i0 (by omega)
    unfold f_wk at st ⊢
    cases w : f_bit (sp_open V) i with
    | false =>
      rw [w, Bool.false_and, cond_false] at st
      exact ⟨_, rfl, rfl, st⟩
    | true =>
      rw [w, Bool.true_and] at st
      rw [Bool.true_and]
      show ∃ s', (if (1 : Int) = 0 then _ else _) = _ ∧ _
      dsimp only
      rw [if_neg (by decide), if_pos (by omega), vs_at, rf_hasb wI.1.1 (by have := wI.1.2; omega) (by omega) (by omega), Option.bind_some, wk _ (by omega), ← sI.walk mW]
      cases w2 : f_walk x (x (25 + i)) with
      | false =>
        rw [w2, cond_false] at st
        exact ⟨_, rfl, rfl, st⟩
      | true =>
        rw [w2, cond_true] at st
        refine ⟨vs h (vu x (68 + i) (x (68 + i) - 1)), ?_, rfl, st⟩
        show (if (1 : Int) = 0 then _ else _) = _
        dsimp only
        rw [if_neg (by decide), if_pos (by omega), if_pos (by omega), vs_at, vs_up, pu_w (by omega) (by omega)]) (V 3).toNat 0 (vs h (f_mvs V)) (f_mvs V) (by omega) (by omega) ⟨rfl, fun _ _ => rfl, fun _ _ _ => rfl, fun p h0 h1 => by omega⟩
  rw [r2, E2]
  have xS := I2.S mW mS
  have xW := I2.W mW
  have e3b := (I2.1 3 (by omega)).trans e3
  have b52 := xS.2.2.2.2.1
  have b49 := xS.2.1
  have w1b := xW.2.1
  unfold f_beat
  generalize sp_it (f_wk (sp_open V)) (V 3).toNat 0 (f_mvs V) = x at *
  rw [e_X12_beat_108, r135]
  simp only [vs_at, vs_up]
  rw [e3b, if_neg (by omega), pu_w (x := 5 + x 49) (by omega) (by omega), if_pos (by omega), vu_ne (by omega), pu_w (by omega) (by omega)]
end PR
