/-! A beat, by class and by reference -/
theorem vu_comm (V : Int → Int) {a b x y : Int} (hn : a ≠ b) : vu (vu V a x) b y = vu (vu V b y) a x := by
  funext j
  unfold vu
  by_cases e : j = a
  · rw [if_pos e, if_pos e, if_neg (by omega)]
  · rw [if_neg e, if_neg e]
theorem pr_P.cg {pl : Int} {h : mm_H} {V x : Int → Int} (hP : pr_P h pl V) (hW : pr_W V) (e : ∀ j, j < 48 → x j = V j) : pr_P h pl x := by
  obtain ⟨a, b, c, d, f, g, i⟩ := hP
  have w1 := hW.2.1
  have w2 := hW.2.2.1
  have w3 := hW.2.2.2.1
  have w4 := hW.2.2.2.2.1
  refine ⟨by rw [e _ (by omega)]; exact a, by rw [e _ (by omega)]; exact b, fun s h0 h1 => by rw [e _ (by omega)]; exact c s h0 h1, fun s h0 h1 => ?_, fun s h0 h1 => ?_, fun s h0 h1 => ?_, fun s h0 h1 => ?_⟩
  · rw [e 1 (by omega)] at h1
    rw [e _ (by omega)]; exact d s h0 h1
  · rw [e 2 (by omega)] at h1
    rw [e _ (by omega), e _ (by omega)]; exact f s h0 h1
  · rw [e 3 (by omega)] at h1
    rw [e _ (by omega), e _ (by omega), e _ (by omega)]; exact g s h0 h1
  · rw [e 4 (by omega)] at h1
    rw [e _ (by omega)]; exact i s h0 h1
section PC
variable {V : Int → Int} {h : mm_H} {m pl : Int}
theorem cl_beat (hP : pr_P h pl V) (hM : pr_M h m V) (hW : pr_W V) (hS : pr_S V) (hs : ∀ p, 0 ≤ p → p < V 2 → V (61 + p) ≤ 3 * V 52) (hd : pl + 9 < m ∨ m + 3 < pl) (d : Nat) : ∃ h', mm_M mm_prog (d + 3) 35 [(12, m), (14, pl)] h = some (0, h') ∧ pr_M h' m (f_beat V) ∧ fr m h h' := by
  have w0 := hW.1
  have w1 := hW.2.1
  have w2 := hW.2.2.1
  have w3 := hW.2.2.2.1
  have so := (sp_open_ok hW).1
  obtain ⟨mW, mS⟩ := f_mvs_S hW hS hs
  have mI := f_mvs_I hW hS
  rw [e_X2_beat, cl_open hP hM hW hS d, Option.bind_some]
  obtain ⟨h1, r1, ⟨M1, F1, -⟩⟩ := sp_it_rel (R := fun i s => mm_R mm_prog (d + 2) T_X2_beat 8 [(12, m), (14, pl), (0, sp_open V), (0, i)] [] s) (f := f_mv) (I := fun i s x => pr_M s m x ∧ fr m h s ∧ mvI V i x) (N := V 2) (fun i s x i0 i1 hI => by
    obtain ⟨sM, sF, sI⟩ := hI
    have xW := sI.W hW
    have xS := sI.S hW hS hs
    have P1 := (hP.fr sF hd).cg hW (x := x) (fun j hj => sI.1 j (by omega))
    have e2 : s (pl + 1) 1 = V 2 := (P1.2.2.1 1 (by decide) (by decide)).trans (sI.1 2 (by omega))
    have x2 : x 2 = V 2 := sI.1 2 (by omega)
    have ep := sM.2.2.2.2.2.2.1 i i0 (by omega)
    have eq := P1.2.2.2.2.1 i i0 (by omega)
    have bx := xS.2.2.2.2.2.2.1 i i0 (by omega)
    have b52 := xS.2.2.2.2.1
    have bw := xW.2.2.2.2.2.2.1 i i0 (by omega)
    have x0 := xW.1
    rw [e_X2_beat_8, e2, if_pos i1, cl_isOut sM xS i0 (by omega), Option.bind_some, pu_w (x := i + 1) (by omega) (by omega)]
    unfold f_mv
    have st := sI.step hW hS i0 i1
    unfold f_mv at st
    cases w : f_out x i with
    | true =>
      rw [w, cond_true] at st
      exact ⟨s, rfl, sM, sF, st⟩
    | false =>
      rw [w, cond_false] at st
      refine ⟨mm_up (mm_up s (m + 1) i ((x (54 + i) + x (17 + i)) % x 0)) (m + 2) i (x (61 + i) + x (17 + i)), ?_, ?_, (sF.up (by omega)).up (by omega), st⟩
      · show (if (0 : Int) = 0 then _ else _) = _
        dsimp only
        rw [if_pos rfl, if_pos (by omega), if_pos (by omega), ep.1, eq.2, cl_placeOn P1 xW (by omega) (by omega), Option.bind_some]
        dsimp only
        rw [if_pos (by omega), if_pos (by omega), if_pos (by omega), if_pos (by omega), pu_ob (o' := m + 2) (by omega), pu_ob (o' := pl + 5) (by omega), ep.2, eq.2, pu_w (by omega) (by omega)]
      · rw [cond_false]
        exact (sM.up xW (by omega)).us (xW.v1 (by omega)) (by omega)) (V 2).toNat 0 h V (by omega) (by omega) ⟨hM, fr_rf m h, fun _ _ => rfl, fun _ _ _ => ⟨rfl, rfl⟩, fun p h0 h1 => by omega⟩
  dsimp only
  rw [r1]
  change pr_M h1 m (f_mvs V) at M1
  have e3 : f_mvs V 3 = V 3 := mI.1 3 (by omega)
  have P1 := (hP.fr F1 hd).cg hW (x := f_mvs V) (fun j hj => mI.1 j (by omega))
  have e2 : h1 (pl + 1) 1 = V 2 := (P1.2.2.1 1 (by decide) (by decide)).trans (mI.1 2 (by omega))
  rw [e_X2_beat_8, e2, if_neg (by omega)]
  have onz : ∀ w, 0 ≤ w → w < f_mvs V 3 → f_bit (sp_open V) w = true → f_mvs V (68 + w) ≠ 0 := fun w g0 g1 g2 => by
    rw [mI.1 _ (by omega)]
    exact f_open_nz hW g0 g2
  obtain ⟨h2, r2, ⟨M2, F2, I2⟩⟩ := sp_it_rel (R := fun i s => mm_R mm_prog (d + 2) T_X2_beat 71 [(12, m), (14, pl), (0, sp_open V), (0, i)] [] s) (f := f_wk (sp_open V)) (I := fun i s x => pr_M s m x ∧ fr m h s ∧ wkI (f_mvs V) i x) (N := V 3) (fun i s x i0 i1 hI => by
    obtain ⟨sM, sF, sI⟩ := hI
    have xW := sI.W mW
    have xS := sI.S mW mS
    have P2 := (hP.fr sF hd).cg hW (x := x) (fun j hj => (sI.1 j (by omega)).trans (mI.1 j (by omega)))
    have x3 : x 3 = V 3 := (sI.1 3 (by omega)).trans e3
    have e2 : s (pl + 1) 2 = V 3 := (P2.2.2.1 2 (by decide) (by decide)).trans x3
    have ep := sM.2.2.2.2.2.2.2 i i0 (by omega)
    have eq := P2.2.2.2.2.2.1 i i0 (by omega)
    have bx := xS.2.2.2.2.2.2.2 i i0 (by omega)
    rw [e_X2_beat_71, e2, if_pos i1, cl_hasBit (by omega) (by omega) i0 (by omega), Option.bind_some, pu_w (x := i + 1) (by omega) (by omega)]
    have st := sI.step mW mS onz i0 (by omega)
    unfold f_wk at st ⊢
    cases w : f_bit (sp_open V) i with
    | false =>
      rw [w, Bool.false_and, cond_false] at st
      exact ⟨s, rfl, sM, sF, st⟩
    | true =>
      rw [w, Bool.true_and] at st
      rw [Bool.true_and]
      show ∃ s', (if (1 : Int) = 0 then _ else _) = _ ∧ _
      dsimp only
      rw [if_neg (by decide), if_pos (by omega), eq.1, cl_walk P2 sM xW xS, Option.bind_some]
      cases w2 : f_walk x (x (25 + i)) with
      | false =>
        rw [w2, cond_false] at st
        exact ⟨s, rfl, sM, sF, st⟩
      | true =>
        rw [w2, cond_true] at st
        refine ⟨mm_up s (m + 3) i (x (68 + i) - 1), ?_, ?_, sF.up (by omega), st⟩
        · show (if (1 : Int) = 0 then _ else _) = _
          dsimp only
          rw [if_neg (by decide), if_pos (by omega), if_pos (by omega), ep, pu_w (by omega) (by omega)]
        · rw [cond_true]
          exact sM.ul xW (by omega)) (V 3).toNat 0 h1 (f_mvs V) (by omega) (by omega) ⟨M1, F1, fun _ _ => rfl, fun _ _ _ => rfl, fun p h0 h1 => by omega⟩
  rw [r2]
  have xW := I2.W mW
  have xS := I2.S mW mS
  have P2 := (hP.fr F2 hd).cg hW (x := sp_it (f_wk (sp_open V)) (V 3).toNat 0 (f_mvs V)) (fun j hj => (I2.1 j (by omega)).trans (mI.1 j (by omega)))
  have e3b : h2 (pl + 1) 2 = V 3 := (P2.2.2.1 2 (by decide) (by decide)).trans ((I2.1 3 (by omega)).trans e3)
  have b52 := xS.2.2.2.2.1
  have b49 := xS.2.1
  unfold f_beat
  generalize sp_it (f_wk (sp_open V)) (V 3).toNat 0 (f_mvs V) = x at *
  rw [e_X2_beat_71, e3b, if_neg (by omega), M2.2.2.2.2.1, pu_sl (k' := 1) (by omega), M2.2.1, pu_w (by omega) (by omega)]
  have M3 := M2.u4 (v := x 52 + 1)
  have F3 := F2.up (k := 4) (v := x 52 + 1) (o := m) (by omega)
  have P3 := ((hP.fr F3 hd).cg hW (x := x) (fun j hj => (I2.1 j (by omega)).trans (mI.1 j (by omega))))
  rw [cl_gapOf P3 xW, Option.bind_some]
  dsimp only
  rw [if_pos (by omega), vu_comm _ (by decide)]
  exact ⟨_, rfl, M3.u2, F3.up (by omega)⟩
end PC
