/-! Copies, trials -/
theorem cp_ob {h : mm_H} {a i b j n o k : Int} (hn : o ≠ b) : mm_cp h a i b j n o k = h o k := if_neg (fun q => hn q.1)
theorem cp_in {h : mm_H} {a b n k : Int} (h0 : 0 ≤ k) (h1 : k < n) : mm_cp h a 0 b 0 n b k = h a k := by
  unfold mm_cp
  rw [if_pos ⟨rfl, by omega, by omega⟩]
  congr 1
  omega
section
variable {V : Int → Int} {h : mm_H}
theorem cl_copyM {a b : Int} (hM : pr_M h b V) (hW : pr_W V) (hS : pr_S V) (hj : a + 3 < b ∨ b + 3 < a) (d : Nat) : ∃ h', mm_M mm_prog (d + 1) 16 [(12, a), (12, b)] h = some (0, h') ∧ pr_M h' a V ∧ fr a h h' := by
  have w2 := hW.2.2.1
  have w3 := hW.2.2.2.1
  obtain ⟨a0, a1, a2, a3, a4, a5, b1, c1⟩ := hM
  have b51 := hS.2.2.2.1
  rw [e_X2_copyFrom]
  simp (disch := omega) only [pu_ob (o' := b)]
  rw [a0, a1, a2, a3, a4, a5, if_pos b51]
  refine ⟨_, rfl, ⟨?_, ?_, ?_, ?_, ?_, ?_, fun p h0 h1 => ⟨?_, ?_⟩, fun p h0 h1 => ?_⟩, fun o ho k => ?_⟩
  · simp (disch := omega) only [cp_ob, pu_sl, pu_eq]
  · simp (disch := omega) only [cp_ob, pu_sl, pu_eq]
  · simp (disch := omega) only [cp_ob, pu_sl, pu_eq]
  · simp (disch := omega) only [cp_ob, pu_sl, pu_eq]
  · simp (disch := omega) only [cp_ob, pu_sl, pu_eq]
  · simp (disch := omega) only [pu_eq, cp_ob]
  · rw [cp_ob (by omega), cp_ob (by omega), cp_in h0 (by omega)]
    simp (disch := omega) only [pu_ob]
    exact (b1 p h0 h1).1
  · rw [cp_ob (by omega), cp_in h0 (by omega), cp_ob (by omega)]
    simp (disch := omega) only [pu_ob]
    exact (b1 p h0 h1).2
  · rw [cp_in h0 (by omega), cp_ob (by omega), cp_ob (by omega)]
    simp (disch := omega) only [pu_ob]
    exact c1 p h0 h1
  · simp (disch := omega) only [cp_ob, pu_ob]
end
theorem q_tr (a : Int) (ha : a = 68 ∨ a = 72) : (∀ o k, q_rest o k → ¬ (a ≤ o ∧ o ≤ a + 3)) ∧ (∀ o k, q_town o k → ¬ (a ≤ o ∧ o ≤ a + 3)) ∧ (∀ o k, q_past o k → ¬ (a ≤ o ∧ o ≤ a + 3)) := by
  refine ⟨fun o k q => ?_, fun o k q => ?_, fun o k q => ?_⟩
  · unfold q_rest q_img at q; omega
  · unfold q_town at q; omega
  · unfold q_past at q; omega
theorem Inv.tr {h h' : mm_H} {a : Int} (ha : a = 68 ∨ a = 72) (hI : Inv h) (hf : fr a h h') : Inv h' := hI.dif hf.dif (q_tr a ha).1 (q_tr a ha).2.1 (q_tr a ha).2.2
theorem q_as : (∀ o k, q_rest o k → ¬ (o = 139 ∨ (o = 133 ∧ (k = 0 ∨ k = 37)))) ∧ (∀ o k, q_town o k → ¬ (o = 139 ∨ (o = 133 ∧ (k = 0 ∨ k = 37)))) ∧ (∀ o k, q_past o k → ¬ (o = 139 ∨ (o = 133 ∧ (k = 0 ∨ k = 37)))) := by
  refine ⟨fun o k q => ?_, fun o k q => ?_, fun o k q => ?_⟩
  · unfold q_rest q_img at q; omega
  · unfold q_town at q; omega
  · unfold q_past at q; omega
/-- scratch of the reference -/
theorem Inv_as {h h' : mm_H} (hI : Inv h) (hf : dif (fun o k => o = 139 ∨ (o = 133 ∧ (k = 0 ∨ k = 37))) h h') : Inv h' := hI.dif hf q_as.1 q_as.2.1 q_as.2.2
theorem asd_dif (h : mm_H) (V : Int → Int) (n : Int) : dif (fun o k => o = 139 ∨ (o = 133 ∧ (k = 0 ∨ k = 37))) h (asd h V n) := fun o k hn => if_neg (fun q => hn (Or.inl q.1))
theorem fr_row {a : Int} {h h' : mm_H} (hf : fr a h h') (ha : a + 3 < 135) : h' 135 = h 135 := funext fun k => hf 135 (by omega) k
theorem vs_id {h : mm_H} {V : Int → Int} (e : h 135 = V) : vs h V = h := by
  rw [← e]
  exact vs_self h
theorem asd_vs {h : mm_H} {V : Int → Int} (e : h 135 = V) (n : Int) : vs (asd h V n) V = asd h V n := vs_id (by
  rw [← e]
  funext k
  exact if_neg (fun q => absurd q.1 (by decide)))
theorem th_row (h : mm_H) (v : Int) : mm_up h 133 0 v 135 = h 135 := funext fun k => pu_ob (by decide)
theorem k_meet (p q : Int) : Cal 121 228 [(0, p), (0, q)] := by
  intro d h hI
  have M := hI.M
  have P := hI.P
  have w0 := hI.W.1
  refine ⟨if 0 ≤ p ∧ p < h 135 2 then (if 0 ≤ q ∧ q < h 135 2 then (sp_find (fun k => decide (f_pb (h 135) p k = f_pb (h 135) q k)) (h 135 0).toNat 0).getD (-1) else -1) else -1, h, mm_up h 133 0 0, ?_, ?_, hI.th 0⟩
  · rw [e_X11_meet]
    simp only [n15, n25]
    rw [cl_has P (by decide) (by decide), Option.bind_some]
    simp only [Int.reduceAdd]
    by_cases c : 0 ≤ p ∧ p < h 135 2
    · rw [decide_eq_true c, if_pos c]
      show (if (1 : Int) = 0 then _ else _) = _
      rw [if_neg (by decide), cl_has P (by decide) (by decide), Option.bind_some]
      simp only [Int.reduceAdd]
      by_cases c2 : 0 ≤ q ∧ q < h 135 2
      · rw [decide_eq_true c2, if_pos c2]
        show (if (1 : Int) = 0 then _ else _) = _
        rw [if_neg (by decide)]
        have := sp_find_run (R := fun i => mm_R mm_prog (d + 99) T_X11_meet 34 [(20, 0), (0, p), (0, q), (0, i)] [] h) (r := fun i => some (i, h)) (c := fun k => decide (f_pb (h 135) p k = f_pb (h 135) q k)) (N := h 135 0) (fun i i0 i1 => by
          rw [e_X11_meet_34]
          simp only [n15, n25, P.1]
          rw [if_pos i1, cl_placeBehind P M hI.W hI.S c.1 c.2 (by omega), Option.bind_some, cl_placeBehind P M hI.W hI.S c2.1 c2.2 (by omega), Option.bind_some, pu_w (by omega) (by omega)]
          dsimp only
          by_cases z : f_pb (h 135) p i = f_pb (h 135) q i
          · rw [if_pos z, decide_eq_true z]; rfl
          · rw [if_neg z, decide_eq_false z]; rfl) (h 135 0).toNat 0 (by omega) (by omega)
        rw [this]
        cases sp_find (fun k => decide (f_pb (h 135) p k = f_pb (h 135) q k)) (h 135 0).toNat 0 with
        | some j => rfl
        | none =>
          dsimp only
          rw [e_X11_meet_34]
          simp only [n15, n25, P.1]
          rw [if_neg (by omega)]
          rfl
      · rw [decide_eq_false c2, if_neg c2]; rfl
    · rw [decide_eq_false c, if_neg c]; rfl
  · rw [e_X12_meet, rth h 0, rf_isPerson hI.W, Option.bind_some]
    dsimp only
    by_cases c : 0 ≤ p ∧ p < h 135 2
    · rw [decide_eq_true c, if_pos c]
      show (if (1 : Int) = 0 then _ else _) = _
      rw [if_neg (by decide), rf_isPerson hI.W, Option.bind_some]
      dsimp only
      by_cases c2 : 0 ≤ q ∧ q < h 135 2
      · rw [decide_eq_true c2, if_pos c2]
        show (if (1 : Int) = 0 then _ else _) = _
        rw [if_neg (by decide)]
        have := sp_find_run (R := fun i => mm_R mm_prog (d + 99) T_X12_meet 25 [(21, 133), (0, p), (0, q), (0, i)] [] (vs (mm_up h 133 0 0) (h 135))) (r := fun i => some (i, vs (mm_up h 133 0 0) (h 135))) (c := fun k => decide (f_pb (h 135) p k = f_pb (h 135) q k)) (N := h 135 0) (fun i i0 i1 => by
          rw [e_X12_meet_25, r135, vs_at, if_pos i1, rf_placeBehind hI.W hI.S c.1 c.2 (by omega), Option.bind_some, rf_placeBehind hI.W hI.S c2.1 c2.2 (by omega), Option.bind_some, pu_w (by omega) (by omega)]
          dsimp only
          by_cases z : f_pb (h 135) p i = f_pb (h 135) q i
          · rw [if_pos z, decide_eq_true z]; rfl
          · rw [if_neg z, decide_eq_false z]; rfl) (h 135 0).toNat 0 (by omega) (by omega)
        rw [this]
        cases sp_find (fun k => decide (f_pb (h 135) p k = f_pb (h 135) q k)) (h 135 0).toNat 0 with
        | some j => rfl
        | none =>
          dsimp only
          rw [e_X12_meet_25, r135, vs_at, if_neg (by omega)]
          rfl
      · rw [decide_eq_false c2, if_neg c2]; rfl
    · rw [decide_eq_false c, if_neg c]; rfl
theorem k_when (w : Int) : Cal 122 232 [(0, w)] := by
  intro d h hI
  have M := hI.M
  have P := hI.P
  have b48 := hI.S.1
  by_cases c : 0 ≤ w ∧ w < h 135 3
  · obtain ⟨h1, e1, M1, F1⟩ := cl_copyM (a := 72) (b := 25) M hI.W hI.S (by decide) (d + 98)
    have P1 := P.fr F1 (by decide)
    obtain ⟨h2, e2, F2⟩ := cl_tillDone P1 M1 hI.W hI.T c.1 c.2 (by decide) (d + 94)
    have I2 := (hI.tr (Or.inr rfl) F1).tr (Or.inr rfl) F2
    have er : h2 135 = h 135 := (fr_row F2 (by decide)).trans (fr_row F1 (by decide))
    refine ⟨(f_till (f_dn w) (600 - h 135 48).toNat (h 135) 0).getD (-1), h2, asd (mm_up h2 133 0 0) (h 135) 26, ?_, ?_, Inv_as I2 (((dif.rf _ h2).up (Or.inr ⟨rfl, Or.inl rfl⟩)).tr (asd_dif _ _ _) (fun _ _ q => q) (fun _ _ q => q))⟩
    · rw [e_X11_when]
      simp only [n15, n25]
      rw [cl_has P (by decide) (by decide), Option.bind_some]
      simp only [Int.reduceAdd]
      rw [decide_eq_true c]
      show (if (1 : Int) = 0 then _ else _) = _
      rw [if_neg (by decide), e1, Option.bind_some]
      dsimp only
      rw [e2, Option.bind_some]
    · rw [e_X12_when]
      conv => lhs; rw [rth h2 0, er]
      rw [rf_isWork hI.W, Option.bind_some]
      dsimp only
      rw [decide_eq_true c]
      show (if (1 : Int) = 0 then _ else _) = _
      rw [if_neg (by decide), r135, vs_at, rf_doneBy hI.W hI.T c.1 c.2 hI.S.2.1.1 hI.S.2.1.2, Option.bind_some]
      have eb : f_by (h 135) (h 135 49) = h 135 := if_pos rfl
      rw [eb, asd_vs (by rw [th_row, er])]
      dsimp only
      cases e : f_till (f_dn w) (600 - h 135 48).toNat (h 135) 0 with
      | none => rfl
      | some k =>
        have := f_till_ge e
        show (if k = 100000 then _ else _) = _
        rw [if_neg (by omega)]
        rfl
  · refine ⟨-1, h, mm_up h 133 0 0, ?_, ?_, hI.th 0⟩
    · rw [e_X11_when]
      simp only [n15, n25]
      rw [cl_has P (by decide) (by decide), Option.bind_some]
      simp only [Int.reduceAdd]
      rw [decide_eq_false c]; rfl
    · rw [e_X12_when, rth h 0, rf_isWork hI.W, Option.bind_some]
      dsimp only
      rw [decide_eq_false c]; rfl
