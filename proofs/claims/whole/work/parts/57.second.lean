/-! A second -/
section
variable {V : Int → Int}
theorem pr_S.v48 {v : Int} (hW : pr_W V) (hS : pr_S V) (hv : 0 ≤ v ∧ v ≤ 600) : pr_S (vu V 48 v) := by
  obtain ⟨a, b, c, d, f, g, k, l⟩ := hS
  have w2 := hW.2.2.1
  have w3 := hW.2.2.2.1
  have e : ∀ j, j ≠ 48 → vu V 48 v j = V j := fun j hj => vu_ne hj
  unfold pr_S
  rw [vu_eq, e 0 (by decide), e 1 (by decide), e 2 (by decide), e 3 (by decide), e 49 (by decide), e 50 (by decide), e 51 (by decide), e 52 (by decide), e 53 (by decide)]
  refine ⟨hv, b, c, d, f, g, fun p h0 h1 => ?_, fun p h0 h1 => ?_⟩
  · rw [e _ (by omega), e _ (by omega)]; exact k p h0 h1
  · rw [e _ (by omega)]; exact l p h0 h1
theorem pr_S.v49 {v : Int} (hW : pr_W V) (hS : pr_S V) (hv : 0 ≤ v ∧ v ≤ V 1) : pr_S (vu V 49 v) := by
  obtain ⟨a, b, c, d, f, g, k, l⟩ := hS
  have w2 := hW.2.2.1
  have w3 := hW.2.2.2.1
  have e : ∀ j, j ≠ 49 → vu V 49 v j = V j := fun j hj => vu_ne hj
  unfold pr_S
  rw [vu_eq, e 0 (by decide), e 1 (by decide), e 2 (by decide), e 3 (by decide), e 48 (by decide), e 50 (by decide), e 51 (by decide), e 52 (by decide), e 53 (by decide)]
  refine ⟨a, hv, c, d, f, g, fun p h0 h1 => ?_, fun p h0 h1 => ?_⟩
  · rw [e _ (by omega), e _ (by omega)]; exact k p h0 h1
  · rw [e _ (by omega)]; exact l p h0 h1
theorem pr_S.v50 {v : Int} (hW : pr_W V) (hS : pr_S V) (hv : 0 ≤ v ∧ v ≤ 99) : pr_S (vu V 50 v) := by
  obtain ⟨a, b, c, d, f, g, k, l⟩ := hS
  have w2 := hW.2.2.1
  have w3 := hW.2.2.2.1
  have e : ∀ j, j ≠ 50 → vu V 50 v j = V j := fun j hj => vu_ne hj
  unfold pr_S
  rw [vu_eq, e 0 (by decide), e 1 (by decide), e 2 (by decide), e 3 (by decide), e 48 (by decide), e 49 (by decide), e 51 (by decide), e 52 (by decide), e 53 (by decide)]
  refine ⟨a, b, hv, d, f, g, fun p h0 h1 => ?_, fun p h0 h1 => ?_⟩
  · rw [e _ (by omega), e _ (by omega)]; exact k p h0 h1
  · rw [e _ (by omega)]; exact l p h0 h1
theorem pr_S.v51 {v : Int} (hW : pr_W V) (hS : pr_S V) (hv : v = 0 ∨ v = 1) : pr_S (vu V 51 v) := by
  obtain ⟨a, b, c, d, f, g, k, l⟩ := hS
  have w2 := hW.2.2.1
  have w3 := hW.2.2.2.1
  have e : ∀ j, j ≠ 51 → vu V 51 v j = V j := fun j hj => vu_ne hj
  unfold pr_S
  rw [vu_eq, e 0 (by decide), e 1 (by decide), e 2 (by decide), e 3 (by decide), e 48 (by decide), e 49 (by decide), e 50 (by decide), e 52 (by decide), e 53 (by decide)]
  refine ⟨a, b, c, hv, f, g, fun p h0 h1 => ?_, fun p h0 h1 => ?_⟩
  · rw [e _ (by omega), e _ (by omega)]; exact k p h0 h1
  · rw [e _ (by omega)]; exact l p h0 h1
theorem pr_S.v52 {v : Int} (hW : pr_W V) (hS : pr_S V) (hv : 0 ≤ v ∧ v ≤ 601) (hv2 : V 52 ≤ v) : pr_S (vu V 52 v) := by
  obtain ⟨a, b, c, d, f, g, k, l⟩ := hS
  have w2 := hW.2.2.1
  have w3 := hW.2.2.2.1
  have e : ∀ j, j ≠ 52 → vu V 52 v j = V j := fun j hj => vu_ne hj
  unfold pr_S
  rw [vu_eq, e 0 (by decide), e 1 (by decide), e 2 (by decide), e 3 (by decide), e 48 (by decide), e 49 (by decide), e 50 (by decide), e 51 (by decide), e 53 (by decide)]
  refine ⟨a, b, c, d, hv, g, fun p h0 h1 => ?_, fun p h0 h1 => ?_⟩
  · rw [e _ (by omega), e _ (by omega)]; have := k p h0 h1; exact ⟨this.1, this.2.1, by omega⟩
  · rw [e _ (by omega)]; exact l p h0 h1
theorem pr_S.v53 {v : Int} (hW : pr_W V) (hS : pr_S V) (hv : 0 ≤ v ∧ v < 128) : pr_S (vu V 53 v) := by
  obtain ⟨a, b, c, d, f, g, k, l⟩ := hS
  have w2 := hW.2.2.1
  have w3 := hW.2.2.2.1
  have e : ∀ j, j ≠ 53 → vu V 53 v j = V j := fun j hj => vu_ne hj
  unfold pr_S
  rw [vu_eq, e 0 (by decide), e 1 (by decide), e 2 (by decide), e 3 (by decide), e 48 (by decide), e 49 (by decide), e 50 (by decide), e 51 (by decide), e 52 (by decide)]
  refine ⟨a, b, c, d, f, hv, fun p h0 h1 => ?_, fun p h0 h1 => ?_⟩
  · rw [e _ (by omega), e _ (by omega)]; exact k p h0 h1
  · rw [e _ (by omega)]; exact l p h0 h1
theorem f_beat_at (hW : pr_W V) (hS : pr_S V) (hs : ∀ p, 0 ≤ p → p < V 2 → V (61 + p) ≤ 3 * V 52) : (∀ j, (j < 50 ∨ j = 51 ∨ j = 53 ∨ 74 ≤ j) → f_beat V j = V j) ∧ f_beat V 52 = V 52 + 1 ∧ f_beat V 50 = V (5 + V 49) ∧ pr_W (f_beat V) ∧ (V 52 ≤ 600 → pr_S (f_beat V)) ∧ ∀ p, 0 ≤ p → p < V 2 → f_beat V (61 + p) ≤ 3 * f_beat V 52 := by
  have w1 := hW.2.1
  have w2 := hW.2.2.1
  have mI := f_mvs_I hW hS
  obtain ⟨mW, mS⟩ := f_mvs_S hW hS hs
  have I2 := f_wks_I hW hS hs
  have xW := I2.W mW
  have xS := I2.S mW mS
  have b49 := hS.2.1
  have lo : ∀ j, (j < 54 ∨ 74 ≤ j) → sp_it (f_wk (sp_open V)) (V 3).toNat 0 (f_mvs V) j = V j := fun j hj => (I2.1 j (by omega)).trans (mI.1 j (by omega))
  have st : ∀ p, 0 ≤ p → p < V 2 → sp_it (f_wk (sp_open V)) (V 3).toNat 0 (f_mvs V) (61 + p) ≤ 3 * V 52 + 3 := by
    intro p h0 h1
    rw [I2.1 (61 + p) (by omega)]
    have := (mI.2.2 p h0 h1 h1).2.2
    have := hs p h0 h1
    omega
  unfold f_beat
  generalize sp_it (f_wk (sp_open V)) (V 3).toNat 0 (f_mvs V) = x at *
  have e52 : x 52 = V 52 := lo 52 (by omega)
  have e49 : x 49 = V 49 := lo 49 (by omega)
  have eg : x (5 + x 49) = V (5 + V 49) := by rw [e49]; exact lo _ (by omega)
  have bg := hW.2.2.2.2.2.1 (V 49) b49.1 b49.2
  have f52 := hS.2.2.2.2.1
  dsimp only
  rw [eg, e52]
  refine ⟨fun j hj => ?_, by rw [vu_eq], by rw [vu_ne (by omega), vu_eq], (xW.v1 (by omega)).v1 (by omega), fun hb => ?_, fun p h0 h1 => ?_⟩
  · rw [vu_ne (by omega), vu_ne (by omega)]
    exact lo j (by omega)
  · refine pr_S.v52 (xW.v1 (by omega)) (pr_S.v50 xW xS (by omega)) (by omega) ?_
    rw [vu_ne (by omega), e52]
    omega
  · rw [vu_eq, vu_ne (by omega), vu_ne (by omega)]
    have := st p h0 h1
    omega
def f_sec (V : Int → Int) : Int → Int :=
  if V 51 = 0 then (if V 50 - 1 = 0 then vu (f_beat (vu V 50 (V 50 - 1))) 48 (V 48 + 1) else vu (vu V 50 (V 50 - 1)) 48 (V 48 + 1)) else vu V 48 (V 48 + 1)
/-- a vector with the head of another, and what lies behind the moment -/
def hd (V x : Int → Int) : Prop := ∀ j, (j < 48 ∨ 74 ≤ j) → x j = V j
theorem hd.rf (V : Int → Int) : hd V V := fun _ _ => rfl
theorem hd.tr {V x y : Int → Int} (h1 : hd V x) (h2 : hd x y) : hd V y := fun j hj => (h2 j hj).trans (h1 j hj)
theorem hd.v1 {V x : Int → Int} {k v : Int} (h1 : hd V x) (hk : 48 ≤ k ∧ k < 74) : hd V (vu x k v) := fun j hj => by
  rw [vu_ne (by omega)]; exact h1 j hj
theorem hd.W {V x : Int → Int} (hh : hd V x) (hW : pr_W V) : pr_W x := by
  have e : ∀ j, j < 48 → x j = V j := fun j hj => hh j (by omega)
  obtain ⟨a, b, c, d, f, g, i, j, l, m⟩ := hW
  unfold pr_W
  rw [e 0 (by omega), e 1 (by omega), e 2 (by omega), e 3 (by omega), e 4 (by omega), e 24 (by omega)]
  refine ⟨a, b, c, d, f, fun s h0 h1 => ?_, fun s h0 h1 => ?_, j, fun s h0 h1 => ?_, fun s h0 h1 => ?_⟩
  · rw [e _ (by omega)]; exact g s h0 h1
  · rw [e _ (by omega), e _ (by omega)]; exact i s h0 h1
  · rw [e _ (by omega), e _ (by omega), e _ (by omega)]; exact l s h0 h1
  · rw [e _ (by omega)]; exact m s h0 h1
theorem hd.P {V x : Int → Int} {h : mm_H} {pl : Int} (hh : hd V x) (hW : pr_W V) (hP : pr_P h pl V) : pr_P h pl x := hP.cg hW (fun j hj => hh j (by omega))
theorem pr_T.v48 {v : Int} (hW : pr_W V) (hT : pr_T V) (hv : V 48 ≤ v ∧ v ≤ 600) : pr_T (vu V 48 v) := by
  obtain ⟨a, b, c, d⟩ := hT
  have w2 := hW.2.2.1
  have := a.1
  refine ⟨pr_S.v48 hW a (by omega), by rw [vu_ne (by omega)]; exact b, by rw [vu_ne (by omega), vu_eq]; omega, fun p h0 h1 => ?_⟩
  rw [vu_ne (by omega)] at h1
  rw [vu_ne (by omega), vu_ne (by omega)]
  exact d p h0 h1
theorem pr_T.v50 {v : Int} (hW : pr_W V) (hT : pr_T V) (hv : 1 ≤ v ∧ v ≤ 99) : pr_T (vu V 50 v) := by
  obtain ⟨a, b, c, d⟩ := hT
  have w2 := hW.2.2.1
  refine ⟨pr_S.v50 hW a (by omega), by rw [vu_eq]; omega, by rw [vu_ne (by omega), vu_ne (by omega)]; omega, fun p h0 h1 => ?_⟩
  rw [vu_ne (by omega)] at h1
  rw [vu_ne (by omega), vu_ne (by omega)]
  exact d p h0 h1
theorem pr_T.v49 {v : Int} (hW : pr_W V) (hT : pr_T V) (hv : 0 ≤ v ∧ v ≤ V 1) : pr_T (vu V 49 v) := by
  obtain ⟨a, b, c, d⟩ := hT
  have w2 := hW.2.2.1
  refine ⟨pr_S.v49 hW a (by omega), by rw [vu_ne (by omega)]; omega, by rw [vu_ne (by omega), vu_ne (by omega)]; omega, fun p h0 h1 => ?_⟩
  rw [vu_ne (by omega)] at h1
  rw [vu_ne (by omega), vu_ne (by omega)]
  exact d p h0 h1
theorem pr_T.v51 {v : Int} (hW : pr_W V) (hT : pr_T V) (hv : v = 0 ∨ v = 1) : pr_T (vu V 51 v) := by
  obtain ⟨a, b, c, d⟩ := hT
  have w2 := hW.2.2.1
  refine ⟨pr_S.v51 hW a hv, by rw [vu_ne (by omega)]; omega, by rw [vu_ne (by omega), vu_ne (by omega)]; omega, fun p h0 h1 => ?_⟩
  rw [vu_ne (by omega)] at h1
  rw [vu_ne (by omega), vu_ne (by omega)]
  exact d p h0 h1
theorem pr_T.v53 {v : Int} (hW : pr_W V) (hT : pr_T V) (hv : 0 ≤ v ∧ v < 128) : pr_T (vu V 53 v) := by
  obtain ⟨a, b, c, d⟩ := hT
  have w2 := hW.2.2.1
  refine ⟨pr_S.v53 hW a hv, by rw [vu_ne (by omega)]; omega, by rw [vu_ne (by omega), vu_ne (by omega)]; omega, fun p h0 h1 => ?_⟩
  rw [vu_ne (by omega)] at h1
  rw [vu_ne (by omega), vu_ne (by omega)]
  exact d p h0 h1
theorem f_sec_ok (hW : pr_W V) (hT : pr_T V) (h6 : V 48 < 600) : pr_T (f_sec V) ∧ hd V (f_sec V) ∧ f_sec V 48 = V 48 + 1 := by
  have hS := hT.1
  have w2 := hW.2.2.1
  have b48 := hS.1
  have b50 := hS.2.2.1
  have t50 := hT.2.1
  have t52 := hT.2.2.1
  unfold f_sec
  by_cases c : V 51 = 0
  · rw [if_pos c]
    by_cases c2 : V 50 - 1 = 0
    · rw [if_pos c2]
      have W1 : pr_W (vu V 50 (V 50 - 1)) := hW.v1 (by omega)
      have S1 : pr_S (vu V 50 (V 50 - 1)) := pr_S.v50 hW hS (by omega)
      have hs1 : ∀ p, 0 ≤ p → p < vu V 50 (V 50 - 1) 2 → vu V 50 (V 50 - 1) (61 + p) ≤ 3 * vu V 50 (V 50 - 1) 52 := by
        intro p h0 h1
        rw [vu_ne (by omega)] at h1
        rw [vu_ne (by omega), vu_ne (by omega)]
        exact hT.2.2.2 p h0 h1
      obtain ⟨q1, q2, q3, q4, q5, q6⟩ := f_beat_at W1 S1 hs1
      have e : ∀ j, j ≠ 50 → vu V 50 (V 50 - 1) j = V j := fun j hj => vu_ne hj
      rw [e 52 (by decide)] at q2 q5
      have S2 := q5 (by omega)
      have b49 := hS.2.1
      have bg := hW.2.2.2.2.2.1 (V 49) b49.1 b49.2
      rw [e 49 (by decide), e _ (by have := hW.2.1; omega)] at q3
      have q1' : ∀ j, (j < 50 ∨ j = 51 ∨ j = 53 ∨ 74 ≤ j) → f_beat (vu V 50 (V 50 - 1)) j = V j := fun j hj => (q1 j hj).trans (e j (by omega))
      refine ⟨⟨pr_S.v48 q4 S2 (by omega), by rw [vu_ne (by omega), q3]; omega, by rw [vu_ne (by omega), vu_eq, q2]; omega, fun p h0 h1 => ?_⟩, fun j hj => ?_, by rw [vu_eq]⟩
      · rw [vu_ne (by omega), q1' 2 (by omega)] at h1
        rw [vu_ne (by omega), vu_ne (by omega)]
        exact q6 p h0 (by rw [e 2 (by decide)]; exact h1)
      · rw [vu_ne (by omega)]
        exact q1' j (by omega)
    · rw [if_neg c2]
      refine ⟨pr_T.v48 (hW.v1 (by omega)) (hT.v50 hW (by omega)) ?_, ((hd.rf V).v1 (by omega)).v1 (by omega), by rw [vu_eq]⟩
      rw [vu_ne (by omega)]
      omega
  · rw [if_neg c]
    exact ⟨hT.v48 hW (by omega), (hd.rf V).v1 (by omega), by rw [vu_eq]⟩
end
section PC
variable {V : Int → Int} {h : mm_H} {m pl : Int}
theorem f_t50 (hW : pr_W V) (hT : pr_T V) : pr_W (vu V 50 (V 50 - 1)) ∧ pr_S (vu V 50 (V 50 - 1)) ∧ ∀ p, 0 ≤ p → p < vu V 50 (V 50 - 1) 2 → vu V 50 (V 50 - 1) (61 + p) ≤ 3 * vu V 50 (V 50 - 1) 52 := by
  have b50 := hT.1.2.2.1
  have t50 := hT.2.1
  have w2 := hW.2.2.1
  refine ⟨hW.v1 (by omega), pr_S.v50 hW hT.1 (by omega), fun p h0 h1 => ?_⟩
  rw [vu_ne (by omega)] at h1
  rw [vu_ne (by omega), vu_ne (by omega)]
  exact hT.2.2.2 p h0 h1
theorem cl_sec (hP : pr_P h pl V) (hM : pr_M h m V) (hW : pr_W V) (hT : pr_T V) (h6 : V 48 < 600) (hd : pl + 9 < m ∨ m + 3 < pl) (d : Nat) : ∃ h', mm_M mm_prog (d + 4) 34 [(12, m), (14, pl)] h = some (0, h') ∧ pr_M h' m (f_sec V) ∧ fr m h h' := by
  have hS := hT.1
  have b48 := hS.1
  have b50 := hS.2.2.1
  have t50 := hT.2.1
  have b51 := hS.2.2.2.1
  rw [e_X2_passSecond, hM.2.2.2.1, hM.2.2.1, pu_eq, pu_w (x := V 50 - 1) (by omega) (by omega)]
  unfold f_sec
  by_cases c : V 51 = 0
  · rw [if_pos c, if_pos c]
    have M1 := hM.u2 (v := V 50 - 1)
    have F1 := (fr_rf m h).up (k := 2) (v := V 50 - 1) (o := m) (by omega)
    by_cases c2 : V 50 - 1 = 0
    · rw [if_neg (by omega), if_pos c2]
      obtain ⟨W1, S1, s1⟩ := f_t50 hW hT
      obtain ⟨q1, -⟩ := f_beat_at W1 S1 s1
      obtain ⟨h2, e2, M2, F2⟩ := cl_beat ((hP.fr F1 hd).v1 hW (by omega)) M1 W1 S1 s1 hd d
      have e48 : h2 m 0 = V 48 := by rw [M2.1, q1 48 (by omega), vu_ne (by omega)]
      rw [e2, Option.bind_some]
      dsimp only
      rw [e48, pu_w (by omega) (by omega)]
      exact ⟨_, rfl, M2.u0, (F1.tr F2).up (by omega)⟩
    · rw [if_pos (by omega), if_neg c2, M1.1, vu_ne (by omega), pu_w (by omega) (by omega)]
      exact ⟨_, rfl, M1.u0, F1.up (by omega)⟩
  · rw [if_neg c, if_neg c, hM.1, pu_w (by omega) (by omega)]
    exact ⟨_, rfl, hM.u0, (fr_rf m h).up (by omega)⟩
theorem rf_sec (hW : pr_W V) (hT : pr_T V) (h6 : V 48 < 600) (d : Nat) : mm_M mm_prog (d + 4) 223 [(21, 133)] (vs h V) = some (0, vs h (f_sec V)) := by
  have hS := hT.1
  have b48 := hS.1
  have b50 := hS.2.2.1
  have t50 := hT.2.1
  have b51 := hS.2.2.2.1
  rw [e_X12_oneSecond, rf_stands hS, Option.bind_some, r135]
  simp only [vs_at, vs_up]
  unfold f_sec
  by_cases c : V 51 = 0
  · rw [if_pos c, if_pos c, vu_eq, pu_w (x := V 50 - 1) (by omega) (by omega)]
    by_cases c2 : V 50 - 1 = 0
    · obtain ⟨W1, S1, s1⟩ := f_t50 hW hT
      obtain ⟨q1, -⟩ := f_beat_at W1 S1 s1
      rw [if_pos c2, if_pos c2, rf_beat W1 S1 s1, Option.bind_some]
      simp only [vs_at, vs_up]
      rw [q1 48 (by omega), vu_ne (by omega), pu_w (by omega) (by omega)]
    · rw [if_neg c2, if_neg c2, vu_ne (by omega), pu_w (by omega) (by omega)]
  · rw [if_neg c, if_neg c, if_neg (by omega), pu_w (by omega) (by omega)]
end PC
