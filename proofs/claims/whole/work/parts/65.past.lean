/-! The past: what is kept -/
theorem pu_a7 {x : Int} (h0 : 0 ≤ x) (h1 : x < 17) : mm_and x 7 = x % 8 := by
  have : ∀ n : Nat, n < 17 → mm_and (n : Int) 7 = (n : Int) % 8 := by decide +kernel
  have w := this x.toNat (by omega)
  rw [show ((x.toNat : Nat) : Int) = x by omega] at w
  exact w
theorem cl_keep {h : mm_H} {V : Int → Int} (hM : pr_M h 68 V) (hW : pr_W V) (hS : pr_S V) (n0 : 0 ≤ h 34 1 ∧ h 34 1 < 8) (n1 : 0 ≤ h 34 2 ∧ h 34 2 ≤ 8) (d : Nat) : ∃ h', mm_M mm_prog (d + 2) 47 [(13, 34), (12, 68)] h = some (0, h') ∧ h' 34 1 = (h 34 1 + 1) % 8 ∧ h' 34 2 = min 8 (h 34 2 + 1) ∧ pr_M h' (36 + 4 * ((h 34 1 + 1) % 8)) V ∧ dif (fun o k => (o = 34 ∧ (k = 1 ∨ k = 2)) ∨ (36 + 4 * ((h 34 1 + 1) % 8) ≤ o ∧ o ≤ 39 + 4 * ((h 34 1 + 1) % 8))) h h' := by
  have e7 : mm_and (mm_w (h 34 1 + 1)) 7 = (h 34 1 + 1) % 8 := by
    rw [pu_w (by omega) (by omega), pu_a7 (by omega) (by omega)]
  obtain ⟨n, hn⟩ : ∃ n, n = (h 34 1 + 1) % 8 := ⟨_, rfl⟩
  rw [← hn] at e7 ⊢
  have hn0 : 0 ≤ n ∧ n < 8 := by omega
  rw [e_X3_keep, e7, pu_eq, if_pos hn0]
  have M1 : pr_M (mm_up h 34 1 n) 68 V := hM.ob (fun o h0 h1 k => pu_ob (by omega))
  obtain ⟨h2, e2, M2, F2⟩ := cl_copyM (a := 36 + 4 * n) (b := 68) M1 hW hS (by omega) d
  rw [show (34 : Int) + 1 + 1 + 4 * n = 36 + 4 * n by omega, e2, Option.bind_some]
  dsimp only
  have e34 : ∀ k, h2 34 k = mm_up h 34 1 n 34 k := fun k => F2 34 (by omega) k
  rw [e34 2, pu_sl (by decide), pu_w (by omega) (by omega)]
  refine ⟨_, rfl, ?_, ?_, ?_, ?_⟩
  · rw [pu_sl (by decide), e34 1, pu_eq]
  · rw [pu_eq]
  · exact M2.ob (fun o h0 h1 k => pu_ob (by omega))
  · exact (((dif.rf _ h).up (Or.inl ⟨rfl, Or.inl rfl⟩)).tr F2.dif (fun _ _ q => q) (fun o k (q : 36 + 4 * n ≤ o ∧ o ≤ 36 + 4 * n + 3) => Or.inr (by omega))).up (Or.inl ⟨rfl, Or.inr rfl⟩)
theorem rf_snap51 {h : mm_H} {m : Int} (hm : h 133 24 = m) (m0 : 0 ≤ m) (m1 : m ≤ 7) (d : Nat) : ∃ h', mm_R mm_prog d T_X12_snap 51 [(21, 133), (0, 0)] [] h = some (0, h') ∧ dif (fun o k => o = 138 ∨ (o = 133 ∧ k = 24)) h h' ∧ h' 133 24 = m + 1 ∧ (∀ k, k < 26 * m → h' 138 k = h 138 k) ∧ ∀ j, 0 ≤ j → j < 26 → h' 138 (26 * m + j) = h 135 (48 + j) := by
  obtain ⟨h2, r2, D2, E2, F2⟩ := sp_it_rel (R := fun i s => mm_R mm_prog d T_X12_snap 51 [(21, 133), (0, i)] [] s) (f := fun _ (x : Unit) => x) (I := fun i s _ => dif (fun o _ => o = 138) h s ∧ (∀ k, k < 26 * m → s 138 k = h 138 k) ∧ ∀ j, 0 ≤ j → j < i → s 138 (26 * m + j) = h 135 (48 + j)) (N := 26) (fun i s x i0 i1 hI => by
    obtain ⟨sD, sA, sB⟩ := hI
    have e24 : s 133 24 = m := (sD 133 24 (show ¬ (133 : Int) = 138 by decide)).trans hm
    have e35 : s 135 (48 + i) = h 135 (48 + i) := sD 135 _ (show ¬ (135 : Int) = 138 by decide)
    refine ⟨mm_up s 138 (26 * m + i) (h 135 (48 + i)), ?_, sD.up rfl, fun k hk => ?_, fun j j0 j1 => ?_⟩
    · rw [e_X12_snap_51, if_pos i1, e24, pu_w (x := 48 + i) (by omega) (by omega), pu_w (x := 26 * m) (by omega) (by omega), pu_w (x := 26 * m + i) (by omega) (by omega), pu_w (x := i + 1) (by omega) (by omega), if_pos (by omega), if_pos (by omega), r135, e35]
      rfl
    · rw [pu_sl (by omega)]
      exact sA k hk
    · by_cases e : j = i
      · rw [e, pu_eq]
      · rw [pu_sl (by omega)]
        exact sB j j0 (by omega)) 26 0 h () (by decide) (by decide) ⟨dif.rf _ h, fun _ _ => rfl, fun j j0 j1 => by omega⟩
  have e24 : h2 133 24 = m := (D2 133 24 (show ¬ (133 : Int) = 138 by decide)).trans hm
  refine ⟨mm_up h2 133 24 (m + 1), ?_, ?_, by rw [pu_eq], fun k hk => ?_, fun j j0 j1 => ?_⟩
  · rw [r2, e_X12_snap_51, if_neg (by decide), e24, pu_w (by omega) (by omega)]
  · exact (D2.tr (dif.rf (fun _ _ => False) h2) (fun _ _ q => Or.inl q) (fun _ _ q => q.elim)).up (Or.inr ⟨rfl, rfl⟩)
  · rw [pu_ob (by decide)]
    exact E2 k hk
  · rw [pu_ob (by decide)]
    exact F2 j j0 j1
theorem rf_snap {h : mm_H} (n0 : 0 ≤ h 133 24 ∧ h 133 24 ≤ 8) (d : Nat) : ∃ h', mm_M mm_prog (d + 1) 209 [(21, 133)] h = some (0, h') ∧ dif (fun o k => o = 138 ∨ (o = 133 ∧ k = 24)) h h' ∧ h' 133 24 = min 8 (h 133 24 + 1) ∧ (∀ k, 0 ≤ k → k < 26 * (min 8 (h 133 24 + 1) - 1) → h' 138 k = h 138 (k + if h 133 24 = 8 then 26 else 0)) ∧ ∀ j, 0 ≤ j → j < 26 → h' 138 (26 * (min 8 (h 133 24 + 1) - 1) + j) = h 135 (48 + j) := by
  rw [e_X12_snap]
  by_cases e : h 133 24 = 8
  · rw [if_pos e]
    obtain ⟨h2, r2, D2, E2, F2⟩ := sp_it_rel (R := fun i s => mm_R mm_prog d T_X12_snap 11 [(21, 133), (0, i)] [] s) (f := fun _ (x : Unit) => x) (I := fun i s _ => dif (fun o _ => o = 138) h s ∧ (∀ k, i ≤ k → s 138 k = h 138 k) ∧ ∀ k, 0 ≤ k → k < i → s 138 k = h 138 (k + 26)) (N := 182) (fun i s x i0 i1 hI => by
      obtain ⟨sD, sA, sB⟩ := hI
      refine ⟨mm_up s 138 i (h 138 (i + 26)), ?_, sD.up rfl, fun k hk => ?_, fun j j0 j1 => ?_⟩
      · rw [e_X12_snap_11, if_pos i1, pu_w (x := i + 26) (by omega) (by omega), pu_w (x := i + 1) (by omega) (by omega), if_pos (by omega), if_pos (by omega), show (133 : Int) + 5 = 138 from rfl, sA (i + 26) (by omega)]
      · rw [pu_sl (by omega)]
        exact sA k (by omega)
      · by_cases e : j = i
        · rw [e, pu_eq]
        · rw [pu_sl (by omega)]
          exact sB j j0 (by omega)) 182 0 h () (by decide) (by decide) ⟨dif.rf _ h, fun _ _ => rfl, fun j j0 j1 => by omega⟩
    have e24 : h2 133 24 = 8 := (D2 133 24 (show ¬ (133 : Int) = 138 by decide)).trans e
    rw [r2, e_X12_snap_11, if_neg (by decide), e24, pu_w (by decide) (by decide)]
    obtain ⟨h3, r3, D3, a3, b3, c3⟩ := rf_snap51 (h := mm_up h2 133 24 (8 - 1)) (m := 7) (by rw [pu_eq]; rfl) (by decide) (by decide) d
    refine ⟨h3, r3, ?_, by rw [a3, e]; rfl, fun k k0 k1 => ?_, fun j j0 j1 => ?_⟩
    · exact (((D2.tr (dif.rf (fun _ _ => False) h2) (fun _ _ q => Or.inl q) (fun _ _ q => q.elim)).up (Or.inr ⟨rfl, rfl⟩)).tr D3 (fun _ _ q => q) (fun _ _ q => q))
    · rw [e] at k1
      rw [if_pos e, b3 k (by omega), pu_ob (by decide), F2 k k0 (by omega)]
    · have := c3 j j0 j1
      rw [pu_ob (by decide), D2 135 _ (show ¬ (135 : Int) = 138 by decide)] at this
      rw [e]
      exact this
  · rw [if_neg e]
    obtain ⟨h3, r3, D3, a3, b3, c3⟩ := rf_snap51 (h := h) (m := h 133 24) rfl n0.1 (by omega) d
    have em : min 8 (h 133 24 + 1) = h 133 24 + 1 := by omega
    rw [em]
    refine ⟨h3, r3, D3, a3, fun k k0 k1 => ?_, fun j j0 j1 => ?_⟩
    · rw [if_neg e, b3 k (by omega), Int.add_zero]
    · have := c3 j j0 j1
      rw [show 26 * (h 133 24 + 1 - 1) + j = 26 * h 133 24 + j by omega]
      exact this
/-- town and past, when one more is kept -/
theorem kept_SP {h h1 h2 : mm_H} {V' : Int → Int} (hI : Inv h) (hh : hd (h 135) V') (hT : pr_T V') (M1 : pr_M h1 25 V') (P1 : pr_M h1 (36 + 4 * ((h 34 1 + 1) % 8)) (h 135)) (n1 : h1 34 1 = (h 34 1 + 1) % 8) (n2 : h1 34 2 = min 8 (h 34 2 + 1)) (D1 : ∀ o k, (q_town o k ∨ q_past o k) → ¬ ((25 ≤ o ∧ o ≤ 28) ∨ (o = 34 ∧ (k = 1 ∨ k = 2)) ∨ (36 + 4 * ((h 34 1 + 1) % 8) ≤ o ∧ o ≤ 39 + 4 * ((h 34 1 + 1) % 8))) → h1 o k = h o k) (D2 : ∀ o k, (q_town o k ∨ q_past o k) → ¬ (o = 135 ∨ o = 138 ∨ (o = 133 ∧ k = 24)) → h2 o k = h1 o k) (r2 : h2 135 = V') (s2 : h2 133 24 = min 8 (h 34 2 + 1)) (s3 : ∀ k, 0 ≤ k → k < 26 * (min 8 (h 34 2 + 1) - 1) → h2 138 k = h 138 (k + if h 34 2 = 8 then 26 else 0)) (s4 : ∀ j, 0 ≤ j → j < 26 → h2 138 (26 * (min 8 (h 34 2 + 1) - 1) + j) = h 135 (48 + j)) : SC h2 14 140 0 (h2 135) ∧ PA h2 (h2 135) := by
  obtain ⟨hC, hA, hR⟩ := Inv_iff.mp hI
  have A1 := hA.1
  have A2 := hA.2.1
  unfold q_town q_past at D1 D2
  rw [r2]
  refine ⟨hC.hd hh hT (M1.ob (fun o h0 h1 k => D2 o k (by omega) (by omega))) (fun o h0 h1 h2 k => (D2 o k (by omega) (by omega)).trans (D1 o k (by omega) (by omega))) (fun k => (D2 140 k (by omega) (by omega)).trans (D1 140 k (by omega) (by omega))), ?_⟩
  have e1 : h2 34 1 = h1 34 1 := D2 34 1 (by omega) (by omega)
  have e2 : h2 34 2 = h1 34 2 := D2 34 2 (by omega) (by omega)
  unfold PA
  rw [e1, e2, n1, n2, s2]
  refine ⟨by omega, by omega, rfl, fun i i0 i1 => ?_⟩
  by_cases e : i = min 8 (h 34 2 + 1) - 1
  · have es : ∀ j, (j < 5 ∨ (48 ≤ j ∧ j < 74)) → f_snap h2 V' i j = h 135 j := by
      intro j hj
      unfold f_snap
      by_cases q : 48 ≤ j ∧ j < 74
      · rw [if_pos q, e, s4 (j - 48) (by omega) (by omega)]
        congr 1
        omega
      · rw [if_neg q]
        exact hh j (by omega)
    have slot : ((h 34 1 + 1) % 8 + 9 + i - min 8 (h 34 2 + 1)) % 8 = (h 34 1 + 1) % 8 := by omega
    rw [slot]
    exact ⟨hI.T.cg hI.W es, (P1.ob (fun o h0 h1 k => D2 o k (by omega) (by omega))).cg hI.W es⟩
  · obtain ⟨b, hb⟩ : ∃ b : Int, b = if h 34 2 = 8 then 1 else 0 := ⟨_, rfl⟩
    have hb2 : (h 34 2 = 8 ∧ b = 1) ∨ (h 34 2 ≠ 8 ∧ b = 0) := by
      by_cases q : h 34 2 = 8
      · rw [if_pos q] at hb; exact Or.inl ⟨q, hb⟩
      · rw [if_neg q] at hb; exact Or.inr ⟨q, hb⟩
    have hq := hA.2.2.2 (i + b) (by omega) (by omega)
    have es : ∀ j, (j < 5 ∨ (48 ≤ j ∧ j < 74)) → f_snap h2 V' i j = f_snap h (h 135) (i + b) j := by
      intro j hj
      unfold f_snap
      by_cases q : 48 ≤ j ∧ j < 74
      · rw [if_pos q, if_pos q, s3 (26 * i + (j - 48)) (by omega) (by omega)]
        congr 1
        by_cases q2 : h 34 2 = 8
        · rw [if_pos q2]; omega
        · rw [if_neg q2]; omega
      · rw [if_neg q, if_neg q]
        exact hh j (by omega)
    have slot : ((h 34 1 + 1) % 8 + 9 + i - min 8 (h 34 2 + 1)) % 8 = (h 34 1 + 9 + (i + b) - h 34 2) % 8 := by omega
    have W9 : pr_W (f_snap h (h 135) (i + b)) := hd.W (V := h 135) (fun j hj => if_neg (by omega)) hI.W
    rw [slot]
    exact ⟨hq.1.cg W9 es, (hq.2.ob (fun o h0 h1 k => (D2 o k (by omega) (by omega)).trans (D1 o k (by omega) (by omega)))).cg W9 es⟩
