/-! The call book() -/
theorem hd.sy {V x : Int → Int} (h : hd V x) : hd x V := fun j hj => (h j hj).symm
theorem rf_swap {G : mm_H} {V V0 : Int → Int} {b : Int} (hh : hd V0 V) (a9 : ∀ j, 0 ≤ j → j < 26 → G 139 j = V0 (48 + j)) (d : Nat) : ∃ u, mm_M mm_prog (d + 1) 268 [(21, 133), (0, b)] (vs G V) = mm_R mm_prog d T_X12_stay 2 [(21, 133), (0, b), (0, 26), u] [] (vs (asd G V 26) V0) := by
  obtain ⟨s1, r1, x1⟩ := sp_it_rel (σ := mm_V × mm_H) (R := fun i s => mm_R mm_prog d T_X12_stay 2 [(21, 133), (0, b), (0, i), s.1] [] s.2) (f := fun _ (x : Unit) => x) (I := fun i s _ => s.2 = vs (asd G V i) (fun j => if 48 ≤ j ∧ j < 48 + i then V0 j else V j)) (N := 26) (fun i s y i0 i1 hs => by
    obtain ⟨u, s⟩ := s
    dsimp only at hs
    subst hs
    refine ⟨((0, V (48 + i)), vs (asd G V (i + 1)) (fun j => if 48 ≤ j ∧ j < 48 + (i + 1) then V0 j else V j)), ?_, rfl⟩
    dsimp only
    have e1 : vs (asd G V i) (fun j => if 48 ≤ j ∧ j < 48 + i then V0 j else V j) 135 (48 + i) = V (48 + i) := by
      rw [vs_at, if_neg (by omega)]
    have e2 : vs (asd G V i) (fun j => if 48 ≤ j ∧ j < 48 + i then V0 j else V j) 139 i = V0 (48 + i) := by
      rw [vs_ne (by decide)]
      unfold asd
      rw [if_neg (by omega), a9 i i0 i1]
    rw [e_X12_stay_2, if_pos i1, pu_w (x := 48 + i) (by omega) (by omega), if_pos (by omega), if_pos ⟨i0, i1⟩, if_pos (by omega), if_pos ⟨i0, i1⟩, pu_w (x := i + 1) (by omega) (by omega), r135, show (133 : Int) + 6 = 139 from rfl, e1, e2, vs_up, vs_upo (by decide)]
    congr 1
    have ea : mm_up (asd G V i) 139 i (V (48 + i)) = asd G V (i + 1) := by
      funext o k
      unfold mm_up asd
      by_cases e : o = 139
      · by_cases e2 : k = i
        · rw [if_pos ⟨e, e2⟩, if_pos ⟨e, by omega, by omega⟩, e2]
        · rw [if_neg (by omega)]
          by_cases e3 : 0 ≤ k ∧ k < i
          · rw [if_pos ⟨e, e3⟩, if_pos ⟨e, by omega, by omega⟩]
          · rw [if_neg (by omega), if_neg (by omega)]
      · rw [if_neg (by omega), if_neg (by omega), if_neg (by omega)]
    rw [ea]
    congr 1
    funext j
    unfold vu
    by_cases z : j = 48 + i
    · rw [if_pos z, if_pos (by omega), z]
    · rw [if_neg z]
      dsimp only
      by_cases z2 : 48 ≤ j ∧ j < 48 + i
      · rw [if_pos z2, if_pos (by omega)]
      · rw [if_neg z2, if_neg (by omega)]) 26 0 ((9, 0), vs G V) () (by decide) (by decide) (by
      dsimp only
      congr 1
      · funext o k
        unfold asd
        rw [if_neg (by omega)]
      · funext j
        rw [if_neg (by omega)])
  obtain ⟨u, s1⟩ := s1
  dsimp only at x1 r1
  have eV : (fun j => if 48 ≤ j ∧ j < 48 + 26 then V0 j else V j) = V0 := by
    funext j
    by_cases z : 48 ≤ j ∧ j < 48 + 26
    · rw [if_pos z]
    · rw [if_neg z, hh j (by omega)]
  rw [eV] at x1
  refine ⟨u, ?_⟩
  rw [e_X12_stay, ← x1]
  exact r1
theorem rf_stay0 {G : mm_H} {V V0 : Int → Int} (hh : hd V0 V) (a9 : ∀ j, 0 ≤ j → j < 26 → G 139 j = V0 (48 + j)) (d : Nat) : mm_M mm_prog (d + 1) 268 [(21, 133), (0, 0)] (vs G V) = some (0, vs (asd G V 26) V0) := by
  obtain ⟨u, e⟩ := rf_swap (b := 0) hh a9 d
  rw [e, e_X12_stay_2, if_neg (by decide), if_pos rfl]
theorem rf_stay1 {G : mm_H} {V V0 : Int → Int} (hh : hd V0 V) (a9 : ∀ j, 0 ≤ j → j < 26 → G 139 j = V0 (48 + j)) (n0 : 0 ≤ G 133 24 ∧ G 133 24 ≤ 8) (d : Nat) : ∃ s, mm_M mm_prog (d + 2) 268 [(21, 133), (0, 1)] (vs G V) = some (0, vs s V) ∧ (∀ o k, ¬ (o = 135 ∨ o = 138 ∨ o = 139 ∨ (o = 133 ∧ k = 24)) → s o k = G o k) ∧ s 133 24 = min 8 (G 133 24 + 1) ∧ (∀ k, 0 ≤ k → k < 26 * (min 8 (G 133 24 + 1) - 1) → s 138 k = G 138 (k + if G 133 24 = 8 then 26 else 0)) ∧ ∀ j, 0 ≤ j → j < 26 → s 138 (26 * (min 8 (G 133 24 + 1) - 1) + j) = V0 (48 + j) := by
  obtain ⟨u, e⟩ := rf_swap (b := 1) hh a9 (d + 1)
  obtain ⟨h, hh0⟩ : ∃ h, h = vs (asd G V 26) V0 := ⟨_, rfl⟩
  have hG : ∀ o k, o ≠ 135 → o ≠ 139 → h o k = G o k := fun o k q1 q2 => by
    rw [hh0, vs_ne q1]
    unfold asd
    rw [if_neg (fun q => q2 q.1)]
  have h24 : h 133 24 = G 133 24 := hG _ _ (by decide) (by decide)
  obtain ⟨s, e1, D, s1, s2, s3⟩ := rf_snap (h := h) (by rw [h24]; exact n0) d
  rw [h24] at s1 s2 s3
  have D' : ∀ o k, ¬ (o = 138 ∨ (o = 133 ∧ k = 24)) → s o k = h o k := D
  have es : vs (asd s V 26) V0 = s := by
    funext o k
    by_cases z : o = 135
    · rw [z, vs_at, D' 135 k (by omega), hh0, vs_at]
    · rw [vs_ne z]
      unfold asd
      by_cases y : o = 139 ∧ 0 ≤ k ∧ k < 26
      · rw [if_pos y, D' o k (by omega), hh0, vs_ne z]
        unfold asd
        rw [if_pos y]
      · rw [if_neg y]
  have tb := rf_takeBack (h := s) hh.sy d
  rw [es] at tb
  refine ⟨asd s V 26, ?_, fun o k q => ?_, ?_, fun k k0 k1 => ?_, fun j j0 j1 => ?_⟩
  · rw [e, e_X12_stay_2, if_neg (by decide), if_neg (by decide), ← hh0, e1, Option.bind_some]
    dsimp only
    rw [tb, Option.bind_some]
  · unfold asd
    rw [if_neg (by omega), D' o k (by omega), hG o k (by omega) (by omega)]
  · unfold asd
    rw [if_neg (by omega), s1]
  · unfold asd
    rw [if_neg (by omega), s2 k k0 k1, hG _ _ (by decide) (by decide)]
  · unfold asd
    rw [if_neg (by omega), s3 j j0 j1, hh0, vs_at]
/-- what a book may change -/
def q_bk (o k : Int) : Prop := o = 1 ∨ (o = 0 ∧ k = 13) ∨ (87 ≤ o ∧ o ≤ 89) ∨ (25 ≤ o ∧ o ≤ 28) ∨ (68 ≤ o ∧ o ≤ 75) ∨ (o = 133 ∧ (k = 0 ∨ (2 ≤ k ∧ k ≤ 13) ∨ k = 40 ∨ k = 41)) ∨ o = 139 ∨ o = 150 ∨ o = 151
def q_bp (o k : Int) : Prop := q_bk o k ∨ (o = 34 ∧ (k = 1 ∨ k = 2)) ∨ (36 ≤ o ∧ o ≤ 67) ∨ o = 138 ∨ (o = 133 ∧ k = 24) ∨ o = 135
theorem Rst_bk {h h' : mm_H} (hR : Rst h) (E : ∀ o k, ¬ q_bp o k → h' o k = h o k) (bo : BO h') (fa : h' 0 13 = h' 133 10) (l1 : h' 1 1 = 0) (l2 : h' 133 2 = 0) : Rst h' := by
  obtain ⟨c1, c2, c3, c4, c5, c6, c7, c8, c9⟩ := hR
  have E' := E
  unfold q_bp q_bk at E'
  exact ⟨c1.dif (by decide) (ch := q_bp) E (fun o j q z => by unfold q_bp q_bk at z; omega), c2.dif (by decide) (ch := q_bp) E (fun o j q z => by unfold q_bp q_bk at z; omega), c3.dif (ch := q_bp) E (fun o j q z => by unfold q_bp q_bk at z; omega), c4.dif (ch := q_bp) E (fun o j q z => by unfold q_bp q_bk at z; omega), by rw [E' 0 14 (by omega), E' 133 34 (by omega)]; exact c5, c6.dif (ch := q_bp) E (fun o j q z => by unfold q_bp q_bk at z; omega), bo, fa, ⟨by rw [l1, l2], by rw [l1]; decide, fun i i0 i1 => by rw [l1] at i1; omega⟩⟩
theorem Inv_bs {h h' : mm_H} (hI : Inv h) (E : ∀ o k, ¬ q_bk o k → h' o k = h o k) (hM : pr_M h' 25 (h 135)) (bo : BO h') (fa : h' 0 13 = h' 133 10) (l1 : h' 1 1 = 0) (l2 : h' 133 2 = 0) : Inv h' := by
  obtain ⟨hC, hA, hR⟩ := Inv_iff.mp hI
  have E' := E
  unfold q_bk at E'
  have er : h' 135 = h 135 := funext fun k => E' 135 k (by omega)
  refine Inv_iff.mpr ⟨?_, ?_, Rst_bk hR (fun o k q => E o k (fun w => q (Or.inl w))) bo fa l1 l2⟩
  · rw [er]
    exact hC.hd (hd.rf _) hI.T hM (fun o h0 h1 h2 k => E' o k (by omega)) (fun k => E' 140 k (by omega))
  · rw [er]
    exact hA.dif (ch := q_bk) hC.1 (hd.rf _) E (fun o k q z => by unfold q_bk at z; omega)
theorem mg_th (c r : mm_H) (v : Int) : mg c (mm_up r 133 0 v) = mm_up (mg c r) 133 0 v := by
  funext o k
  by_cases z : o < 133
  · rw [mg_c z, pu_ob (by omega), mg_c z]
  · rw [mg_r (by omega), pu_up, pu_up]
    by_cases y : o = 133 ∧ k = 0
    · rw [if_pos y, if_pos y]
    · rw [if_neg y, if_neg y, mg_r (by omega)]
theorem BX_mg {c r : mm_H} (hI : Inv (mg c r)) : BX c r := by
  obtain ⟨a, b, e, f, g, i⟩ := hI.1
  have row : mg c r 135 = r 135 := mg_rr (by decide)
  rw [row] at a e g
  refine ⟨a, e.ob (fun o h0 h1 _ k => (mg_c (by omega) k).symm), fun s i s0 s1 i0 i1 => ?_⟩
  have := g s i s0 s1 i0 i1
  rw [mg_c (by decide), mg_r (by decide), Int.zero_add] at this
  exact this
