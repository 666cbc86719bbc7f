/-! The call town() -/
theorem P_cg {pl : Int} {h : mm_H} {V x : Int → Int} (hP : pr_P h pl V) (hW : pr_W V) (e : ∀ j, 0 ≤ j → j < 48 → x j = V j) : pr_P h pl x := by
  have w1 := hW.2.1
  have w2 := hW.2.2.1
  have w3 := hW.2.2.2.1
  have w4 := hW.2.2.2.2.1
  obtain ⟨a, b, c, d, f, g, i⟩ := hP
  unfold pr_P
  rw [e 0 (by decide) (by decide), e 24 (by decide) (by decide), e 1 (by decide) (by decide), e 2 (by decide) (by decide), e 3 (by decide) (by decide), e 4 (by decide) (by decide)]
  refine ⟨a, b, fun s h0 h1 => ?_, fun s h0 h1 => ?_, fun s h0 h1 => ?_, fun s h0 h1 => ?_, fun s h0 h1 => ?_⟩
  · rw [e _ (by omega) (by omega)]; exact c s h0 h1
  · rw [e _ (by omega) (by omega)]; exact d s h0 h1
  · rw [e _ (by omega) (by omega), e _ (by omega) (by omega)]; exact f s h0 h1
  · rw [e _ (by omega) (by omega), e _ (by omega) (by omega), e _ (by omega) (by omega)]; exact g s h0 h1
  · rw [e _ (by omega) (by omega)]; exact i s h0 h1
theorem f_new_cg {V x : Int → Int} (e : ∀ j, 0 ≤ j → j < 48 → x j = V j) {j : Int} (j0 : 0 ≤ j) : f_new x j = f_new V j := by
  unfold f_new
  by_cases a : j < 48
  · rw [if_pos a, if_pos a, e j j0 a]
  rw [if_neg a, if_neg a, e 5 (by decide) (by decide), e 24 (by decide) (by decide)]
  by_cases b : 54 ≤ j ∧ j < 61
  · rw [if_neg (by omega), if_neg (by omega), if_pos b, if_neg (by omega), if_neg (by omega), if_pos b, e _ (by omega) (by omega)]
  · rw [if_neg b, if_neg b]
    by_cases f : 68 ≤ j ∧ j < 74
    · rw [if_pos f, if_pos f, e _ (by omega) (by omega)]
    · rw [if_neg f, if_neg f]
theorem rf_town49 {r : mm_H} (k : Int) (d : Nat) : ∃ r', mm_R mm_prog (d + 1) T_X12_town 49 [(21, 133), (0, k), (0, 0)] [] r = some (k, r') ∧ (∀ j, 0 ≤ j → j < 316 → r' 135 j = f_new (r 136) j) ∧ (∀ j, 0 ≤ j → j < 22 → r' 140 j = r 141 j) ∧ r' 133 24 = 0 ∧ ∀ o j, ¬ (o = 135 ∨ o = 140 ∨ (o = 133 ∧ j = 24)) → r' o j = r o j := by
  obtain ⟨s1, r1, x1⟩ := sp_it_rel (R := fun i s => mm_R mm_prog (d + 1) T_X12_town 49 [(21, 133), (0, k), (0, i)] [] s) (f := fun _ (x : Unit) => x) (I := fun i s _ => s = mm_cp r 136 0 135 0 i) (N := 48) (fun i s y i0 i1 hs => by
    subst hs
    refine ⟨_, ?_, rfl⟩
    rw [e_X12_town_49, if_pos i1, if_pos ⟨i0, i1⟩, if_pos (by omega), pu_w (x := i + 1) (by omega) (by omega), r135, show (133 : Int) + 3 = 136 from rfl, ← cp_step r (by decide) i0, Int.zero_add]) 48 0 r () (by decide) (by decide) (cp_0 _ _ _ _ _).symm
  obtain ⟨s2, r2, x2⟩ := sp_it_rel (R := fun i s => mm_R mm_prog (d + 1) T_X12_town 75 [(21, 133), (0, k), (0, i)] [] s) (f := fun _ (x : Unit) => x) (I := fun i s _ => s = mm_cp s1 141 0 140 0 i) (N := 22) (fun i s y i0 i1 hs => by
    subst hs
    refine ⟨_, ?_, rfl⟩
    rw [e_X12_town_75, if_pos i1, if_pos ⟨i0, i1⟩, if_pos ⟨i0, i1⟩, pu_w (x := i + 1) (by omega) (by omega), show (133 : Int) + 7 = 140 from rfl, show (133 : Int) + 8 = 141 from rfl, ← cp_step s1 (by decide) i0, Int.zero_add]) 22 0 s1 () (by decide) (by decide) (cp_0 _ _ _ _ _).symm
  obtain ⟨s3, r3, x3, y3⟩ := rf_startSo (r := s2) d
  have r1' : mm_R mm_prog (d + 1) T_X12_town 49 [(21, 133), (0, k), (0, 0)] [] r = mm_R mm_prog (d + 1) T_X12_town 49 [(21, 133), (0, k), (0, 48)] [] s1 := r1
  have r2' : mm_R mm_prog (d + 1) T_X12_town 75 [(21, 133), (0, k), (0, 0)] [] s1 = mm_R mm_prog (d + 1) T_X12_town 75 [(21, 133), (0, k), (0, 22)] [] s2 := r2
  refine ⟨mm_up s3 133 24 0, ?_, fun j j0 j1 => ?_, fun j j0 j1 => ?_, pu_eq _ _ _ _, fun o j q => ?_⟩
  · rw [r1', e_X12_town_49, if_neg (by decide), r2', e_X12_town_75, if_neg (by decide), r3, Option.bind_some]
  · rw [pu_ob (by decide), x3 j j0 j1]
    exact f_new_cg (fun i i0 i1 => by rw [x2, cp_ob (by decide), x1, cp_at (by omega) (by omega), Int.zero_add, Int.sub_zero]) j0
  · rw [pu_ob (by decide), y3 _ _ (by decide), x2, cp_at (by omega) (by omega), x1, cp_ob (by decide), Int.zero_add, Int.sub_zero]
  · rw [pu_up, if_neg (by omega), y3 _ _ (by omega), x2, cp_ob (by omega), x1, cp_ob (by omega)]
def q_tf (o k : Int) : Prop := o = 1 ∨ (3 ≤ o ∧ o ≤ 13) ∨ (o = 0 ∧ k = 13) ∨ (o = 133 ∧ (k = 0 ∨ (2 ≤ k ∧ k ≤ 13) ∨ k = 25)) ∨ o = 136 ∨ o = 141 ∨ o = 144
def q_tn (o k : Int) : Prop := q_tf o k ∨ (15 ≤ o ∧ o ≤ 32) ∨ (o = 34 ∧ k = 2) ∨ (o = 133 ∧ k = 24) ∨ o = 135 ∨ o = 140
theorem TA_mg {c r : mm_H} (h : TA (mg c r)) : c 1 1 = r 133 2 ∧ (0 ≤ c 1 1 ∧ c 1 1 ≤ 940) ∧ ∀ i, 0 ≤ i → i < c 1 1 → (0 ≤ r 134 i ∧ r 134 i ≤ 255) ∧ c 2 i = mm_w8 (r 134 i) := by
  obtain ⟨a, b, e⟩ := h
  rw [mg_c (by decide), mg_r (by decide)] at a
  rw [mg_c (by decide)] at b e
  refine ⟨a, b, fun i i0 i1 => ?_⟩
  have := e i i0 i1
  rw [mg_c (o := 2) (by decide), mg_r (o := 134) (by decide)] at this
  exact this
theorem mg_up {c r c' r' : mm_H} {ch : Int → Int → Prop} (h1 : ∀ o k, o < 133 → ¬ ch o k → c' o k = c o k) (h2 : ∀ o k, 133 ≤ o → ¬ ch o k → r' o k = r o k) : ∀ o k, ¬ ch o k → mg c' r' o k = mg c r o k := fun o k q => by
  by_cases z : o < 133
  · rw [mg_c z, mg_c z, h1 o k z q]
  · rw [mg_r (by omega), mg_r (by omega), h2 o k (by omega) q]
/-- a fault: nothing but the fault is new -/
theorem Inv_tf {h h' : mm_H} (hI : Inv h) (E : ∀ o k, ¬ q_tf o k → h' o k = h o k) (fa : h' 0 13 = h' 133 10) (l1 : h' 1 1 = 0) (l2 : h' 133 2 = 0) : Inv h' := by
  obtain ⟨c1, c2, c3, c4, c5, c6, c7, c8, c9⟩ := (Inv_iff.mp hI).2.2
  have E' := E
  unfold q_tf at E'
  exact hI.gen (ch := q_tf) E (fun o k q z => by unfold q_img at q; unfold q_tf at z; omega) (fun o k q z => by unfold q_town at q; unfold q_tf at z; omega) (fun o k q z => by unfold q_past at q; unfold q_tf at z; omega) (c3.dif (ch := q_tf) E (fun o k q z => by unfold q_tf at z; omega)) (c4.dif (ch := q_tf) E (fun o k q z => by unfold q_tf at z; omega)) (by rw [E' 0 14 (by omega), E' 133 34 (by omega)]; exact c5) (c6.dif (ch := q_tf) E (fun o k q z => by unfold q_tf at z; omega)) (c7.dif (ch := q_tf) E (fun o k q z => by unfold q_tf at z; omega)) fa ⟨by rw [l1, l2], by rw [l1]; decide, fun i i0 i1 => by rw [l1] at i1; omega⟩
theorem k_town : Cal 107 195 [] := by
  refine Cal_of (fun d c r hI => ?_)
  obtain ⟨ta, tb, tc⟩ := TA_mg (hI.2.2.2.2.2.2.2.2.2.2)
  obtain ⟨n, hn⟩ : ∃ n, n = c 1 1 := ⟨_, rfl⟩
  rw [← hn] at ta tb tc
  obtain ⟨c1, r1, p1, t1, e1, e2, e3, e4, e5, e6, e7⟩ := tx_begin (most := 900) hn.symm ta.symm tb tc (by decide) (d + 94) (d + 94)
  obtain ⟨c2, f1, f2, f3, f4, f5, f6⟩ := cl_clear (c := c1) (d + 97)
  obtain ⟨c3, hc3⟩ : ∃ c3, c3 = mm_up (mm_up c2 3 1 0) 3 2 0 := ⟨_, rfl⟩
  obtain ⟨r2, g1, g2, g3, g4, g5, g6⟩ := rf_startRead (r := r1) (d + 98)
  have h3 : TF c3 r2 n 900 p1 t1 := e3.cg (fun k => by rw [hc3, pu_ob (by decide), pu_ob (by decide), f6 _ _ (by omega)]) (fun k => by rw [hc3, pu_ob (by decide), pu_ob (by decide), f6 _ _ (by omega)]) (fun k k0 k1 => g6 _ _ (by omega)) (fun k => g6 _ _ (by omega))
  have C3 : ∀ o k, o ≠ 3 → c3 o k = c2 o k := fun o k q => by rw [hc3, pu_ob q, pu_ob q]
  have hW : TW c3 r2 := TW_start (by rw [C3 _ _ (by decide)]; exact f2) (by rw [C3 _ _ (by decide)]; exact f3) (by rw [C3 _ _ (by decide)]; exact f4) (fun s s0 s1 => by rw [C3 _ _ (by decide)]; exact f5 s s0 s1) g2 (by rw [hc3, pu_sl (by decide), pu_eq]) (by rw [hc3, pu_eq]) g3 g4 g5
  have cpre : mm_M mm_prog (d + 100) 107 [(20, 0)] c = (mm_R mm_prog (d + 98) T_X9_readTown 19 [(19, 3), (18, 1), (0, 0)] [] c3).bind fun o2 => ((mm_M mm_prog (d + 99) 145 [(20, 0)] o2.2).bind fun o3 => (if o3.1 = 0 then ((mm_M mm_prog (d + 99) 65 [(16, 14), (14, 4)] o3.2).bind fun o4 => ((mm_M mm_prog (d + 99) 46 [(13, 34)] o4.2).bind fun o5 => (some (o2.1, o5.2)))) else (some (mm_w ((-1) - (o3.2 1 9)), o3.2)))) := by
    rw [e_X11_town]
    simp only [show (0 : Int) + 1 = 1 from rfl, show (0 : Int) + 3 = 3 from rfl, show (0 : Int) + 14 = 14 from rfl, show (0 : Int) + 34 = 34 from rfl, show (3 : Int) + 1 = 4 from rfl]
    rw [e1, Option.bind_some]
    dsimp only
    rw [e_X9_readTown, show (3 : Int) + 1 = 4 from rfl, f1, Option.bind_some]
    dsimp only
    rw [← hc3]
  have rpre : mm_M mm_prog (d + 100) 195 [(21, 133)] r = mm_R mm_prog (d + 99) T_X12_town 13 [(21, 133), (0, 0), (9, 0)] [] r2 := by
    rw [e_X12_town, e2, Option.bind_some]
    dsimp only
    rw [g1, Option.bind_some]
  have cs3 : ∀ o k, ¬ (o = 1 ∧ 2 ≤ k ∧ k ≤ 9) → ¬ (o = 3 ∨ o = 4 ∨ o = 5 ∨ o = 7) → c3 o k = c o k := fun o k q1 q2 => by
    rw [C3 _ _ (by omega), f6 _ _ (by omega), e5 _ _ q1]
  have rs2 : ∀ o k, ¬ (o = 133 ∧ (k = 0 ∨ (2 ≤ k ∧ k ≤ 12) ∨ k = 25)) → ¬ (o = 136 ∨ o = 144) → r2 o k = r o k := fun o k q1 q2 => by
    rw [g6 _ _ (by omega), e6 _ _ (by omega)]
  have r22 : r2 133 2 = 0 := by rw [g6 _ _ (by omega)]; exact e7
  rcases tw_loop (d + 89) ((n - p1).toNat + 1) 0 p1 t1 c3 r2 h3 hW (by decide) (by omega) (by omega) with ⟨k, c4, r4, p4, i1, i2, i3, i4, i5, i6, i7⟩ | ⟨c4, r4, i1, i2, i3, i4, i5⟩
  · obtain ⟨r5, j1, j2, j3, j4, j5⟩ := rf_town49 (r := r4) k (d + 97)
    obtain ⟨V, hV⟩ : ∃ V, V = r4 136 := ⟨_, rfl⟩
    obtain ⟨x, hx⟩ : ∃ x, x = r5 135 := ⟨_, rfl⟩
    rw [← hV, ← hx] at j2
    have c48 : c4 1 8 = 0 := i4.2.1
    obtain ⟨c5, hc5⟩ : ∃ c5, c5 = mm_up (mm_up c4 1 1 0) 0 13 0 := ⟨_, rfl⟩
    have endT : mm_M mm_prog (d + 99) 145 [(20, 0)] c4 = some (0, c5) := by
      have q0 : (mm_up c4 1 1 0) 1 8 = 0 := by rw [pu_sl (by decide)]; exact c48
      rw [e_X11_endText]
      simp only [show (0 : Int) + 1 = 1 from rfl, q0]
      rw [← hc5, if_pos (by rw [hc5, pu_ob (by decide)]; exact q0)]
    have W4 : pr_W V := by rw [hV]; exact i5.1
    have P5 : pr_P c5 4 V := by rw [hV]; exact i5.2.1.ob (fun o h0 h1 _ j => by rw [hc5, pu_ob (by omega), pu_ob (by omega)])
    have ex : ∀ j, 0 ≤ j → j < 48 → x j = V j := fun j j0 j1 => by
      rw [j2 j j0 (by omega)]
      unfold f_new
      rw [if_pos j1]
    have S0 : f_st0 V x := f_new_st j2
    obtain ⟨c6, m1, m2, m3, m4⟩ := cl_copyP (a := 15) (b := 4) P5 W4 (by omega) (d + 97)
    obtain ⟨c7, n1, n2, n3⟩ := cl_momBegin m2 W4 ex S0 (d + 95)
    obtain ⟨c9, hc9⟩ : ∃ c9, c9 = mm_up (mm_up (mm_up c7 29 3 0) 29 4 0) 34 2 0 := ⟨_, rfl⟩
    have CC : ∀ o j, ¬ ((15 ≤ o ∧ o ≤ 28) ∨ (o = 29 ∧ (j = 3 ∨ j = 4)) ∨ (o = 34 ∧ j = 2) ∨ (o = 1 ∧ j = 1) ∨ (o = 0 ∧ j = 13)) → c9 o j = c4 o j := fun o j q => by
      rw [hc9, pu_up, if_neg (by omega), pu_up, if_neg (by omega), pu_up, if_neg (by omega), n3 o (by omega), m4 o (by omega), hc5, pu_up, if_neg (by omega), pu_up, if_neg (by omega)]
    have C67 : ∀ o j, ¬ (25 ≤ o ∧ o ≤ 28) → ¬ (o = 29) → ¬ (o = 34) → c9 o j = c6 o j := fun o j q1 q2 q3 => by
      rw [hc9, pu_ob q3, pu_ob q2, pu_ob q2, n3 o (by omega)]
    refine ⟨k, c9, r5, ?_, ?_, ?_, ?_, ?_⟩
    · rw [cpre, i1, Option.bind_some]
      dsimp only
      rw [endT, Option.bind_some]
      show (if (0 : Int) = 0 then _ else _) = _
      rw [if_pos rfl]
      dsimp only
      rw [e_X6_begin]
      simp only [show (14 : Int) + 1 = 15 from rfl, show (14 : Int) + 11 = 25 from rfl, show (14 : Int) + 15 = 29 from rfl]
      rw [m1, Option.bind_some]
      dsimp only
      rw [n1, Option.bind_some]
      dsimp only
      rw [e_X7_clear, Option.bind_some, Option.bind_some]
      dsimp only
      rw [e_X3_forget, Option.bind_some, ← hc9]
    · rw [rpre]
      exact mm_R_dp (i2.trans j1)
    · have E : ∀ o j, ¬ q_tn o j → mg c9 r5 o j = mg c r o j := mg_up (fun o j o1 q => by
        unfold q_tn q_tf at q
        rw [CC o j (by omega), i6 o j (by omega), cs3 o j (by omega) (by omega)]) (fun o j o1 q => by
        unfold q_tn q_tf at q
        rw [j5 o j (by omega), i7 o j (by omega), rs2 o j (by omega) (by omega)])
      obtain ⟨k1, k2, k3, k4, k5, k6, k7, k8, k9⟩ := (Inv_iff.mp hI).2.2
      have E' := E
      unfold q_tn q_tf at E'
      have row : mg c9 r5 135 = x := by rw [mg_rr (by decide), hx]
      have SC' : SC (mg c9 r5) 14 140 0 (mg c9 r5 135) := by
        rw [row]
        refine ⟨W_cg W4 ex, f_st0_T W4 ex S0, ?_, ?_, ?_, ?_⟩
        · exact (P_cg m2 W4 ex).ob (fun o h0 h1 _ j => by rw [mg_c (by omega), C67 o j (by omega) (by omega) (by omega)])
        · exact n2.ob (fun o h0 h1 j => by rw [mg_c (by omega), hc9, pu_ob (by omega), pu_ob (by omega), pu_ob (by omega)])
        · intro s i s0 s1 q0 q1
          rw [ex _ (by omega) (by omega), hV] at q1
          have w := i5.2.2.1 s i s0 s1 q0 q1
          have mo := i5.1.most s0 s1 q0 q1
          rw [mg_c (by decide), mg_r (by decide), C67 _ _ (by decide) (by decide) (by decide), show (14 : Int) + 1 + 2 = 15 + 2 from rfl, m3 _ (by omega) (by omega), hc5, pu_ob (by decide), pu_ob (by decide), Int.zero_add, j3 _ mo.2.1 mo.2.2]
          exact w
        · left
          refine ⟨S0.2.2.2.2.2.2.2.2, ?_⟩
          rw [show (14 : Int) + 15 = 29 from rfl, mg_c (by decide), hc9, pu_ob (by decide), pu_eq]
      refine Inv_iff.mpr ⟨SC', ⟨?_, ?_, ?_, fun i i0 i1 => ?_⟩, k1.dif (by decide) (ch := q_tn) E (fun o j q z => by unfold q_tn q_tf at z; omega), k2.dif (by decide) (ch := q_tn) E (fun o j q z => by unfold q_tn q_tf at z; omega), k3.dif (ch := q_tn) E (fun o j q z => by unfold q_tn q_tf at z; omega), k4.dif (ch := q_tn) E (fun o j q z => by unfold q_tn q_tf at z; omega), by rw [E' 0 14 (by omega), E' 133 34 (by omega)]; exact k5, k6.dif (ch := q_tn) E (fun o j q z => by unfold q_tn q_tf at z; omega), k7.dif (ch := q_tn) E (fun o j q z => by unfold q_tn q_tf at z; omega), ?_, ?_⟩
      · rw [E' 34 1 (by omega)]; exact hI.2.1.1
      · rw [mg_c (by decide), hc9, pu_eq]; decide
      · rw [mg_r (by decide), mg_c (by decide), hc9, pu_eq, j4]
      · rw [mg_c (by decide), hc9, pu_eq] at i1
        omega
      · rw [mg_c (by decide), mg_r (by decide), hc9, pu_ob (by decide), pu_ob (by decide), pu_ob (by decide), n3 0 (by omega), m4 0 (by omega), hc5, pu_eq, j5 _ _ (by omega)]
        exact i4.2.2.symm
      · have l1 : mg c9 r5 1 1 = 0 := by rw [mg_c (by decide), hc9, pu_ob (by decide), pu_ob (by decide), pu_ob (by decide), n3 1 (by omega), m4 1 (by omega), hc5, pu_ob (by decide), pu_eq]
        have l2 : mg c9 r5 133 2 = 0 := by rw [mg_r (by decide), j5 _ _ (by omega), i7 _ _ (by omega), r22]
        exact ⟨by rw [l1, l2], by rw [l1]; decide, fun i i0 i1 => by rw [l1] at i1; omega⟩
    · intro o j o1
      rw [CC o j (by omega), i6 o j (by omega), cs3 o j (by omega) (by omega)]
    · intro o j o1
      rw [j5 o j (by omega), i7 o j (by omega), rs2 o j (by omega) (by omega)]
  · obtain ⟨q1, q2, q3, q4, q5⟩ := i3
    obtain ⟨c5, hc5⟩ : ∃ c5, c5 = mm_up (mm_up c4 1 1 0) 0 13 (c4 1 8) := ⟨_, rfl⟩
    have endT : mm_M mm_prog (d + 99) 145 [(20, 0)] c4 = some (1, c5) := by
      have q0 : (mm_up c4 1 1 0) 1 8 = c4 1 8 := pu_sl (by decide)
      rw [e_X11_endText]
      simp only [show (0 : Int) + 1 = 1 from rfl, q0]
      rw [← hc5, if_neg (by rw [hc5, pu_ob (by decide), q0]; exact q2)]
    have c59 : c5 1 9 = c4 1 9 := by rw [hc5, pu_ob (by decide), pu_sl (by decide)]
    refine ⟨-1 - c4 1 9, c5, r4, ?_, ?_, ?_, ?_, ?_⟩
    · rw [cpre, i1, Option.bind_some]
      dsimp only
      rw [endT, Option.bind_some]
      show (if (1 : Int) = 0 then _ else _) = _
      rw [if_neg (by decide)]
      dsimp only
      rw [c59, pu_w (by omega) (by omega)]
    · rw [rpre]
      exact mm_R_dp i2
    · refine Inv_tf hI (mg_up (fun o j o1 q => by
        unfold q_tf at q
        rw [hc5, pu_up, if_neg (by omega), pu_up, if_neg (by omega), i4 o j (by omega), cs3 o j (by omega) (by omega)]) (fun o j o1 q => by
        unfold q_tf at q
        rw [i5 o j (by omega), rs2 o j (by omega) (by omega)])) ?_ ?_ ?_
      · rw [mg_c (by decide), mg_r (by decide), hc5, pu_eq, q3]
      · rw [mg_c (by decide), hc5, pu_ob (by decide), pu_eq]
      · rw [mg_r (by decide), i5 _ _ (by omega), r22]
    · intro o j o1
      rw [hc5, pu_up, if_neg (by omega), pu_up, if_neg (by omega), i4 o j (by omega), cs3 o j (by omega) (by omega)]
    · intro o j o1
      rw [i5 o j (by omega), rs2 o j (by omega) (by omega)]
