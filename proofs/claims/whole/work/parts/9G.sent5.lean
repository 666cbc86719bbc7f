/-! The call sentence() -/
def q_sf (o k : Int) : Prop := o = 1 ∨ (o = 0 ∧ k = 13) ∨ (90 ≤ o ∧ o ≤ 93) ∨ (o = 133 ∧ (k = 0 ∨ (2 ≤ k ∧ k ≤ 13) ∨ (43 ≤ k ∧ k ≤ 46))) ∨ o = 152
def q_se (o k : Int) : Prop := q_sf o k ∨ (29 ≤ o ∧ o ≤ 32) ∨ (o = 135 ∧ 74 ≤ k)
theorem Inv_sf {h h' : mm_H} (hI : Inv h) (E : ∀ o k, ¬ q_sf o k → h' o k = h o k) (fa : h' 0 13 = h' 133 10) (l1 : h' 1 1 = 0) (l2 : h' 133 2 = 0) : Inv h' := by
  obtain ⟨c1, c2, c3, c4, c5, c6, c7, c8, c9⟩ := (Inv_iff.mp hI).2.2
  have E' := E
  unfold q_sf at E'
  exact hI.gen (ch := q_sf) E (fun o k q z => by unfold q_img at q; unfold q_sf at z; omega) (fun o k q z => by unfold q_town at q; unfold q_sf at z; omega) (fun o k q z => by unfold q_past at q; unfold q_sf at z; omega) (c3.dif (ch := q_sf) E (fun o k q z => by unfold q_sf at z; omega)) (c4.dif (ch := q_sf) E (fun o k q z => by unfold q_sf at z; omega)) (by rw [E' 0 14 (by omega), E' 133 34 (by omega)]; exact c5) (c6.dif (ch := q_sf) E (fun o k q z => by unfold q_sf at z; omega)) (c7.dif (ch := q_sf) E (fun o k q z => by unfold q_sf at z; omega)) fa ⟨by rw [l1, l2], by rw [l1]; decide, fun i i0 i1 => by rw [l1] at i1; omega⟩
theorem Inv_se {h h' : mm_H} (hI : Inv h) (E : ∀ o k, ¬ q_se o k → h' o k = h o k) (hE : SE h' 29 (h' 135)) (fa : h' 0 13 = h' 133 10) (l1 : h' 1 1 = 0) (l2 : h' 133 2 = 0) : Inv h' := by
  obtain ⟨hC, hA, c1, c2, c3, c4, c5, c6, c7, c8, c9⟩ := Inv_iff.mp hI
  have E' := E
  unfold q_se q_sf at E'
  have er : ∀ j, j < 74 → h' 135 j = h 135 j := fun j hj => E' 135 j (by omega)
  have W := hI.W
  refine Inv_iff.mpr ⟨⟨W_cg W (fun j j0 j1 => er j (by omega)), hI.T.cg W (fun j hj => er j (by omega)), ?_, ?_, ?_, hE⟩, ⟨?_, ?_, ?_, fun i i0 i1 => ?_⟩, c1.dif (by decide) (ch := q_se) E (fun o j q z => by unfold q_se q_sf at z; omega), c2.dif (by decide) (ch := q_se) E (fun o j q z => by unfold q_se q_sf at z; omega), c3.dif (ch := q_se) E (fun o j q z => by unfold q_se q_sf at z; omega), c4.dif (ch := q_se) E (fun o j q z => by unfold q_se q_sf at z; omega), by rw [E' 0 14 (by omega), E' 133 34 (by omega)]; exact c5, c6.dif (ch := q_se) E (fun o j q z => by unfold q_se q_sf at z; omega), c7.dif (ch := q_se) E (fun o j q z => by unfold q_se q_sf at z; omega), fa, ⟨by rw [l1, l2], by rw [l1]; decide, fun i i0 i1 => by rw [l1] at i1; omega⟩⟩
  · exact (P_cg hI.P W (fun j j0 j1 => er j (by omega))).ob (fun o h0 h1 _ k => E' o k (by omega))
  · exact (hI.M.cg W (fun j hj => er j (by omega))).ob (fun o h0 h1 k => E' o k (by omega))
  · have hN := hC.2.2.2.2.1
    exact (hN.cg (x := h' 135) (fun j hj => er j (by omega))).ob (fun k => E' _ k (by omega)) (fun k => E' 140 k (by omega))
  · rw [E' 34 1 (by omega)]; exact hA.1
  · rw [E' 34 2 (by omega)]; exact hA.2.1
  · rw [E' 34 2 (by omega), E' 133 24 (by omega)]; exact hA.2.2.1
  · rw [E' 34 2 (by omega)] at i1
    have q := hA.2.2.2 i i0 i1
    have es : ∀ j, (j < 5 ∨ (48 ≤ j ∧ j < 74)) → f_snap h' (h' 135) i j = f_snap h (h 135) i j := by
      intro j hj
      unfold f_snap
      by_cases z : 48 ≤ j ∧ j < 74
      · rw [if_pos z, if_pos z, E' 138 _ (by omega)]
      · rw [if_neg z, if_neg z, er j (by omega)]
    have W9 : pr_W (f_snap h (h 135) i) := hd.W (V := h 135) (fun j hj => if_neg (by omega)) W
    rw [E' 34 1 (by omega), E' 34 2 (by omega)]
    have ma := hA.1
    have mb := hA.2.1
    exact ⟨q.1.cg W9 es, (q.2.ob (fun o h0 h1 k => E' o k (by omega))).cg W9 es⟩
theorem rf_sent77 {r : mm_H} (d : Nat) : mm_R mm_prog d T_X12_sentence 77 [(21, 133), (0, 0)] [] r = some (r 133 44, mm_cp r 152 0 135 76 240) := by
  obtain ⟨s1, r1, x1⟩ := sp_it_rel (R := fun i s => mm_R mm_prog d T_X12_sentence 77 [(21, 133), (0, i)] [] s) (f := fun _ (x : Unit) => x) (I := fun i s _ => s = mm_cp r 152 0 135 76 i) (N := 240) (fun i s y i0 i1 hs => by
    subst hs
    refine ⟨_, ?_, rfl⟩
    rw [e_X12_sentence_77, if_pos i1, if_pos ⟨i0, i1⟩, pu_w (x := 76 + i) (by omega) (by omega), pu_w (x := i + 1) (by omega) (by omega), if_pos (by omega), r135, show (133 : Int) + 19 = 152 from rfl, ← cp_step r (by decide) i0, Int.zero_add]) 240 0 r () (by decide) (by decide) (cp_0 _ _ _ _ _).symm
  have r1' : mm_R mm_prog d T_X12_sentence 77 [(21, 133), (0, 0)] [] r = mm_R mm_prog d T_X12_sentence 77 [(21, 133), (0, 240)] [] s1 := r1
  rw [r1', e_X12_sentence_77, if_neg (by decide), x1, cp_ob (by decide)]
theorem k_sentence : Cal 140 278 [] := by
  refine Cal_of (fun d c r hI => ?_)
  obtain ⟨ta, tb, tc⟩ := TA_mg (hI.2.2.2.2.2.2.2.2.2.2)
  obtain ⟨n, hn⟩ : ∃ n, n = c 1 1 := ⟨_, rfl⟩
  rw [← hn] at ta tb tc
  obtain ⟨c1, r1, p1, t1, e1, e2, e3, e4, e5, e6, e7⟩ := tx_begin (most := 200) hn.symm ta.symm tb tc (by decide) (d + 94) (d + 94)
  obtain ⟨c2, hc2⟩ : ∃ c2, c2 = mm_up (mm_up c1 90 3 0) 90 4 0 := ⟨_, rfl⟩
  obtain ⟨r2, hr2⟩ : ∃ r2, r2 = mm_up (mm_up (mm_up r1 133 43 0) 133 44 0) 133 45 0 := ⟨_, rfl⟩
  have cs2 : ∀ o k, ¬ ((o = 1 ∧ 2 ≤ k ∧ k ≤ 9) ∨ o = 90) → c2 o k = c o k := fun o k q => by
    rw [hc2, pu_ob (by omega), pu_ob (by omega), e5 _ _ (by omega)]
  have rs2 : ∀ o k, ¬ (o = 133 ∧ (k = 0 ∨ (2 ≤ k ∧ k ≤ 12) ∨ (43 ≤ k ∧ k ≤ 45))) → r2 o k = r o k := fun o k q => by
    rw [hr2, pu_up, if_neg (by omega), pu_up, if_neg (by omega), pu_up, if_neg (by omega), e6 _ _ (by omega)]
  have h2 : TF c2 r2 n 200 p1 t1 := e3.cg (fun k => by rw [hc2, pu_ob (by decide), pu_ob (by decide)]) (fun k => by rw [hc2, pu_ob (by decide), pu_ob (by decide)]) (fun k k0 k1 => by rw [hr2, pu_sl (by omega), pu_sl (by omega), pu_sl (by omega)]) (fun k => by rw [hr2, pu_ob (by decide), pu_ob (by decide), pu_ob (by decide)])
  have X := BX_mg hI
  have X2 : BX c2 r2 := X.cg (fun o h0 h1 => funext fun k => cs2 o k (by omega)) (funext fun k => rs2 _ k (by omega)) (funext fun k => rs2 _ k (by omega))
  have S2 : SN c2 r2 0 0 0 := ⟨⟨by rw [hc2, pu_sl (by decide), pu_eq], by rw [hr2, pu_sl (by decide), pu_sl (by decide), pu_eq], by rw [hc2, pu_eq], by rw [hr2, pu_sl (by decide), pu_eq], by rw [hr2, pu_eq]⟩, by decide, by decide, by decide⟩
  have r22 : r2 133 2 = 0 := by rw [hr2, pu_sl (by decide), pu_sl (by decide), pu_sl (by decide)]; exact e7
  have n90 : (0 : Int) + 90 = 90 := rfl
  have n29 : (0 : Int) + 14 + 15 = 29 := rfl
  have cpre : mm_M mm_prog (d + 100) 140 [(20, 0)] c = ((mm_M mm_prog (d + 99) 70 [(17, 90), (18, 1), (14, 15)] c1).bind fun o2 => ((mm_M mm_prog (d + 99) 145 [(20, 0)] o2.2).bind fun o5 => (if o5.1 = 0 then ((mm_M mm_prog (d + 99) 69 [(17, 29), (17, 90)] o5.2).bind fun o6 => (some (o6.2 29 4, o6.2))) else (some (mm_w ((-1) - (o5.2 1 9)), o5.2))))) := by
    rw [e_X11_sentence]
    simp only [n15, n90, n29, show (0 : Int) + 1 = 1 from rfl]
    rw [e1, Option.bind_some]
  have spre : mm_M mm_prog (d + 99) 70 [(17, 90), (18, 1), (14, 15)] c1 = ((mm_M mm_prog (d + 98) 71 [(17, 90), (18, 1), (14, 15), (0, 1)] c2).bind fun o2 => (if o2.1 = 0 then (some (0, o2.2)) else ((mm_M mm_prog (d + 98) 91 [(18, 1), (2, 0)] o2.2).bind fun o3 => (if o3.1 = 0 then (some (0, o3.2)) else (some (1, o3.2)))))) := by
    rw [e_X7_readSentence, e_X7_clear, Option.bind_some, ← hc2]
  have rpre : mm_M mm_prog (d + 100) 278 [(21, 133)] r = ((mm_M mm_prog (d + 99) 271 [(21, 133)] r2).bind fun o2 => (if o2.1 = 0 then (some (mm_w ((-1) - (o2.2 133 11)), o2.2)) else (if o2.2 133 7 = 0 then (mm_R mm_prog (d + 99) T_X12_sentence 77 [(21, 133), (0, 0)] [] (mm_up (mm_up o2.2 135 74 1) 135 75 ((mm_up o2.2 135 74 1) 133 46))) else ((mm_M mm_prog (d + 99) 174 [(21, 133), (0, 1)] o2.2).bind fun o3 => (some (mm_w ((-1) - (o3.2 133 11)), o3.2)))))) := by
    rw [e_X12_sentence]
    simp only [r135]
    rw [e2, Option.bind_some]
    dsimp only
    rw [← hr2]
  -- a FAULT on both sides
  have bad : ∀ (c4 r4 : mm_H), FL c4 r4 → wS c2 c4 → xS r2 r4 → mm_M mm_prog (d + 100) 140 [(20, 0)] c = ((mm_M mm_prog (d + 99) 145 [(20, 0)] c4).bind fun o3 => (if o3.1 = 0 then ((mm_M mm_prog (d + 99) 69 [(17, 29), (17, 90)] o3.2).bind fun o4 => (some (o4.2 29 4, o4.2))) else (some (mm_w ((-1) - (o3.2 1 9)), o3.2)))) → mm_M mm_prog (d + 100) 278 [(21, 133)] r = some (mm_w (-1 - r4 133 11), r4) → ∃ k c' r', mm_M mm_prog (d + 100) 140 [(20, 0)] c = some (k, c') ∧ mm_M mm_prog (d + 100) 278 [(21, 133)] r = some (k, r') ∧ Inv (mg c' r') ∧ (∀ o j, 133 ≤ o → c' o j = c o j) ∧ (∀ o j, o < 133 → r' o j = r o j) := by
    intro c4 r4 i3 i4 i5 hc hr
    obtain ⟨q1, q2, q3, q4, q5⟩ := i3
    obtain ⟨c5, hc5⟩ : ∃ c5, c5 = mm_up (mm_up c4 1 1 0) 0 13 (c4 1 8) := ⟨_, rfl⟩
    have endT : mm_M mm_prog (d + 99) 145 [(20, 0)] c4 = some (1, c5) := by
      have q0 : (mm_up c4 1 1 0) 1 8 = c4 1 8 := pu_sl (by decide)
      rw [e_X11_endText]
      simp only [show (0 : Int) + 1 = 1 from rfl, q0]
      rw [← hc5, if_neg (by rw [hc5, pu_ob (by decide), q0]; exact q2)]
    have c59 : c5 1 9 = c4 1 9 := by rw [hc5, pu_ob (by decide), pu_sl (by decide)]
    have cs5 : ∀ o k, ¬ (o = 1 ∨ (o = 0 ∧ k = 13) ∨ (90 ≤ o ∧ o ≤ 93)) → c5 o k = c o k := fun o k q => by
      rw [hc5, pu_up, if_neg (by omega), pu_up, if_neg (by omega), i4 o k (by omega), cs2 o k (by omega)]
    have rs4 : ∀ o k, ¬ ((o = 133 ∧ (k = 0 ∨ (2 ≤ k ∧ k ≤ 13) ∨ (43 ≤ k ∧ k ≤ 46))) ∨ o = 152) → r4 o k = r o k := fun o k q => by
      rw [i5 o k (by omega), rs2 o k (by omega)]
    refine ⟨-1 - c4 1 9, c5, r4, ?_, ?_, ?_, fun o j o1 => cs5 o j (by omega), fun o j o1 => rs4 o j (by omega)⟩
    · rw [hc, endT, Option.bind_some]
      show (if (1 : Int) = 0 then _ else _) = _
      rw [if_neg (by decide)]
      dsimp only
      rw [c59, pu_w (by omega) (by omega)]
    · rw [hr, q4, pu_w (by omega) (by omega)]
    · refine Inv_sf hI (mg_up (fun o j o1 q => ?_) (fun o j o1 q => ?_)) ?_ ?_ ?_
      · unfold q_sf at q
        exact cs5 o j (by omega)
      · unfold q_sf at q
        exact rs4 o j (by omega)
      · rw [mg_c (by decide), mg_r (by decide), hc5, pu_eq, q3]
      · rw [mg_c (by decide), hc5, pu_ob (by decide), pu_eq]
      · rw [mg_r (by decide), i5 _ _ (by omega), r22]
  rcases p_cond (p_all (p_one 8)) (d + 64) (d + 57) c2 r2 n 200 p1 t1 0 0 0 h2 X2 S2 (by decide) with ⟨c3, r3, p3, t3, s1, o1, f1, f2, f3, f4, f5, f6⟩ | ⟨c3, r3, f1, f2, f3, f4, f5⟩
  · have f1' : mm_M mm_prog (d + 98) 71 [(17, 90), (18, 1), (14, 15), (0, 1)] c2 = some (1, c3) := f1
    have f2' : mm_M mm_prog (d + 99) 271 [(21, 133)] r2 = some (1, r3) := f2
    have k0 := f3.1.2.2.2.2.2.2.k0
    rcases tf_take (w := 0) f3 (by decide) (by decide) (d + 93) (d + 95) with ⟨z, c4, r4, p4, t4, i1, i2, i3, i4, i5, i6⟩ | ⟨z, c4, r4, i1, i2, i3, i4, i5⟩
    · obtain ⟨⟨g1, g2, g3, g4, g5⟩, gb, gt, gl, gs, gv, -, -⟩ := f4
      obtain ⟨a, ha⟩ : ∃ a, a = r3 133 46 := ⟨_, rfl⟩
      rw [← ha] at gt gl gs gv
      have c48 : c4 1 8 = 0 := i3.2.1
      obtain ⟨c5, hc5⟩ : ∃ c5, c5 = mm_up (mm_up c4 1 1 0) 0 13 0 := ⟨_, rfl⟩
      have endT : mm_M mm_prog (d + 99) 145 [(20, 0)] c4 = some (0, c5) := by
        have q0 : (mm_up c4 1 1 0) 1 8 = 0 := by rw [pu_sl (by decide)]; exact c48
        rw [e_X11_endText]
        simp only [show (0 : Int) + 1 = 1 from rfl, q0]
        rw [← hc5, if_pos (by rw [hc5, pu_ob (by decide)]; exact q0)]
      have cs5 : ∀ o k, ¬ (o = 1 ∨ (o = 0 ∧ k = 13) ∨ (90 ≤ o ∧ o ≤ 93)) → c5 o k = c o k := fun o k q => by
        rw [hc5, pu_up, if_neg (by omega), pu_up, if_neg (by omega), i5.ob (by omega), f5 o k (by omega), cs2 o k (by omega)]
      have c53 : ∀ o k, 90 ≤ o → o ≤ 93 → c5 o k = c3 o k := fun o k h0 h1 => by
        rw [hc5, pu_ob (by omega), pu_ob (by omega), i5.ob (by omega)]
      obtain ⟨c6, j1, j2, j3, j4⟩ := cl_copyS (h := c5) (a := 29) (b := 90) (by decide) (d + 98)
      obtain ⟨r4', hr4⟩ : ∃ r4', r4' = mm_up (mm_up r3 135 74 1) 135 75 a := ⟨_, rfl⟩
      obtain ⟨r5, hr5⟩ : ∃ r5, r5 = mm_cp r4' 152 0 135 76 240 := ⟨_, rfl⟩
      have rs3 : ∀ o k, ¬ ((o = 133 ∧ (k = 0 ∨ (2 ≤ k ∧ k ≤ 13) ∨ (43 ≤ k ∧ k ≤ 46))) ∨ o = 152) → r3 o k = r o k := fun o k q => by
        rw [f6 o k (by omega), rs2 o k (by omega)]
      have rs5 : ∀ o k, ¬ ((o = 133 ∧ (k = 0 ∨ (2 ≤ k ∧ k ≤ 13) ∨ (43 ≤ k ∧ k ≤ 46))) ∨ o = 152 ∨ (o = 135 ∧ 74 ≤ k)) → r5 o k = r o k := fun o k q => by
        rw [hr5, cp_out (by omega), hr4, pu_up, if_neg (by omega), pu_up, if_neg (by omega), rs3 o k (by omega)]
      have r53 : ∀ k, r5 133 k = r3 133 k := fun k => by rw [hr5, cp_ob (by decide), hr4, pu_ob (by decide), pu_ob (by decide)]
      have cs6 : ∀ o k, ¬ (29 ≤ o ∧ o ≤ 32) → c6 o k = c5 o k := fun o k q => j4 o (by omega) k
      refine ⟨o1, c6, r5, ?_, ?_, ?_, fun o j o1 => by rw [cs6 o j (by omega), cs5 o j (by omega)], fun o j o1 => rs5 o j (by omega)⟩
      · have s70 : mm_M mm_prog (d + 99) 70 [(17, 90), (18, 1), (14, 15)] c1 = some (1, c4) := by
          rw [spre, f1', Option.bind_some]
          show (if (1 : Int) = 0 then _ else _) = _
          rw [if_neg (by decide)]
          dsimp only
          rw [i1, Option.bind_some]
          all_goals rfl
        rw [cpre, s70, Option.bind_some]
        dsimp only
        rw [endT, Option.bind_some]
        show (if (0 : Int) = 0 then _ else _) = _
        rw [if_pos rfl]
        dsimp only
        rw [j1, Option.bind_some]
        dsimp only
        rw [j2.2, c53 _ _ (by decide) (by decide), g3]
      · rw [rpre, f2', Option.bind_some]
        show (if (1 : Int) = 0 then _ else _) = _
        rw [if_neg (by decide)]
        dsimp only
        rw [if_pos (k0.mpr z), pu_ob (show (133 : Int) ≠ 135 by decide), ← ha, ← hr4, rf_sent77, ← hr5, hr4, pu_ob (by decide), pu_ob (by decide), g4]
      · have V74 : r5 135 74 = 1 := by rw [hr5, cp_out (by omega), hr4, pu_sl (by decide), pu_eq]
        have V75 : r5 135 75 = a := by rw [hr5, cp_out (by omega), hr4, pu_eq]
        have V2 : r5 135 2 = r2 135 2 := by rw [rs5 _ _ (by omega), rs2 _ _ (by omega)]
        have V3 : r5 135 3 = r2 135 3 := by rw [rs5 _ _ (by omega), rs2 _ _ (by omega)]
        have nod : ∀ j, 0 ≤ j → j < 240 → f_nod (r5 135) j = r3 152 j := fun j j0 j1 => by
          unfold f_nod
          rw [if_pos j0, hr5, cp_at (by omega) (by omega), hr4, pu_ob (by decide), pu_ob (by decide)]
          congr 1
          omega
        obtain ⟨t1', t2', t3'⟩ := tr_le (show s1.toNat ≤ 60 by omega) gt
        have wf := tr_wf 60 a (Nat.le_refl _) t1'
        obtain ⟨w1, w2, w3⟩ := f_wf_cg nod 60 a wf
        refine Inv_se hI (mg_up (fun o j o1 q => ?_) (fun o j o1 q => ?_)) ?_ ?_ ?_ ?_
        · unfold q_se q_sf at q
          rw [cs6 o j (by omega), cs5 o j (by omega)]
        · unfold q_se q_sf at q
          exact rs5 o j (by omega)
        · rw [mg_rr (o := 135) (by decide)]
          unfold SE
          rw [V74, V75, V2, V3, w2, w3, t2', t3', mg_c (by decide), mg_c (by decide), j2.1, j2.2, c53 _ _ (by decide) (by decide), c53 _ _ (by decide) (by decide), g1, g3]
          refine Or.inr ⟨rfl, by omega, w1, by omega, by omega, by omega, fun i hi => ?_⟩
          have hi' : (i : Int) < s1 := by omega
          have q := gs i hi
          rw [Int.zero_add, ← c53 91 _ (by decide) (by decide), ← c53 92 _ (by decide) (by decide), ← c53 93 _ (by decide) (by decide)] at q
          have e := j3 (i : Int) (by omega) (by omega)
          rw [mg_c (by decide), mg_c (by decide), mg_c (by decide), e.1, e.2.1, e.2.2]
          exact q
        · rw [mg_c (by decide), mg_r (by decide), cs6 _ _ (by decide), hc5, pu_eq, r53]
          exact f3.2.2.symm
        · rw [mg_c (by decide), cs6 _ _ (by decide), hc5, pu_ob (by decide), pu_eq]
        · rw [mg_r (by decide), r53, f6 _ _ (by omega), r22]
    · refine bad c4 r4 i3 (f5.tr i4.s) (f6.tr i5.s) ?_ ?_
      · have s70 : mm_M mm_prog (d + 99) 70 [(17, 90), (18, 1), (14, 15)] c1 = some (0, c4) := by
          rw [spre, f1', Option.bind_some]
          show (if (1 : Int) = 0 then _ else _) = _
          rw [if_neg (by decide)]
          dsimp only
          rw [i1, Option.bind_some]
          all_goals rfl
        rw [cpre, s70, Option.bind_some]
        all_goals rfl
      · rw [rpre, f2', Option.bind_some]
        show (if (1 : Int) = 0 then _ else _) = _
        rw [if_neg (by decide)]
        dsimp only
        rw [if_neg (fun q => z (k0.mp q)), i2, Option.bind_some]
  · have f1' : mm_M mm_prog (d + 98) 71 [(17, 90), (18, 1), (14, 15), (0, 1)] c2 = some (0, c3) := f1
    have f2' : mm_M mm_prog (d + 99) 271 [(21, 133)] r2 = some (0, r3) := f2
    refine bad c3 r3 f3 f4 f5 ?_ ?_
    · have s70 : mm_M mm_prog (d + 99) 70 [(17, 90), (18, 1), (14, 15)] c1 = some (0, c3) := by
        rw [spre, f1', Option.bind_some]
        all_goals rfl
      rw [cpre, s70, Option.bind_some]
      all_goals rfl
    · rw [rpre, f2', Option.bind_some]
      rfl
