/-! Images -/
theorem tv_n {x : Int} (h : x < 0) : mm_tv 6 x = (6, 0) := by
  show (if x < 0 then ((6, 0) : mm_V) else (16, x)) = _
  rw [if_pos h]
theorem tv_p {x : Int} (h : ¬ x < 0) : mm_tv 6 x = (16, x) := by
  show (if x < 0 then ((6, 0) : mm_V) else (16, x)) = _
  rw [if_neg h]
theorem cp_0 (h : mm_H) (a i b j : Int) : mm_cp h a i b j 0 = h := by
  funext o k
  unfold mm_cp
  rw [if_neg (by omega)]
theorem cp_step (h : mm_H) {a i b j n : Int} (hab : a ≠ b) (hn : 0 ≤ n) : mm_up (mm_cp h a i b j n) b (j + n) (mm_cp h a i b j n a (i + n)) = mm_cp h a i b j (n + 1) := by
  funext o k
  rw [cp_ob hab]
  unfold mm_up mm_cp
  by_cases c : o = b ∧ k = j + n
  · rw [if_pos c, if_pos (by omega), c.2]
    congr 1
    omega
  · rw [if_neg c]
    by_cases c2 : o = b ∧ j ≤ k ∧ k < j + n
    · rw [if_pos c2, if_pos (by omega)]
    · rw [if_neg c2, if_neg (by omega)]
theorem cp_at {h : mm_H} {a i b j n k : Int} (h0 : j ≤ k) (h1 : k < j + n) : mm_cp h a i b j n b k = h a (i + (k - j)) := by
  unfold mm_cp
  rw [if_pos ⟨rfl, h0, h1⟩]
theorem cp_out {h : mm_H} {a i b j n o k : Int} (hn : ¬ (o = b ∧ j ≤ k ∧ k < j + n)) : mm_cp h a i b j n o k = h o k := if_neg hn
section
variable {V : Int → Int} {h : mm_H}
theorem cl_copyP {a b : Int} (hP : pr_P h b V) (hW : pr_W V) (hj : a + 9 < b ∨ b + 9 < a) (d : Nat) : ∃ h', mm_M mm_prog (d + 1) 50 [(14, a), (14, b)] h = some (0, h') ∧ pr_P h' a V ∧ (∀ k, 0 ≤ k → k < 28 → h' (a + 2) k = h (b + 2) k) ∧ ∀ o, (o < a ∨ a + 9 < o) → ∀ k, h' o k = h o k := by
  have w1 := hW.2.1
  have w2 := hW.2.2.1
  have w3 := hW.2.2.2.1
  have w4 := hW.2.2.2.2.1
  obtain ⟨a0, a1, a2, a3, a4, a5, a6⟩ := hP
  rw [e_X4_copyFrom]
  refine ⟨_, rfl, ⟨?_, ?_, fun s h0 h1 => ?_, fun s h0 h1 => ?_, fun s h0 h1 => ⟨?_, ?_⟩, fun s h0 h1 => ⟨?_, ?_, ?_⟩, fun s h0 h1 => ?_⟩, fun k h0 h1 => ?_, fun o ho k => ?_⟩
  · simp (disch := omega) only [cp_ob, pu_sl, pu_eq]
    exact a0
  · simp (disch := omega) only [cp_ob, pu_sl, pu_ob, pu_eq]
    exact a1
  · simp (disch := omega) only [cp_ob]
    rw [cp_in h0 (by omega)]
    simp (disch := omega) only [pu_ob]
    exact a2 s h0 h1
  · simp (disch := omega) only [cp_ob]
    rw [cp_in h0 (by omega)]
    simp (disch := omega) only [cp_ob, pu_ob]
    exact a3 s h0 h1
  · simp (disch := omega) only [cp_ob]
    rw [cp_in h0 (by omega)]
    simp (disch := omega) only [cp_ob, pu_ob]
    exact (a4 s h0 h1).1
  · simp (disch := omega) only [cp_ob]
    rw [cp_in h0 (by omega)]
    simp (disch := omega) only [cp_ob, pu_ob]
    exact (a4 s h0 h1).2
  · simp (disch := omega) only [cp_ob]
    rw [cp_in h0 (by omega)]
    simp (disch := omega) only [cp_ob, pu_ob]
    exact (a5 s h0 h1).1
  · simp (disch := omega) only [cp_ob]
    rw [cp_in h0 (by omega)]
    simp (disch := omega) only [cp_ob, pu_ob]
    exact (a5 s h0 h1).2.1
  · simp (disch := omega) only [cp_ob]
    rw [cp_in h0 (by omega)]
    simp (disch := omega) only [cp_ob, pu_ob]
    exact (a5 s h0 h1).2.2
  · rw [cp_in h0 (by omega)]
    simp (disch := omega) only [cp_ob, pu_ob]
    exact a6 s h0 h1
  · simp (disch := omega) only [cp_ob]
    rw [cp_in h0 (by omega)]
    simp (disch := omega) only [cp_ob, pu_ob]
  · simp (disch := omega) only [cp_ob, pu_ob]
theorem cl_copyS {a b : Int} (hj : a + 3 < b ∨ b + 3 < a) (d : Nat) : ∃ h', mm_M mm_prog (d + 1) 69 [(17, a), (17, b)] h = some (0, h') ∧ (h' a 3 = h b 3 ∧ h' a 4 = h b 4) ∧ (∀ i, 0 ≤ i → i < 40 → h' (a + 1) i = h (b + 1) i ∧ h' (a + 2) i = h (b + 2) i ∧ h' (a + 3) i = h (b + 3) i) ∧ ∀ o, (o < a ∨ a + 3 < o) → ∀ k, h' o k = h o k := by
  rw [e_X7_copyFrom, pu_ob (o' := b) (by omega)]
  obtain ⟨g, hg⟩ : ∃ g, g = mm_up (mm_up h a 3 (h b 3)) a 4 (h b 4) := ⟨_, rfl⟩
  have g1 : ∀ o, o ≠ a → ∀ k, g o k = h o k := fun o ho k => by rw [hg, pu_ob ho, pu_ob ho]
  rw [← hg]
  obtain ⟨s1, r1, A, B, C⟩ := sp_it_rel (R := fun i s => mm_R mm_prog d T_X7_copyFrom 18 [(17, a), (17, b), (0, i)] [] s) (f := fun _ (x : Unit) => x) (I := fun i s _ => (∀ k, s a k = g a k) ∧ (∀ j, 0 ≤ j → j < i → s (a + 1) j = h (b + 1) j ∧ s (a + 2) j = h (b + 2) j ∧ s (a + 3) j = h (b + 3) j) ∧ ∀ o, (o < a ∨ a + 3 < o) → ∀ k, s o k = h o k) (N := 40) (fun i s x i0 i1 hI => by
    obtain ⟨A, B, C⟩ := hI
    have c6 : 0 ≤ i ∧ i < 40 := ⟨i0, i1⟩
    rw [e_X7_copyFrom_18, if_pos i1, if_pos c6, if_pos c6, if_pos c6, if_pos c6, if_pos c6, if_pos c6, pu_w (by omega) (by omega)]
    simp (disch := omega) only [pu_ob (o' := b + 2), pu_ob (o' := b + 3)]
    rw [C (b + 1) (by omega), C (b + 2) (by omega), C (b + 3) (by omega)]
    refine ⟨_, rfl, fun k => ?_, fun j j0 j1 => ?_, fun o ho k => ?_⟩
    · rw [pu_ob (by omega), pu_ob (by omega), pu_ob (by omega)]
      exact A k
    · by_cases e : j = i
      · rw [e, pu_ob (by omega), pu_ob (by omega), pu_eq, pu_ob (by omega), pu_eq, pu_eq]
        exact ⟨rfl, rfl, rfl⟩
      · rw [pu_sl e, pu_sl e, pu_sl e, pu_sl e, pu_sl e, pu_sl e, pu_sl e, pu_sl e, pu_sl e]
        exact B j j0 (by omega)
    · rw [pu_ob (by omega), pu_ob (by omega), pu_ob (by omega)]
      exact C o ho k) 40 0 g () (by decide) (by decide) ⟨fun _ => rfl, fun j j0 j1 => by omega, fun o ho k => g1 o (by omega) k⟩
  refine ⟨s1, ?_, ⟨?_, ?_⟩, B, C⟩
  · rw [r1, e_X7_copyFrom_18, if_neg (by decide)]
  · rw [A 3, hg, pu_sl (by decide), pu_eq]
  · rw [A 4, hg, pu_eq]
theorem SE.cp {h' : mm_H} {a b : Int} (hE : SE h b V) (e3 : h' a 3 = h b 3) (e4 : h' a 4 = h b 4) (e : ∀ i, 0 ≤ i → i < 40 → h' (a + 1) i = h (b + 1) i ∧ h' (a + 2) i = h (b + 2) i ∧ h' (a + 3) i = h (b + 3) i) : SE h' a V := by
  unfold SE
  rw [e3, e4]
  rcases hE with q | ⟨q1, q2, q3, q4, q5, q6, q7⟩
  · exact Or.inl q
  · refine Or.inr ⟨q1, q2, q3, q4, q5, q6, fun i hi => ?_⟩
    obtain ⟨z1, z2, z3⟩ := e i (by omega) (by omega)
    rw [z1, z2, z3]
    exact q7 i hi
/-- a scene copied -/
theorem cl_copySc {a b nb no : Int} (hC : SC h b nb no V) (hj : a + 18 < b ∨ b + 18 < a) (d : Nat) : ∃ h', mm_M mm_prog (d + 3) 66 [(16, a), (16, b)] h = some (0, h') ∧ pr_P h' (a + 1) V ∧ pr_M h' (a + 11) V ∧ SE h' (a + 15) V ∧ (∀ k, 0 ≤ k → k < 28 → h' (a + 3) k = h (b + 3) k) ∧ ∀ o, (o < a + 1 ∨ a + 18 < o) → ∀ k, h' o k = h o k := by
  obtain ⟨cW, cT, cP, cM, cN, cS⟩ := hC
  obtain ⟨h1, e1, P1, N1, F1⟩ := cl_copyP (a := a + 1) cP cW (by omega) (d + 1)
  obtain ⟨h2, e2, M2, F2⟩ := cl_copyM (a := a + 11) (b := b + 11) (cM.ob (fun o h0 h1 k => F1 o (by omega) k)) cW cT.1 (by omega) (d + 1)
  obtain ⟨h3, e3, A3, B3, F3⟩ := cl_copyS (h := h2) (a := a + 15) (b := b + 15) (by omega) (d + 1)
  have E2 : ∀ o, b ≤ o → o ≤ b + 18 → ∀ k, h2 o k = h o k := fun o h0 h1 k => (F2 o (by omega) k).trans (F1 o (by omega) k)
  refine ⟨h3, ?_, ?_, ?_, ?_, fun k k0 k1 => ?_, fun o ho k => ?_⟩
  · rw [e_X6_copyFrom, e1, Option.bind_some]
    dsimp only
    rw [e2, Option.bind_some]
    dsimp only
    rw [e3, Option.bind_some]
  · exact P1.ob (fun o h0 h1 _ k => (F3 o (by omega) k).trans (F2 o (by omega) k))
  · exact M2.ob (fun o h0 h1 k => F3 o (by omega) k)
  · refine cS.cp (by rw [A3.1, E2 _ (by omega) (by omega)]) (by rw [A3.2, E2 _ (by omega) (by omega)]) (fun i i0 i1 => ?_)
    obtain ⟨z1, z2, z3⟩ := B3 i i0 i1
    rw [z1, z2, z3, E2 _ (by omega) (by omega), E2 _ (by omega) (by omega), E2 _ (by omega) (by omega)]
    exact ⟨rfl, rfl, rfl⟩
  · have := N1 k k0 k1
    rw [show a + 1 + 2 = a + 3 by omega, show b + 1 + 2 = b + 3 by omega] at this
    rw [F3 _ (by omega), F2 _ (by omega)]
    exact this
  · rw [F3 o (by omega), F2 o (by omega), F1 o (by omega)]
end
theorem rf_image {g : mm_H} {k : Int} (hk : 0 ≤ k ∧ k < 2) (d : Nat) : mm_R mm_prog d T_X12_image 18 [(21, 133), (0, k), (0, 0)] [] g = some (1, mm_up (mm_cp (mm_cp g 135 0 137 (316 * k) 316) 140 0 142 (22 * k) 22) 143 k 1) := by
  obtain ⟨s1, r1, x1⟩ := sp_it_rel (R := fun i s => mm_R mm_prog d T_X12_image 18 [(21, 133), (0, k), (0, i)] [] s) (f := fun _ (x : Unit) => x) (I := fun i s _ => s = mm_cp g 135 0 137 (316 * k) i) (N := 316) (fun i s y i0 i1 hs => by
    subst hs
    refine ⟨_, ?_, rfl⟩
    rw [e_X12_image_18, if_pos i1, if_pos ⟨i0, i1⟩, pu_w (x := 316 * k) (by omega) (by omega), pu_w (x := 316 * k + i) (by omega) (by omega), pu_w (x := i + 1) (by omega) (by omega), if_pos (by omega), r135, show (133 : Int) + 4 = 137 from rfl, ← cp_step g (by decide) i0, Int.zero_add]) 316 0 g () (by decide) (by decide) (cp_0 _ _ _ _ _).symm
  obtain ⟨s2, r2, x2⟩ := sp_it_rel (R := fun i s => mm_R mm_prog d T_X12_image 51 [(21, 133), (0, k), (0, i)] [] s) (f := fun _ (x : Unit) => x) (I := fun i s _ => s = mm_cp s1 140 0 142 (22 * k) i) (N := 22) (fun i s y i0 i1 hs => by
    subst hs
    refine ⟨_, ?_, rfl⟩
    rw [e_X12_image_51, if_pos i1, if_pos ⟨i0, i1⟩, pu_w (x := 22 * k) (by omega) (by omega), pu_w (x := 22 * k + i) (by omega) (by omega), pu_w (x := i + 1) (by omega) (by omega), if_pos (by omega), show (133 : Int) + 9 = 142 from rfl, show (133 : Int) + 7 = 140 from rfl, ← cp_step s1 (by decide) i0, Int.zero_add]) 22 0 s1 () (by decide) (by decide) (cp_0 _ _ _ _ _).symm
  rw [r1, e_X12_image_18, if_neg (by decide), r2, e_X12_image_51, if_neg (by decide), if_pos hk, x2, x1]
  rfl
theorem rf_restore {g : mm_H} {k : Int} (hk : 0 ≤ k ∧ k < 2) (d : Nat) : mm_R mm_prog d T_X12_restore 27 [(21, 133), (0, k), (0, 0)] [] g = some (1, mm_up (mm_cp (mm_cp g 137 (316 * k) 135 0 316) 142 (22 * k) 140 0 22) 133 24 0) := by
  obtain ⟨s1, r1, x1⟩ := sp_it_rel (R := fun i s => mm_R mm_prog d T_X12_restore 27 [(21, 133), (0, k), (0, i)] [] s) (f := fun _ (x : Unit) => x) (I := fun i s _ => s = mm_cp g 137 (316 * k) 135 0 i) (N := 316) (fun i s y i0 i1 hs => by
    subst hs
    refine ⟨_, ?_, rfl⟩
    rw [e_X12_restore_27, if_pos i1, pu_w (x := 316 * k) (by omega) (by omega), pu_w (x := 316 * k + i) (by omega) (by omega), pu_w (x := i + 1) (by omega) (by omega), if_pos (by omega), if_pos ⟨i0, i1⟩, r135, show (133 : Int) + 4 = 137 from rfl, ← cp_step g (by decide) i0, Int.zero_add]) 316 0 g () (by decide) (by decide) (cp_0 _ _ _ _ _).symm
  obtain ⟨s2, r2, x2⟩ := sp_it_rel (R := fun i s => mm_R mm_prog d T_X12_restore 60 [(21, 133), (0, k), (0, i)] [] s) (f := fun _ (x : Unit) => x) (I := fun i s _ => s = mm_cp s1 142 (22 * k) 140 0 i) (N := 22) (fun i s y i0 i1 hs => by
    subst hs
    refine ⟨_, ?_, rfl⟩
    rw [e_X12_restore_60, if_pos i1, pu_w (x := 22 * k) (by omega) (by omega), pu_w (x := 22 * k + i) (by omega) (by omega), pu_w (x := i + 1) (by omega) (by omega), if_pos (by omega), if_pos ⟨i0, i1⟩, show (133 : Int) + 9 = 142 from rfl, show (133 : Int) + 7 = 140 from rfl, ← cp_step s1 (by decide) i0, Int.zero_add]) 22 0 s1 () (by decide) (by decide) (cp_0 _ _ _ _ _).symm
  rw [r1, e_X12_restore_27, if_neg (by decide), r2, e_X12_restore_60, if_neg (by decide), x2, x1]
/-- what an image may change -/
def q_im (k o j : Int) : Prop := (95 + 19 * k ≤ o ∧ o ≤ 113 + 19 * k) ∨ (o = 137 ∧ 316 * k ≤ j ∧ j < 316 * k + 316) ∨ (o = 142 ∧ 22 * k ≤ j ∧ j < 22 * k + 22) ∨ (o = 143 ∧ j = k) ∨ (o = 133 ∧ j = 0)
theorem k_image (k : Int) : Cal 142 281 [(0, k)] := by
  intro d h hI
  by_cases c : 0 ≤ k ∧ k < 2
  · have hC := hI.1
    obtain ⟨h1, e1, P1, M1, S1, N1, F1⟩ := cl_copySc (a := 95 + 19 * k) (b := 14) hC (by omega) (d + 96)
    obtain ⟨h2, hh2⟩ : ∃ h2, h2 = mm_up h1 (95 + 19 * k) 3 1 := ⟨_, rfl⟩
    obtain ⟨g, hg⟩ : ∃ g, g = mm_up h2 133 0 0 := ⟨_, rfl⟩
    obtain ⟨h3, hh3⟩ : ∃ h3, h3 = mm_up (mm_cp (mm_cp g 135 0 137 (316 * k) 316) 140 0 142 (22 * k) 22) 143 k 1 := ⟨_, rfl⟩
    have Eg : ∀ o j, ¬ ((95 + 19 * k ≤ o ∧ o ≤ 113 + 19 * k) ∨ (o = 133 ∧ j = 0)) → g o j = h o j := fun o j q => by
      rw [hg, hh2]
      unfold mm_up
      rw [if_neg (by omega), if_neg (by omega), F1 o (by omega)]
    have E3 : ∀ o j, ¬ (o = 137 ∨ o = 142 ∨ o = 143) → h3 o j = g o j := fun o j q => by
      rw [hh3, pu_ob (by omega), cp_ob (by omega), cp_ob (by omega)]
    have E : ∀ o j, ¬ q_im k o j → h3 o j = h o j := fun o j q => by
      unfold q_im at q
      by_cases z : o = 137 ∨ o = 142 ∨ o = 143
      · rw [hh3]
        unfold mm_up
        rw [if_neg (by omega), cp_out (by omega), cp_out (by omega), Eg o j (by omega)]
      · rw [E3 o j z, Eg o j (by omega)]
    have n1 : ∀ o, 95 + 19 * k + 1 ≤ o → o ≤ 113 + 19 * k → ∀ j, h3 o j = h1 o j := fun o h0 h1 j => by
      rw [E3 o j (by omega), hg, pu_ob (by omega), hh2, pu_ob (by omega)]
    have img : IM h3 k := by
      have k1 : h3 143 k = 1 := by rw [hh3, pu_eq]
      have k2 : h3 (95 + 19 * k) 3 = 1 := by rw [E3 _ _ (by omega), hg, pu_ob (by omega), hh2, pu_eq]
      refine ⟨by rw [k1, k2], Or.inr ⟨k2, ?_⟩⟩
      have er : ∀ j, 0 ≤ j → j < 316 → f_img h3 k j = h 135 j := fun j j0 j1 => by
        unfold f_img
        rw [hh3, pu_ob (by decide), cp_ob (by decide), cp_at (by omega) (by omega), Eg _ _ (by omega)]
        congr 1
        omega
      refine SC.cg2 (V := h 135) ⟨hI.W, hI.T, P1.ob (fun o h0 h1 _ j => n1 o (by omega) (by omega) j), M1.ob (fun o h0 h1 j => n1 o (by omega) (by omega) j), fun s i s0 s1 i0 i1 => ?_, S1.ob (fun o h0 h1 j => n1 o (by omega) (by omega) j)⟩ er
      have mo := hI.W.most s0 s1 i0 i1
      have q := hC.2.2.2.2.1 s i s0 s1 i0 i1
      rw [n1 _ (by omega) (by omega), show 95 + 19 * k + 1 + 2 = 95 + 19 * k + 3 by omega, N1 _ (by omega) (by omega), hh3, pu_ob (by decide), cp_at (by omega) (by omega), cp_ob (by decide), Eg _ _ (by omega), show 0 + (22 * k + f_nb s + i - 22 * k) = 0 + f_nb s + i by omega]
      exact q
    obtain ⟨c1, c2, c3, c4, c5, c6, c7, c8, c9⟩ := (Inv_iff.mp hI).2.2
    refine ⟨1, h2, h3, ?_, ?_, ?_⟩
    · rw [e_X11_image, e_X11_imageAt, if_neg (by omega), if_pos c.2, if_pos c, show (0 : Int) + 33 + 62 + 19 * k = 95 + 19 * k by omega, Option.bind_some]
      dsimp only
      rw [tv_p (by omega), e_X11_image_5, show (0 : Int) + 14 = 14 from rfl, e1, Option.bind_some, hh2]
    · rw [e_X12_image, ← hg, rf_isIn, Option.bind_some, decide_eq_true (by omega)]
      show (if (1 : Int) = 0 then _ else _) = _
      rw [if_neg (by decide)]
      dsimp only
      rw [rf_image c, hh3]
    · have E' := E
      unfold q_im at E'
      have er : h3 135 = h 135 := funext fun j => E' 135 j (by omega)
      refine Inv_iff.mpr ⟨hC.dif (ch := q_im k) E (fun o j q z => by unfold q_im at z; omega), ?_, ?_, ?_, c3.dif (ch := q_im k) E (fun o j q z => by unfold q_im at z; omega), c4.dif (ch := q_im k) E (fun o j q z => by unfold q_im at z; omega), by rw [E' 0 14 (by omega), E' 133 34 (by omega)]; exact c5, c6.dif (ch := q_im k) E (fun o j q z => by unfold q_im at z; omega), c7.dif (ch := q_im k) E (fun o j q z => by unfold q_im at z; omega), by rw [E' 0 13 (by omega), E' 133 10 (by omega)]; exact c8, c9.dif (ch := q_im k) E (fun o j q z => by unfold q_im at z; omega)⟩
      · rw [er]
        exact hI.2.1.dif (ch := q_im k) hI.W (hd.rf _) E (fun o j q z => by unfold q_im at z; omega)
      · by_cases z : k = 0
        · rw [z] at img
          exact img
        · exact c1.dif (by decide) (ch := q_im k) E (fun o j q w => by unfold q_im at w; omega)
      · by_cases z : k = 1
        · rw [z] at img
          exact img
        · exact c2.dif (by decide) (ch := q_im k) E (fun o j q w => by unfold q_im at w; omega)
  · refine ⟨0, h, mm_up h 133 0 0, ?_, ?_, hI.th 0⟩
    · rw [e_X11_image, e_X11_imageAt]
      by_cases z : k < 0
      · rw [if_pos z, Option.bind_some]
        dsimp only
        rw [tv_n (by decide), e_X11_image_5n]
      · rw [if_neg z, if_neg (by omega), Option.bind_some]
        dsimp only
        rw [tv_n (by decide), e_X11_image_5n]
    · rw [e_X12_image, rf_isIn, Option.bind_some, decide_eq_false (by omega)]
      rfl
/-- what a restoring may change -/
def q_re (o j : Int) : Prop := (15 ≤ o ∧ o ≤ 32) ∨ o = 135 ∨ o = 140 ∨ (o = 34 ∧ j = 2) ∨ (o = 133 ∧ (j = 0 ∨ j = 24))
theorem k_restore (k : Int) : Cal 143 282 [(0, k)] := by
  intro d h hI
  by_cases c : 0 ≤ k ∧ k < 2
  · have him : IM h k := by
      by_cases z : k = 0
      · rw [z]; exact (Inv_iff.mp hI).2.2.1
      · rw [show k = 1 by omega]; exact (Inv_iff.mp hI).2.2.2.1
    obtain ⟨i1, i2⟩ := him
    rcases i2 with i2 | ⟨i2, hC⟩
    · refine ⟨0, h, mm_up h 133 0 0, ?_, ?_, hI.th 0⟩
      · rw [e_X11_restore, e_X11_imageAt, if_neg (by omega), if_pos c.2, if_pos c, show (0 : Int) + 33 + 62 + 19 * k = 95 + 19 * k by omega, Option.bind_some]
        dsimp only
        rw [tv_p (by omega), e_X11_restore_5, if_pos i2]
      · rw [e_X12_restore, rf_isIn, Option.bind_some, decide_eq_true (by omega)]
        show (if (1 : Int) = 0 then _ else _) = _
        rw [if_neg (by decide), if_pos c, show (133 : Int) + 10 = 143 from rfl]
        dsimp only
        rw [if_pos (show mm_up h 133 0 0 143 k = 0 by rw [pu_ob (by decide), i1]; exact i2)]
    · obtain ⟨h1, e1, P1, M1, S1, N1, F1⟩ := cl_copySc (a := 14) (b := 95 + 19 * k) hC (by omega) (d + 96)
      obtain ⟨h2, hh2⟩ : ∃ h2, h2 = mm_up h1 34 2 0 := ⟨_, rfl⟩
      obtain ⟨g, hg⟩ : ∃ g, g = mm_up h2 133 0 0 := ⟨_, rfl⟩
      obtain ⟨h3, hh3⟩ : ∃ h3, h3 = mm_up (mm_cp (mm_cp g 137 (316 * k) 135 0 316) 142 (22 * k) 140 0 22) 133 24 0 := ⟨_, rfl⟩
      have Eg : ∀ o j, ¬ ((15 ≤ o ∧ o ≤ 32) ∨ (o = 34 ∧ j = 2) ∨ (o = 133 ∧ j = 0)) → g o j = h o j := fun o j q => by
        rw [hg, hh2]
        unfold mm_up
        rw [if_neg (by omega), if_neg (by omega), F1 o (by omega)]
      have E3 : ∀ o j, ¬ (o = 135 ∨ o = 140 ∨ (o = 133 ∧ j = 24)) → h3 o j = g o j := fun o j q => by
        rw [hh3]
        unfold mm_up
        rw [if_neg (by omega), cp_ob (by omega), cp_ob (by omega)]
      have E : ∀ o j, ¬ q_re o j → h3 o j = h o j := fun o j q => by
        unfold q_re at q
        rw [E3 o j (by omega), Eg o j (by omega)]
      have n1 : ∀ o, 15 ≤ o → o ≤ 32 → ∀ j, h3 o j = h1 o j := fun o h0 h1 j => by
        rw [E3 o j (by omega), hg, pu_ob (by omega), hh2, pu_ob (by omega)]
      have er : ∀ j, 0 ≤ j → j < 316 → h3 135 j = f_img h k j := fun j j0 j1 => by
        unfold f_img
        rw [hh3, pu_ob (by decide), cp_ob (by decide), cp_at (by omega) (by omega), Eg _ _ (by omega)]
        congr 1
        omega
      obtain ⟨c1, c2, c3, c4, c5, c6, c7, c8, c9⟩ := (Inv_iff.mp hI).2.2
      have E' := E
      unfold q_re at E'
      refine ⟨1, h2, h3, ?_, ?_, ?_⟩
      · rw [e_X11_restore, e_X11_imageAt, if_neg (by omega), if_pos c.2, if_pos c, show (0 : Int) + 33 + 62 + 19 * k = 95 + 19 * k by omega, Option.bind_some]
        dsimp only
        rw [tv_p (by omega), e_X11_restore_5, if_neg (by omega), show (0 : Int) + 14 = 14 from rfl, e1, Option.bind_some]
        simp only [n34]
        rw [e_X3_forget, Option.bind_some, hh2]
      · rw [e_X12_restore, ← hg, rf_isIn, Option.bind_some, decide_eq_true (by omega)]
        show (if (1 : Int) = 0 then _ else _) = _
        rw [if_neg (by decide), if_pos c, show (133 : Int) + 10 = 143 from rfl]
        dsimp only
        rw [if_neg (show ¬ g 143 k = 0 by rw [Eg 143 k (by omega), i1]; omega), rf_restore c, hh3]
      · refine Inv_iff.mpr ⟨?_, ?_, c1.dif (by decide) (ch := q_re) E (fun o j q z => by unfold q_re at z; omega), c2.dif (by decide) (ch := q_re) E (fun o j q z => by unfold q_re at z; omega), c3.dif (ch := q_re) E (fun o j q z => by unfold q_re at z; omega), c4.dif (ch := q_re) E (fun o j q z => by unfold q_re at z; omega), by rw [E' 0 14 (by omega), E' 133 34 (by omega)]; exact c5, c6.dif (ch := q_re) E (fun o j q z => by unfold q_re at z; omega), c7.dif (ch := q_re) E (fun o j q z => by unfold q_re at z; omega), by rw [E' 0 13 (by omega), E' 133 10 (by omega)]; exact c8, c9.dif (ch := q_re) E (fun o j q z => by unfold q_re at z; omega)⟩
        · refine SC.cg2 (V := f_img h k) ⟨hC.1, hC.2.1, P1.ob (fun o h0 h1 _ j => n1 o (by omega) (by omega) j), M1.ob (fun o h0 h1 j => n1 o (by omega) (by omega) j), fun s i s0 s1 i0 i1 => ?_, S1.ob (fun o h0 h1 j => n1 o (by omega) (by omega) j)⟩ er
          have mo := hC.1.most s0 s1 i0 i1
          have q := hC.2.2.2.2.1 s i s0 s1 i0 i1
          rw [n1 _ (by omega) (by omega), show (14 : Int) + 1 + 2 = 14 + 3 by omega, N1 _ (by omega) (by omega), hh3, pu_ob (by decide), cp_at (by omega) (by omega), cp_ob (by decide), Eg _ _ (by omega), show 22 * k + (0 + f_nb s + i - 0) = 22 * k + f_nb s + i by omega, show 95 + 19 * k + 3 = 95 + 19 * k + 1 + 2 by omega]
          exact q
        · have a1 : h3 34 1 = h 34 1 := E' 34 1 (by omega)
          have a2 : h3 34 2 = 0 := by rw [E3 34 2 (by omega), hg, pu_ob (by decide), hh2, pu_eq]
          have a3 : h3 133 24 = 0 := by rw [hh3, pu_eq]
          unfold PA
          rw [a1, a2, a3]
          exact ⟨hI.2.1.1, by decide, rfl, fun i i0 i1 => by omega⟩
  · refine ⟨0, h, mm_up h 133 0 0, ?_, ?_, hI.th 0⟩
    · rw [e_X11_restore, e_X11_imageAt]
      by_cases z : k < 0
      · rw [if_pos z, Option.bind_some]
        dsimp only
        rw [tv_n (by decide), e_X11_restore_5n]
      · rw [if_neg z, if_neg (by omega), Option.bind_some]
        dsimp only
        rw [tv_n (by decide), e_X11_restore_5n]
    · rw [e_X12_restore, rf_isIn, Option.bind_some, decide_eq_false (by omega)]
      rfl
