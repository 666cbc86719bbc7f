/-! The tag: the call -/
theorem cl_nameOf {h : mm_H} {pl : Int} {V : Int → Int} (hP : pr_P h pl V) {s x : Int} (s0 : 0 ≤ s) (s1 : s < 4) (x0 : 0 ≤ x) (x1 : x < V (1 + s)) (x2 : x < 7) (d : Nat) : mm_M mm_prog (d + 2) 57 [(14, pl), (0, s), (0, x)] h = some (h (pl + 2) (7 * s + x), h) := by
  rw [e_X4_nameOf, cl_has hP s0 s1, Option.bind_some, decide_eq_true ⟨x0, x1⟩]
  show (if (1 : Int) = 0 then _ else _) = _
  rw [if_neg (by decide), pu_w (x := s * 7) (by omega) (by omega), pu_w (x := s * 7 + x) (by omega) (by omega), if_pos (by omega), show s * 7 + x = 7 * s + x by omega]
def q_tg (o k : Int) : Prop := (o = 0 ∧ k = 12) ∨ o = 94 ∨ (o = 133 ∧ (k = 0 ∨ k = 36)) ∨ o = 149
def f_tail (V : Int → Int) (p : Int) : List Int := bif f_out V p then mm_txt 1 else if V 51 = 0 then mm_txt 3 else mm_txt 2
theorem k_tag (p : Int) : Cal 134 254 [(0, p)] := by
  intro d h hI
  have P := hI.P
  have M := hI.M
  have W := hI.W
  have S := hI.S
  have w2 := W.2.2.1
  have w0 := W.1
  by_cases q : 0 ≤ p ∧ p < h 135 2
  · obtain ⟨L, hne, hl, hc, ek, ew⟩ := hI.1.2.2.2.2.1 1 p (by decide) (by decide) q.1 q.2
    have bx := (S.2.2.2.2.2.2.1 p q.1 q.2).1
    have b51 := S.2.2.2.1
    obtain ⟨x, hx⟩ : ∃ x, x = h 135 (54 + p) := ⟨_, rfl⟩
    rw [← hx] at bx
    have nl := f_num_len (n := x)
    have t0 : (mm_txt 0).length = 4 := rfl
    have t1 : (mm_txt 1).length = 4 := rfl
    have t2 : (mm_txt 2).length = 7 := rfl
    have t3 : (mm_txt 3).length = 8 := rfl
    -- the class
    obtain ⟨g0, e0⟩ : ∃ g0, g0 = mm_up h 0 12 0 := ⟨_, rfl⟩
    obtain ⟨g1, e1⟩ : ∃ g1, g1 = tws 0 12 94 g0 L := ⟨_, rfl⟩
    obtain ⟨g2, e2⟩ : ∃ g2, g2 = tws 0 12 94 g1 (mm_txt 0) := ⟨_, rfl⟩
    obtain ⟨g3, e3⟩ : ∃ g3, g3 = tws 0 12 94 g2 (f_num x) := ⟨_, rfl⟩
    obtain ⟨g4, e4⟩ : ∃ g4, g4 = tws 0 12 94 g3 (f_tail (h 135) p) := ⟨_, rfl⟩
    have s0 : ∀ o k, o ≠ 0 → o ≠ 94 → g0 o k = h o k := fun o k a b => by rw [e0, pu_ob a]
    have s1 : ∀ o k, o ≠ 0 → o ≠ 94 → g1 o k = h o k := fun o k a b => by rw [e1, tws_ne b (fun z => a z.1), s0 o k a b]
    have s2 : ∀ o k, o ≠ 0 → o ≠ 94 → g2 o k = h o k := fun o k a b => by rw [e2, tws_ne b (fun z => a z.1), s1 o k a b]
    have s3 : ∀ o k, o ≠ 0 → o ≠ 94 → g3 o k = h o k := fun o k a b => by rw [e3, tws_ne b (fun z => a z.1), s2 o k a b]
    have n0 : g0 0 12 = 0 := by rw [e0, pu_eq]
    have n1 : g1 0 12 = L.length := by rw [e1, tws_len, n0]; omega
    have n2 : g2 0 12 = L.length + 4 := by rw [e2, tws_len, n1, t0]; omega
    have n3 : g3 0 12 = L.length + 4 + (f_num x).length := by rw [e3, tws_len, n2]
    have P0 : pr_P g0 15 (h 135) := P.ob (fun o a b _ k => s0 o k (by omega) (by omega))
    have M3 : pr_M g3 25 (h 135) := M.ob (fun o a b k => s3 o k (by omega) (by omega))
    have ek0 : g0 (15 + 2) (7 * 1 + p) = f_enc 256 0 L := by rw [s0 _ _ (by decide) (by decide)]; exact ek
    have ep : g2 26 p = x := by
      rw [s2 _ _ (by decide) (by decide), hx]
      have := (M.2.2.2.2.2.2.1 p q.1 q.2).1
      exact this
    have T : L ++ mm_txt 0 ++ f_num x ++ f_tail (h 135) p = L ++ ((mm_txt 0) ++ ((f_num x) ++ (f_tail (h 135) p))) := by simp only [List.append_assoc]
    obtain ⟨A, eA⟩ : ∃ A, A = L ++ ((mm_txt 0) ++ ((f_num x) ++ (f_tail (h 135) p))) := ⟨_, rfl⟩
    have g4A : g4 = tws 0 12 94 g0 A := by rw [eA, tws_app, tws_app, tws_app, ← e1, ← e2, ← e3, ← e4]
    have s4 : ∀ o k, o ≠ 0 → o ≠ 94 → g4 o k = h o k := fun o k a b => by rw [g4A, tws_ne b (fun z => a z.1), s0 o k a b]
    have tl : (f_tail (h 135) p).length ≤ 8 := by
      unfold f_tail
      cases f_out (h 135) p
      · rw [cond_false]; split <;> decide
      · rw [cond_true]; decide
    have lA : (A.length : Int) ≤ 21 := by
      rw [eA, List.length_append, List.length_append, List.length_append]
      omega
    have C : mm_M mm_prog (d + 100) 134 [(20, 0), (0, p)] h = some (g4 0 12, g4) := by
      rw [e_X11_tag]
      simp only [n15, n25]
      rw [cl_has P (by decide) (by decide), Option.bind_some, show (1 : Int) + 1 = 2 from rfl, decide_eq_true q]
      show (if (1 : Int) = 0 then _ else _) = _
      rw [if_neg (by decide)]
      dsimp only
      rw [← e0, cl_nameOf P0 (by decide) (by decide) q.1 q.2 (by omega), Option.bind_some]
      dsimp only
      rw [ek0, cl_tagName hl hc n0 (by decide) (by decide), Option.bind_some]
      dsimp only
      rw [← e1, cl_tagText 0 n1 (by omega) (by omega), Option.bind_some, if_pos (by omega)]
      dsimp only
      rw [← e2, show (25 : Int) + 1 = 26 from rfl, ep, cl_tagNumber n2 (by omega) (by omega) bx.1 (by omega), Option.bind_some]
      dsimp only
      rw [← e3, cl_isOut M3 S q.1 (by omega), Option.bind_some]
      dsimp only
      have m51 : g3 25 3 = h 135 51 := M3.2.2.2.1
      unfold f_tail at e4
      cases o : f_out (h 135) p with
      | true =>
        rw [o, cond_true] at e4
        show (if (1 : Int) = 0 then _ else _) = _
        rw [if_neg (by decide), cl_tagText 1 n3 (by omega) (by omega), Option.bind_some, ← e4]
      | false =>
        rw [o, cond_false] at e4
        show (if (0 : Int) = 0 then _ else _) = _
        rw [if_pos rfl]
        by_cases z : h 135 51 = 0
        · rw [if_pos z] at e4
          rw [if_pos (by rw [m51]; exact z), cl_tagText 3 n3 (by omega) (by omega), Option.bind_some, ← e4]
        · rw [if_neg z] at e4
          rw [if_neg (by rw [m51]; exact z), cl_tagText 2 n3 (by omega) (by omega), Option.bind_some, ← e4]
    -- the reference
    obtain ⟨f9, u9⟩ : ∃ f9, f9 = mm_up g4 133 0 0 := ⟨_, rfl⟩
    obtain ⟨f0, u0⟩ : ∃ f0, f0 = mm_up f9 133 36 0 := ⟨_, rfl⟩
    obtain ⟨f1, u1⟩ : ∃ f1, f1 = tws 133 36 149 f0 L := ⟨_, rfl⟩
    obtain ⟨f2, u2⟩ : ∃ f2, f2 = tws 133 36 149 f1 [32, 97, 116] := ⟨_, rfl⟩
    obtain ⟨f3, u3⟩ : ∃ f3, f3 = tw 133 36 149 f2 32 := ⟨_, rfl⟩
    obtain ⟨f4, u4⟩ : ∃ f4, f4 = tws 133 36 149 f3 (f_num x) := ⟨_, rfl⟩
    obtain ⟨f5, u5⟩ : ∃ f5, f5 = tws 133 36 149 f4 (f_tail (h 135) p) := ⟨_, rfl⟩
    have v9 : ∀ o k, o ≠ 0 → o ≠ 94 → o ≠ 133 → f9 o k = h o k := fun o k a b c => by rw [u9, pu_ob c, s4 o k a b]
    have v0 : ∀ o k, o ≠ 0 → o ≠ 94 → o ≠ 133 → f0 o k = h o k := fun o k a b c => by rw [u0, pu_ob c, v9 o k a b c]
    have v1 : ∀ o k, o ≠ 0 → o ≠ 94 → o ≠ 133 → o ≠ 149 → f1 o k = h o k := fun o k a b c e => by rw [u1, tws_ne e (fun z => c z.1), v0 o k a b c]
    have v2 : ∀ o k, o ≠ 0 → o ≠ 94 → o ≠ 133 → o ≠ 149 → f2 o k = h o k := fun o k a b c e => by rw [u2, tws_ne e (fun z => c z.1), v1 o k a b c e]
    have v3 : ∀ o k, o ≠ 0 → o ≠ 94 → o ≠ 133 → o ≠ 149 → f3 o k = h o k := fun o k a b c e => by rw [u3, tw_ne e (fun z => c z.1), v2 o k a b c e]
    have v4 : ∀ o k, o ≠ 0 → o ≠ 94 → o ≠ 133 → o ≠ 149 → f4 o k = h o k := fun o k a b c e => by rw [u4, tws_ne e (fun z => c z.1), v3 o k a b c e]
    have r9 : f9 135 = h 135 := funext fun k => v9 135 k (by decide) (by decide) (by decide)
    have r4 : f4 135 = h 135 := funext fun k => v4 135 k (by decide) (by decide) (by decide) (by decide)
    have m0 : f0 133 36 = 0 := by rw [u0, pu_eq]
    have m1 : f1 133 36 = L.length := by rw [u1, tws_len, m0]; omega
    have m2 : f2 133 36 = L.length + 3 := by rw [u2, tws_len, m1]; rfl
    have m3 : f3 133 36 = L.length + 4 := by rw [u3, tw_len, m2]; omega
    have m4 : f4 133 36 = L.length + 4 + (f_num x).length := by rw [u4, tws_len, m3]
    have f5A : f5 = tws 133 36 149 f0 A := by
      rw [eA, show mm_txt 0 = [32, 97, 116] ++ [32] from rfl, tws_app, tws_app, tws_app, tws_app, tws_one, ← u1, ← u2, ← u3, ← u4, ← u5]
    have R : mm_M mm_prog (d + 100) 254 [(21, 133), (0, p)] g4 = some (f5 133 36, f5) := by
      rw [e_X12_tag, ← u9]
      have c1 := rf_isPerson (h := f9) (V := h 135) W (x := p) (d + 97)
      rw [vs_id r9] at c1
      rw [c1, Option.bind_some, decide_eq_true q]
      show (if (1 : Int) = 0 then _ else _) = _
      rw [if_neg (by decide), pu_w (x := 4 + p) (by omega) (by omega), pu_w (x := 54 + p) (by omega) (by omega), if_pos (by omega)]
      dsimp only
      rw [← u0, show (133 : Int) + 7 = 140 from rfl, v0 140 _ (by decide) (by decide) (by decide), show h 140 (4 + p) = f_enc 27 96 L from ew]
      rw [rf_word hne hl hc m0 (by decide) (by decide), Option.bind_some]
      dsimp only
      rw [← u1, sp_at, Option.bind_some]
      dsimp only
      rw [rf_next (by decide) (by decide) (by decide) m1 (by omega) (by omega), Option.bind_some]
      dsimp only
      rw [← u2, rf_write m2 (by omega) (by omega), Option.bind_some, if_pos (by omega)]
      dsimp only
      rw [← u3, r135, v3 135 _ (by decide) (by decide) (by decide) (by decide), ← hx, rf_num m3 (by omega) (by omega) bx.1 (by omega), Option.bind_some]
      dsimp only
      rw [← u4]
      have c2 := rf_isOut (h := f4) (V := h 135) S (p := p) q.1 (by omega) (d + 97)
      rw [vs_id r4] at c2
      rw [c2, Option.bind_some]
      dsimp only
      unfold f_tail at u5
      cases o : f_out (h 135) p with
      | true =>
        rw [o, cond_true] at u5
        show (if (1 : Int) = 0 then _ else _) = _
        rw [if_neg (by decide), sp_out, Option.bind_some]
        dsimp only
        rw [rf_next (by decide) (by decide) (by decide) m4 (by omega) (by omega), Option.bind_some, show (32 : Int) :: [111, 117, 116] = mm_txt 1 from rfl, ← u5]
      | false =>
        rw [o, cond_false] at u5
        show (if (0 : Int) = 0 then _ else _) = _
        rw [if_pos rfl, sp_in, Option.bind_some]
        dsimp only
        rw [rf_next (by decide) (by decide) (by decide) m4 (by omega) (by omega), Option.bind_some]
        dsimp only
        obtain ⟨f6, u6⟩ : ∃ f6, f6 = tws 133 36 149 f4 [32, 105, 110] := ⟨_, rfl⟩
        have v6 : ∀ o k, o ≠ 0 → o ≠ 94 → o ≠ 133 → o ≠ 149 → f6 o k = h o k := fun o k a b c e => by rw [u6, tws_ne e (fun z => c z.1), v4 o k a b c e]
        have r6 : f6 135 = h 135 := funext fun k => v6 135 k (by decide) (by decide) (by decide) (by decide)
        have m6 : f6 133 36 = L.length + 4 + (f_num x).length + 3 := by rw [u6, tws_len, m4]; rfl
        rw [← u6]
        have c3 := rf_stands (h := f6) (V := h 135) S (d + 98)
        rw [vs_id r6] at c3
        rw [c3, Option.bind_some]
        dsimp only
        by_cases z : h 135 51 = 0
        · rw [if_pos z] at u5
          rw [if_pos z, sp_step, Option.bind_some]
          dsimp only
          rw [rf_next (by decide) (by decide) (by decide) m6 (by omega) (by omega), Option.bind_some, u6, ← tws_app, show [32, 105, 110] ++ ((32 : Int) :: [115, 116, 101, 112]) = mm_txt 3 from rfl, ← u5]
        · rw [if_neg z] at u5
          rw [if_neg z, sp_air, Option.bind_some]
          dsimp only
          rw [rf_next (by decide) (by decide) (by decide) m6 (by omega) (by omega), Option.bind_some, u6, ← tws_app, show [32, 105, 110] ++ ((32 : Int) :: [97, 105, 114]) = mm_txt 2 from rfl, ← u5]
    have la : g4 0 12 = A.length := by rw [g4A, tws_len, n0]; omega
    have lb : f5 133 36 = A.length := by rw [f5A, tws_len, m0]; omega
    refine ⟨A.length, g4, f5, by rw [C, la], by rw [R, lb], ?_⟩
    have E : ∀ o k, ¬ q_tg o k → f5 o k = h o k := fun o k z => by
      unfold q_tg at z
      have za : ¬ (o = 0 ∧ k = 12) := fun y => z (Or.inl y)
      have zb : o ≠ 94 := fun y => z (Or.inr (Or.inl y))
      have zc : ¬ (o = 133 ∧ k = 36) := fun y => z (Or.inr (Or.inr (Or.inl ⟨y.1, Or.inr y.2⟩)))
      have zd : ¬ (o = 133 ∧ k = 0) := fun y => z (Or.inr (Or.inr (Or.inl ⟨y.1, Or.inl y.2⟩)))
      have ze : o ≠ 149 := fun y => z (Or.inr (Or.inr (Or.inr y)))
      rw [f5A, tws_ne ze zc, u0, pu_up, if_neg zc, u9, pu_up, if_neg zd, g4A, tws_ne zb za, e0, pu_up, if_neg za]
    obtain ⟨c1, c2, c3, c4, c5, c6, c7, c8, c9⟩ := (Inv_iff.mp hI).2.2
    have E' := E
    unfold q_tg at E'
    have f012 : f5 0 12 = A.length := by
      rw [f5A, tws_ne (by decide) (by decide), u0, pu_ob (by decide), u9, pu_ob (by decide), la]
    refine hI.gen (ch := q_tg) E (fun o k q z => by unfold q_img at q; unfold q_tg at z; omega) (fun o k q z => by unfold q_town at q; unfold q_tg at z; omega) (fun o k q z => by unfold q_past at q; unfold q_tg at z; omega) (c3.dif (ch := q_tg) E (fun o k q z => by unfold q_tg at z; omega)) (c4.dif (ch := q_tg) E (fun o k q z => by unfold q_tg at z; omega)) (by rw [E' 0 14 (by omega), E' 133 34 (by omega)]; exact c5) ?_ (c7.dif (ch := q_tg) E (fun o k q z => by unfold q_tg at z; omega)) (by rw [E' 0 13 (by omega), E' 133 10 (by omega)]; exact c8) (c9.dif (ch := q_tg) E (fun o k q z => by unfold q_tg at z; omega))
    refine ⟨by rw [f012, lb], by rw [f012]; omega, fun i i0 i1 => ?_⟩
    rw [f012] at i1
    have a1 : f5 94 i = g4 94 i := by rw [f5A, tws_ne (by decide) (by omega), u0, pu_ob (by decide), u9, pu_ob (by decide)]
    rw [a1, g4A, f5A, tws_at (by decide) _ _ _ (by omega) (by omega), tws_at (by decide) _ _ _ (by omega) (by omega), n0, m0]
  · refine ⟨-1, h, mm_up h 133 0 0, ?_, ?_, hI.th 0⟩
    · rw [e_X11_tag]
      simp only [n15, n25]
      rw [cl_has P (by decide) (by decide), Option.bind_some, show (1 : Int) + 1 = 2 from rfl, decide_eq_false q]
      rfl
    · rw [e_X12_tag, rth h 0, rf_isPerson W, Option.bind_some, decide_eq_false q]
      rfl
