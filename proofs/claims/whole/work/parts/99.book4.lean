/-! A BOOK lived -/
def f_w (V : Int → Int) (a x : Int) : Int := if a = 6 then (if V 48 + x ≤ 600 then 0 else 1) else f_why V a x
def f_l (V : Int → Int) (a x : Int) : Int → Int := if a = 6 then f_secs x.toNat V else f_live V a x
theorem f_why_b {V : Int → Int} (hT : pr_T V) (a x : Int) : 0 ≤ f_why V a x ∧ f_why V a x ≤ 2 := by
  have b := hT.1.2.2.2.1
  unfold f_why
  have s1 := sp_b01 (f_out V x)
  by_cases h0 : a = 0
  · rw [if_pos h0]; omega
  rw [if_neg h0]
  by_cases h1 : a = 1
  · rw [if_pos h1]; omega
  rw [if_neg h1]
  by_cases h2 : a = 2
  · rw [if_pos h2]; omega
  rw [if_neg h2]
  by_cases h3 : a = 3
  · rw [if_pos h3]
    by_cases z : V 49 = x
    · rw [if_pos z]; decide
    · rw [if_neg z]; decide
  rw [if_neg h3]
  by_cases h4 : a = 4
  · rw [if_pos h4]; omega
  rw [if_neg h4]
  cases f_out V x
  · rw [cond_false]; decide
  · rw [cond_true]
    cases f_crowd V x
    · rw [cond_false]; decide
    · rw [cond_true]; decide
theorem f_w_b {V : Int → Int} (hT : pr_T V) (a x : Int) : 0 ≤ f_w V a x ∧ f_w V a x ≤ 2 := by
  unfold f_w
  by_cases z : a = 6
  · rw [if_pos z]
    by_cases y : V 48 + x ≤ 600
    · rw [if_pos y]; decide
    · rw [if_neg y]; decide
  · rw [if_neg z]; exact f_why_b hT a x
theorem bl_a {V : Int → Int} {a x : Int} (h : bl V a x) : 0 ≤ a ∧ a ≤ 6 := by
  rcases h with h | h
  · have := h.1; omega
  · omega
section
variable {V : Int → Int} {c g : mm_H} {a x : Int}
theorem f_l_ok (hW : pr_W V) (hT : pr_T V) (hb : bl V a x) (hw : f_w V a x = 0) : pr_T (f_l V a x) ∧ hd V (f_l V a x) := by
  unfold f_w at hw
  unfold f_l
  by_cases z : a = 6
  · rw [if_pos z] at hw ⊢
    have hx : 1 ≤ x ∧ x ≤ 60 := by
      rcases hb with h | h
      · have := h.1; omega
      · exact h.2
    by_cases y : V 48 + x ≤ 600
    · have := f_secs_ok hW hT (n := x.toNat) (by omega)
      exact ⟨this.1, this.2.1⟩
    · rw [if_neg y] at hw; exact absurd hw (by decide)
  · rw [if_neg z]
    rcases hb with h | h
    · exact f_live_ok hW hT h
    · exact absurd h.1 z
theorem cl_step (hP : pr_P c 15 V) (hM : pr_M c 25 V) (hW : pr_W V) (hT : pr_T V) (hb : bl V a x) (d : Nat) : ∃ c', mm_M mm_prog (d + 6) 26 [(12, 25), (14, 15), (0, a), (0, x)] c = some (f_w V a x, c') ∧ pr_M c' 25 (if f_w V a x = 0 then f_l V a x else V) ∧ fr 25 c c' := by
  unfold f_w f_l
  by_cases z : a = 6
  · rw [if_pos z, if_pos z]
    have hx : 1 ≤ x ∧ x ≤ 60 := by
      rcases hb with h | h
      · have := h.1; omega
      · exact h.2
    obtain ⟨c', e, M, F⟩ := cl_passAll hP hM hW hT (n := x) (by omega) hx.2 (by decide) d
    refine ⟨c', ?_, ?_, F⟩
    · rw [e_X2_act, z, if_neg (by decide), if_neg (by decide), if_neg (by decide), if_neg (by decide), if_neg (by decide), if_neg (by decide), if_pos rfl, e, Option.bind_some]
    · by_cases y : V 48 + x ≤ 600
      · rw [if_pos y] at M ⊢
        rw [if_pos rfl]; exact M
      · rw [if_neg y] at M ⊢
        rw [if_neg (by decide)]; exact M
  · rw [if_neg z, if_neg z]
    rcases hb with h | h
    · exact cl_act hP hM hW hT h (by decide) (d + 2)
    · exact absurd h.1 z
theorem rf_step {k : Int} (hW : pr_W V) (hT : pr_T V) (hb : bl V a x) (k0 : 0 ≤ k) (k1 : k < 40) (ea : g 150 (2 * k) = a) (ex : g 150 (2 * k + 1) = x) (d : Nat) : mm_M mm_prog (d + 6) 266 [(21, 133), (0, 2 * k)] (vs g V) = some (if f_w V a x = 0 then 0 else 10 * a + f_w V a x, vs g (if f_w V a x = 0 then f_l V a x else V)) := by
  have ab := bl_a hb
  have b48 := hT.1.1
  have wb := f_w_b hT a x
  have e1 : vs g V 150 (2 * k) = a := by rw [vs_ne (by decide), ea]
  have e2 : vs g V 150 (2 * k + 1) = x := by rw [vs_ne (by decide), ex]
  rw [e_X12_goBy, pu_w (x := 2 * k + 1) (by omega) (by omega), if_pos (by omega), if_pos (by omega), show (133 : Int) + 17 = 150 from rfl, r135, e1, e2, vs_at]
  unfold f_w f_l at *
  by_cases z : a = 6
  · have hx : 1 ≤ x ∧ x ≤ 60 := by
      rcases hb with h | h
      · have := h.1; omega
      · exact h.2
    rw [if_pos z, if_pos z, if_pos z, pu_w (x := V 48 + x) (by omega) (by omega)]
    by_cases y : V 48 + x ≤ 600
    · rw [if_neg (by omega), if_pos y, if_pos rfl, rf_passSeconds hW hT (n := x) (by omega) hx.2, Option.bind_some, if_pos rfl, show min x (600 - V 48) = x by omega]
    · rw [if_pos (by omega), if_neg y, if_neg (by decide), if_neg (by decide), z]
      rfl
  · rw [if_neg z] at wb ⊢
    rw [if_neg z, if_neg z]
    rcases hb with h | h
    · rw [rf_why hW hT h, Option.bind_some]
      dsimp only
      rw [e1]
      by_cases y : f_why V a x = 0
      · rw [if_pos y, if_pos y, if_pos y, if_pos (by omega), if_pos (by omega), rf_live hW hT h, Option.bind_some]
      · rw [if_neg y, if_neg y, if_neg y, if_pos (by omega), if_pos (by omega), pu_w (x := 10 * a) (by omega) (by omega), pu_w (by omega) (by omega)]
    · exact absurd h.1 z
end
theorem bl_hd {V x : Int → Int} (hh : hd V x) {a y : Int} (h : bl V a y) : bl x a y := by
  rcases h with h | h
  · left
    obtain ⟨h1, h2, h3⟩ := h
    refine ⟨h1, fun q => ?_, fun q => ?_⟩
    · rw [hh 1 (by omega)]; exact h2 q
    · rw [hh 2 (by omega)]; exact h3 q
  · exact Or.inr h
def q_lv (o k : Int) : Prop := (25 ≤ o ∧ o ≤ 28) ∨ (o = 87 ∧ (k = 4 ∨ k = 5))
theorem bk_live {V0 : Int → Int} {g : mm_H} {m x1 : Int} (hW : pr_W V0) (m0 : 0 ≤ m) (m1 : m ≤ 40) (g40 : g 133 40 = m) (d d' : Nat) : ∀ (f : Nat) (k : Int) (V : Int → Int) (c : mm_H) (u4 : mm_V), m - k = f → 0 ≤ k → c 87 5 = k → c 87 4 = 0 → c 87 2 = m → pr_P c 15 V0 → pr_M c 25 V → hd V0 V → pr_T V → (∀ i, 0 ≤ i → i < m → c 88 i = g 150 (2 * i) ∧ c 89 i = g 150 (2 * i + 1) ∧ bl V0 (c 88 i) (c 89 i)) →
    ∃ k' w' V' c' v3 v4, mm_R mm_prog (d + 6) T_X0_live 17 [(10, 87), (14, 15), (12, 25), (0, k), u4] [] c = mm_R mm_prog (d + 6) T_X0_live 17 [(10, 87), (14, 15), (12, 25), (0, v3), v4] [] c' ∧ (v3 < m → w' ≠ 0) ∧ mm_R mm_prog (d' + 6) T_X12_book 73 [(21, 133), (0, x1), (0, k), (0, 0)] [] (vs g V) = mm_R mm_prog (d' + 6) T_X12_book 73 [(21, 133), (0, x1), (0, k'), (0, w')] [] (vs g V') ∧ c' 87 5 = k' ∧ c' 87 4 = w' ∧ (k' = m ∨ w' ≠ 0) ∧ (k ≤ k' ∧ k' ≤ m) ∧ (0 ≤ w' ∧ w' ≤ 62) ∧ hd V0 V' ∧ pr_T V' ∧ pr_M c' 25 V' ∧ (k' = k → V' = V) ∧ ∀ o j, ¬ q_lv o j → c' o j = c o j
  | 0, k, V, c, u4, hk, k0, h5, h4, h2, hP, hM, hh, hT, hL => ⟨k, 0, V, c, k, u4, rfl, fun w => by omega, rfl, h5, h4, Or.inl (by omega), by omega, by decide, hh, hT, hM, fun _ => rfl, fun _ _ _ => rfl⟩
  | f + 1, k, V, c, u4, hk, k0, h5, h4, h2, hP, hM, hh, hT, hL => by
    obtain ⟨l1, l2, l3⟩ := hL k k0 (by omega)
    obtain ⟨a, ha⟩ : ∃ a, a = c 88 k := ⟨_, rfl⟩
    obtain ⟨x, hx⟩ : ∃ x, x = c 89 k := ⟨_, rfl⟩
    rw [← ha] at l1 l3
    rw [← hx] at l2 l3
    have hb := bl_hd hh l3
    have ab := bl_a hb
    have wb := f_w_b hT a x
    have PV := hh.P hW hP
    have WV := hh.W hW
    obtain ⟨c1, e1, M1, F1⟩ := cl_step PV hM WV hT hb d
    have e2 := rf_step (g := g) WV hT hb k0 (by omega) l1.symm l2.symm d'
    have g40' : vs g V 133 40 = m := by rw [vs_ne (by decide), g40]
    have F87 : ∀ o j, ¬ (25 ≤ o ∧ o ≤ 28) → c1 o j = c o j := fun o j q => F1 o (by omega) j
    have cs : mm_R mm_prog (d + 6) T_X0_live 17 [(10, 87), (14, 15), (12, 25), (0, k), u4] [] c = if f_w V a x = 0 then mm_R mm_prog (d + 6) T_X0_live 17 [(10, 87), (14, 15), (12, 25), (0, k + 1), (0, f_w V a x)] [] (mm_up c1 87 5 (k + 1)) else mm_R mm_prog (d + 6) T_X0_live 17 [(10, 87), (14, 15), (12, 25), (0, k + 1), (0, f_w V a x)] [] (mm_up c1 87 4 (10 * a + f_w V a x)) := by
      rw [e_X0_live_17, h2, if_pos (by omega), h4, if_pos rfl, if_pos (by omega), if_pos (by omega), show (87 : Int) + 1 = 88 from rfl, show (87 : Int) + 2 = 89 from rfl, ← ha, ← hx, e1, Option.bind_some]
      dsimp only
      rw [F87 87 5 (by omega), h5, F87 88 k (by omega), ← ha, if_pos (show 0 ≤ k ∧ k < 40 by omega), pu_w (x := k + 1) (by omega) (by omega), pu_w (x := 10 * a) (by omega) (by omega), pu_w (x := 10 * a + f_w V a x) (by omega) (by omega)]
    have rs : mm_R mm_prog (d' + 6) T_X12_book 73 [(21, 133), (0, x1), (0, k), (0, 0)] [] (vs g V) = if f_w V a x = 0 then mm_R mm_prog (d' + 6) T_X12_book 73 [(21, 133), (0, x1), (0, k + 1), (0, 0)] [] (vs g (f_l V a x)) else mm_R mm_prog (d' + 6) T_X12_book 73 [(21, 133), (0, x1), (0, k), (0, 10 * a + f_w V a x)] [] (vs g V) := by
      rw [e_X12_book_73, g40', if_pos (by omega), if_pos rfl, pu_w (x := 2 * k) (by omega) (by omega), e2, Option.bind_some]
      by_cases y : f_w V a x = 0
      · rw [if_pos y, if_pos y, if_pos y]
        show (if (0 : Int) = 0 then _ else _) = _
        rw [if_pos rfl, pu_w (by omega) (by omega)]
      · rw [if_neg y, if_neg y, if_neg y]
        dsimp only
        rw [if_neg (by omega)]
    by_cases y : f_w V a x = 0
    · rw [if_pos y] at cs rs M1
      obtain ⟨lT, lH⟩ := f_l_ok WV hT hb y
      obtain ⟨c2, hc2⟩ : ∃ c2, c2 = mm_up c1 87 5 (k + 1) := ⟨_, rfl⟩
      rw [← hc2] at cs
      have C2 : ∀ o j, ¬ ((25 ≤ o ∧ o ≤ 28) ∨ (o = 87 ∧ j = 5)) → c2 o j = c o j := fun o j q => by
        rw [hc2, pu_up, if_neg (by omega), F87 o j (by omega)]
      obtain ⟨k', w', V', c', v3, v4, q1, q1b, q2, q3, q4, q5, q6, q7, q8, q9, q10, q11, q12⟩ := bk_live hW m0 m1 g40 d d' f (k + 1) (f_l V a x) c2 (0, f_w V a x) (by omega) (by omega) (by rw [hc2, pu_eq]) (by rw [C2 _ _ (by omega), h4]) (by rw [C2 _ _ (by omega), h2]) (hP.ob (fun o h0 h1 _ j => C2 o j (by omega))) (M1.ob (fun o h0 h1 j => by rw [hc2, pu_ob (by omega)])) (hh.tr lH) lT (fun i i0 i1 => by rw [C2 _ _ (by omega), C2 _ _ (by omega)]; exact hL i i0 i1)
      refine ⟨k', w', V', c', v3, v4, cs.trans q1, q1b, rs.trans q2, q3, q4, q5, by omega, q7, q8, q9, q10, fun w => by omega, fun o j w => ?_⟩
      rw [q12 o j w]
      unfold q_lv at w
      exact C2 o j (by omega)
    · rw [if_neg y] at cs rs M1
      refine ⟨k, 10 * a + f_w V a x, V, mm_up c1 87 4 (10 * a + f_w V a x), k + 1, (0, f_w V a x), cs, fun _ => by omega, rs, ?_, pu_eq _ _ _ _, Or.inr (by omega), by omega, by omega, hh, hT, M1.ob (fun o h0 h1 j => pu_ob (by omega)), fun _ => rfl, fun o j w => ?_⟩
      · rw [pu_sl (by decide), F87 _ _ (by omega), h5]
      · unfold q_lv at w
        rw [pu_up, if_neg (by omega), F87 o j (by omega)]
/-- what is told then, in the class -/
theorem cl_liveEnd {V V0 : Int → Int} {c : mm_H} {k w m v3 : Int} {u4 : mm_V} (hW : pr_W V0) (hh : hd V0 V) (hT : pr_T V) (hP : pr_P c 15 V0) (hM : pr_M c 25 V) (h5 : c 87 5 = k) (h4 : c 87 4 = w) (h2 : c 87 2 = m) (hd : v3 < m → w ≠ 0) (d : Nat) : mm_R mm_prog (d + 1) T_X0_live 17 [(10, 87), (14, 15), (12, 25), (0, v3), u4] [] c = some (if w = 0 then -1 else k, mm_up (mm_up c 87 6 (V 48)) 87 7 (sp_done V)) := by
  have fin : ((mm_M mm_prog (d + 1) 20 [(12, 25), (14, 15)] (mm_up c 87 6 (c 25 0))).bind fun o1 => (if (mm_up o1.2 87 7 o1.1) 87 4 = 0 then (some ((-1 : Int), mm_up o1.2 87 7 o1.1)) else (some ((mm_up o1.2 87 7 o1.1) 87 5, mm_up o1.2 87 7 o1.1)))) = some (if w = 0 then -1 else k, mm_up (mm_up c 87 6 (V 48)) 87 7 (sp_done V)) := by
    have P1 : pr_P (mm_up c 87 6 (V 48)) 15 V := (hh.P hW hP).ob (fun o h0 h1 _ j => pu_ob (by omega))
    have M1 : pr_M (mm_up c 87 6 (V 48)) 25 V := hM.ob (fun o h0 h1 j => pu_ob (by omega))
    rw [hM.1, cl_done P1 M1 (hh.W hW) hT.1, Option.bind_some]
    dsimp only
    have q4 : mm_up (mm_up c 87 6 (V 48)) 87 7 (sp_done V) 87 4 = w := by rw [pu_sl (by decide), pu_sl (by decide), h4]
    have q5 : mm_up (mm_up c 87 6 (V 48)) 87 7 (sp_done V) 87 5 = k := by rw [pu_sl (by decide), pu_sl (by decide), h5]
    by_cases z : w = 0
    · rw [if_pos (by rw [q4]; exact z), if_pos z]
    · rw [if_neg (by rw [q4]; exact z), if_neg z, q5]
  rw [e_X0_live_17, h2]
  by_cases z : v3 < m
  · rw [if_pos z, if_neg (by rw [h4]; exact hd z)]
    exact fin
  · rw [if_neg z]
    exact fin
/-- and in the reference: it stays, or goes -/
def f_wr (g : mm_H) (V : Int → Int) (k w : Int) : mm_H := mm_up (mm_up (mm_up (mm_up (mm_up g 151 0 w) 151 1 k) 151 2 (V 48)) 151 3 (sp_done V)) 133 41 1
theorem rf_liveEnd {V V0 : Int → Int} {g : mm_H} {k w m x1 : Int} (hW : pr_W V0) (hh : hd V0 V) (g40 : g 133 40 = m) (hd : k = m ∨ w ≠ 0) (kb : 0 ≤ k) (d : Nat) : mm_R mm_prog (d + 1) T_X12_book 73 [(21, 133), (0, x1), (0, k), (0, w)] [] (vs g V) = ((mm_M mm_prog (d + 1) 268 [(21, 133), (0, if x1 = 1 ∧ 0 < k then 1 else 0)] (vs (f_wr g V k w) V)).bind fun o2 => some (if w = 0 then -1 else k, o2.2)) := by
  obtain ⟨g1, hg1⟩ : ∃ g1, g1 = mm_up (mm_up (mm_up g 151 0 w) 151 1 k) 151 2 (V 48) := ⟨_, rfl⟩
  have eg : mm_up (mm_up (mm_up (vs g V) 151 0 w) 151 1 k) 151 2 (V 48) = vs g1 V := by
    rw [vs_upo (by decide), vs_upo (by decide), vs_upo (by decide), hg1]
  have e48 : mm_up (mm_up (vs g V) 151 0 w) 151 1 k 135 48 = V 48 := by rw [pu_ob (by decide), pu_ob (by decide), vs_at]
  have ef : mm_up (mm_up (vs g1 V) 151 3 (sp_done V)) 133 41 1 = vs (f_wr g V k w) V := by
    rw [vs_upo (by decide), vs_upo (by decide), hg1]
    rfl
  have fin : ((mm_M mm_prog (d + 1) 202 [(21, 133)] (mm_up (mm_up (mm_up (vs g V) 151 0 w) 151 1 k) 151 2 (mm_up (mm_up (vs g V) 151 0 w) 151 1 k 135 48))).bind fun o1 => (if x1 = 1 then (if 0 < k then ((mm_M mm_prog (d + 1) 268 [(21, 133), (0, 1)] (mm_up (mm_up o1.2 151 3 o1.1) 133 41 1)).bind fun o2 => (if w = 0 then (some ((-1 : Int), o2.2)) else (some (k, o2.2)))) else ((mm_M mm_prog (d + 1) 268 [(21, 133), (0, 0)] (mm_up (mm_up o1.2 151 3 o1.1) 133 41 1)).bind fun o2 => (if w = 0 then (some ((-1 : Int), o2.2)) else (some (k, o2.2))))) else ((mm_M mm_prog (d + 1) 268 [(21, 133), (0, 0)] (mm_up (mm_up o1.2 151 3 o1.1) 133 41 1)).bind fun o2 => (if w = 0 then (some ((-1 : Int), o2.2)) else (some (k, o2.2)))))) = ((mm_M mm_prog (d + 1) 268 [(21, 133), (0, if x1 = 1 ∧ 0 < k then 1 else 0)] (vs (f_wr g V k w) V)).bind fun o2 => some (if w = 0 then -1 else k, o2.2)) := by
    rw [e48, eg, rf_done1 (hh.W hW), Option.bind_some]
    dsimp only
    rw [ef]
    have en : ∀ o2 : mm_O, (if w = 0 then (some ((-1 : Int), o2.2)) else (some (k, o2.2))) = some (if w = 0 then -1 else k, o2.2) := fun o2 => by
      by_cases z : w = 0
      · rw [if_pos z, if_pos z]
      · rw [if_neg z, if_neg z]
    simp only [en]
    by_cases z1 : x1 = 1
    · rw [if_pos z1]
      by_cases z2 : 0 < k
      · rw [if_pos z2, if_pos (show x1 = 1 ∧ 0 < k from ⟨z1, z2⟩)]
      · rw [if_neg z2, if_neg (show ¬ (x1 = 1 ∧ 0 < k) from fun q => z2 q.2)]
    · rw [if_neg z1, if_neg (show ¬ (x1 = 1 ∧ 0 < k) from fun q => z1 q.1)]
  rw [e_X12_book_73]
  simp only [show (133 : Int) + 18 = 151 from rfl, r135]
  by_cases z : k < m
  · rw [if_pos (by rw [vs_ne (by decide), g40]; exact z), if_neg (show ¬ w = 0 by omega)]
    exact fin
  · rw [if_neg (by rw [vs_ne (by decide), g40]; exact z)]
    exact fin
