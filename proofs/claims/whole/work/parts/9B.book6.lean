/-! book(): the call -/
theorem k_book (x : Int) : Cal 138 267 [(0, x)] := by
  refine Cal_of (fun d c r hI => ?_)
  by_cases cx : x = 0 ∨ x = 1
  · obtain ⟨ta, tb, tc⟩ := TA_mg (hI.2.2.2.2.2.2.2.2.2.2)
    obtain ⟨n, hn⟩ : ∃ n, n = c 1 1 := ⟨_, rfl⟩
    rw [← hn] at ta tb tc
    obtain ⟨rt, hrt⟩ : ∃ rt, rt = mm_up r 133 0 0 := ⟨_, rfl⟩
    have rtr : ∀ o k, ¬ (o = 133 ∧ k = 0) → rt o k = r o k := fun o k q => by rw [hrt, pu_up, if_neg q]
    obtain ⟨c1, r1, p1, t1, e1, e2, e3, e4, e5, e6, e7⟩ := tx_begin (c := c) (r := rt) (n := n) (most := 400) hn.symm (by rw [rtr _ _ (by omega)]; exact ta.symm) tb (fun i i0 i1 => by rw [rtr _ _ (by omega)]; exact tc i i0 i1) (by decide) (d + 94) (d + 94)
    obtain ⟨V0, hV0⟩ : ∃ V0, V0 = r 135 := ⟨_, rfl⟩
    have X := BX_mg hI
    have row0 : mg c r 135 = V0 := by rw [mg_rr (by decide), hV0]
    have W0 : pr_W V0 := by rw [hV0]; exact X.1
    have T0 : pr_T V0 := by have := hI.T; rw [row0] at this; exact this
    have P0 : pr_P c 15 V0 := by rw [hV0]; exact X.2.1
    have M0 : pr_M c 25 V0 := by
      have := hI.M
      rw [row0] at this
      exact this.ob (fun o h0 h1 k => (mg_c (by omega) k).symm)
    obtain ⟨c3, hc3⟩ : ∃ c3, c3 = mm_up c1 87 2 0 := ⟨_, rfl⟩
    obtain ⟨r3, hr3⟩ : ∃ r3, r3 = mm_up r1 133 40 0 := ⟨_, rfl⟩
    have cs3 : ∀ o k, ¬ ((o = 1 ∧ 2 ≤ k ∧ k ≤ 9) ∨ (o = 87 ∧ k = 2)) → c3 o k = c o k := fun o k q => by
      rw [hc3, pu_up, if_neg (by omega), e5 _ _ (by omega)]
    have rs3 : ∀ o k, ¬ (o = 133 ∧ (k = 0 ∨ (2 ≤ k ∧ k ≤ 12) ∨ k = 40)) → r3 o k = r o k := fun o k q => by
      rw [hr3, pu_up, if_neg (by omega), e6 _ _ (by omega), rtr _ _ (by omega)]
    have h3 : TF c3 r3 n 400 p1 t1 := e3.cg (fun k => by rw [hc3, pu_ob (by decide)]) (fun k => by rw [hc3, pu_ob (by decide)]) (fun k k0 k1 => by rw [hr3, pu_sl (by omega)]) (fun k => by rw [hr3, pu_ob (by decide)])
    have X3 : BX c3 r3 := X.cg (fun o h0 h1 => funext fun k => cs3 o k (by omega)) (funext fun k => rs3 _ k (by omega)) (funext fun k => rs3 _ k (by omega))
    have K3 : BKn c3 r3 0 := ⟨by rw [hc3, pu_eq], by decide, fun i i0 i1 => by omega⟩
    have r32 : r3 133 2 = 0 := by rw [hr3, pu_sl (by decide)]; exact e7
    have n87 : (0 : Int) + 87 = 87 := rfl
    have cpre : mm_M mm_prog (d + 100) 138 [(20, 0), (0, x)] c = (mm_R mm_prog (d + 98) T_X0_readBook 7 [(10, 87), (18, 1), (14, 15), (0, 0)] [] c3).bind fun o2 => ((mm_M mm_prog (d + 99) 145 [(20, 0)] o2.2).bind fun o3 => (if o3.1 = 0 then ((mm_M mm_prog (d + 99) 16 [(12, 68), (12, 25)] o3.2).bind fun o4 => ((mm_M mm_prog (d + 99) 7 [(10, 87), (14, 15), (12, 25)] o4.2).bind fun o5 => (if x = 0 then ((mm_M mm_prog (d + 99) 16 [(12, 25), (12, 68)] o5.2).bind fun o6 => (some (o5.1, o6.2))) else (if 0 < o5.2 87 5 then ((mm_M mm_prog (d + 99) 147 [(20, 0), (0, 1)] o5.2).bind fun o6 => (some (o5.1, o6.2))) else ((mm_M mm_prog (d + 99) 147 [(20, 0), (0, 0)] o5.2).bind fun o6 => (some (o5.1, o6.2))))))) else (some (mm_w ((-2) - (o3.2 1 9)), o3.2)))) := by
      have rb : mm_M mm_prog (d + 99) 0 [(10, 87), (18, 1), (14, 15)] c1 = mm_R mm_prog (d + 98) T_X0_readBook 7 [(10, 87), (18, 1), (14, 15), (0, 0)] [] c3 := by
        rw [e_X0_readBook, ← hc3]
      rw [e_X11_book]
      simp only [n15, n25, n68, n87, show (0 : Int) + 1 = 1 from rfl]
      by_cases z : x = 0
      · rw [if_pos z, e1, Option.bind_some]
        dsimp only
        rw [rb]
      · rw [if_neg z, if_pos (show x = 1 by omega), e1, Option.bind_some]
        dsimp only
        rw [rb]
    have rpre : mm_M mm_prog (d + 100) 267 [(21, 133), (0, x)] r = mm_R mm_prog (d + 99) T_X12_book 30 [(21, 133), (0, x), (9, 0), (9, 0)] [] r3 := by
      rw [e_X12_book, ← hrt, rf_isIn, Option.bind_some, decide_eq_true (show 0 ≤ x ∧ x ≤ 1 by omega)]
      show (if (1 : Int) = 0 then _ else _) = _
      rw [if_neg (by decide)]
      dsimp only
      rw [e2, Option.bind_some]
      dsimp only
      rw [← hr3]
    rcases bk_loop (x1 := x) (d + 89) (d + 90) 41 0 p1 t1 c3 r3 h3 X3 K3 (by rw [hr3, pu_eq]) (by decide) with ⟨m, c4, r4, p4, i1, i2, i3, i4, i5, i6, i7⟩ | ⟨c4, r4, i1, i2, i3, i4, i5⟩
    · have mb := i4.2.1
      have c48 : c4 1 8 = 0 := i3.2.1
      obtain ⟨c5, hc5⟩ : ∃ c5, c5 = mm_up (mm_up c4 1 1 0) 0 13 0 := ⟨_, rfl⟩
      have endT : mm_M mm_prog (d + 99) 145 [(20, 0)] c4 = some (0, c5) := by
        have q0 : (mm_up c4 1 1 0) 1 8 = 0 := by rw [pu_sl (by decide)]; exact c48
        rw [e_X11_endText]
        simp only [show (0 : Int) + 1 = 1 from rfl, q0]
        rw [← hc5, if_pos (by rw [hc5, pu_ob (by decide)]; exact q0)]
      have cs5 : ∀ o k, ¬ (o = 1 ∨ (o = 87 ∧ k = 2) ∨ o = 88 ∨ o = 89 ∨ (o = 0 ∧ k = 13)) → c5 o k = c o k := fun o k q => by
        rw [hc5, pu_up, if_neg (by omega), pu_up, if_neg (by omega), i6 o k (by omega), cs3 o k (by omega)]
      have cs54 : ∀ o k, o ≠ 1 → o ≠ 0 → c5 o k = c4 o k := fun o k q1 q2 => by rw [hc5, pu_ob q2, pu_ob q1]
      have rs4 : ∀ o k, ¬ ((o = 133 ∧ (k = 0 ∨ (2 ≤ k ∧ k ≤ 13) ∨ k = 40)) ∨ o = 150) → r4 o k = r o k := fun o k q => by
        rw [i7 o k (by omega), rs3 o k (by omega)]
      have row4 : r4 135 = V0 := by rw [hV0]; exact funext fun k => rs4 135 k (by omega)
      have P5 : pr_P c5 15 V0 := P0.ob (fun o h0 h1 _ k => cs5 o k (by omega))
      have M5 : pr_M c5 25 V0 := M0.ob (fun o h0 h1 k => cs5 o k (by omega))
      obtain ⟨c6, f1, f2, f3⟩ := cl_copyM (a := 68) (b := 25) M5 W0 T0.1 (by decide) (d + 98)
      obtain ⟨c7, hc7⟩ : ∃ c7, c7 = mm_up (mm_up (mm_up c6 87 3 1) 87 4 0) 87 5 0 := ⟨_, rfl⟩
      have cs7 : ∀ o k, ¬ ((68 ≤ o ∧ o ≤ 71) ∨ (o = 87 ∧ 3 ≤ k ∧ k ≤ 5)) → c7 o k = c5 o k := fun o k q => by
        rw [hc7, pu_up, if_neg (by omega), pu_up, if_neg (by omega), pu_up, if_neg (by omega), f3 o (by omega)]
      obtain ⟨g, hg⟩ : ∃ g, g = asd r4 V0 26 := ⟨_, rfl⟩
      have gs : ∀ o k, o ≠ 139 → g o k = r4 o k := fun o k q => by
        rw [hg]
        unfold asd
        rw [if_neg (fun w => q w.1)]
      have ga : ∀ j, 0 ≤ j → j < 26 → g 139 j = V0 (48 + j) := fun j j0 j1 => by
        rw [hg]
        unfold asd
        rw [if_pos ⟨rfl, j0, j1⟩]
      obtain ⟨k, w, V, c8, v3, v4, q1, q1b, q2, q3, q4, q5, q6, q7, q8, q9, q10, q11, q12⟩ := bk_live (x1 := x) (g := g) W0 mb.1 mb.2 (by rw [gs _ _ (by decide), i5]) (d + 92) (d + 93) m.toNat 0 V0 c7 (9, 0) (by omega) (by decide) (by rw [hc7, pu_eq]) (by rw [hc7, pu_sl (by decide), pu_eq]) (by rw [cs7 _ _ (by omega), cs54 _ _ (by decide) (by decide)]; exact i4.1) (P5.ob (fun o h0 h1 _ j => cs7 o j (by omega))) (M5.ob (fun o h0 h1 j => cs7 o j (by omega))) (hd.rf V0) T0 (fun i i0 i1 => by
        have := i4.2.2 i i0 i1
        rw [row4] at this
        rw [cs7 _ _ (by omega), cs7 _ _ (by omega), cs54 _ _ (by decide) (by decide), cs54 _ _ (by decide) (by decide), gs _ _ (by decide), gs _ _ (by decide)]
        exact this)
      unfold q_lv at q12
      obtain ⟨c9, hc9⟩ : ∃ c9, c9 = mm_up (mm_up c8 87 6 (V 48)) 87 7 (sp_done V) := ⟨_, rfl⟩
      have cs9 : ∀ o j, ¬ ((25 ≤ o ∧ o ≤ 28) ∨ (68 ≤ o ∧ o ≤ 71) ∨ (o = 87 ∧ 3 ≤ j ∧ j ≤ 7)) → c9 o j = c5 o j := fun o j q => by
        rw [hc9, pu_up, if_neg (by omega), pu_up, if_neg (by omega), q12 o j (by omega), cs7 o j (by omega)]
      have P8 : pr_P c8 15 V0 := P5.ob (fun o h0 h1 _ j => by rw [q12 o j (by omega), cs7 o j (by omega)])
      have le := cl_liveEnd W0 q8 q9 P8 q10 q3 q4 (by rw [q12 _ _ (by omega), cs7 _ _ (by omega), cs54 _ _ (by decide) (by decide)]; exact i4.1) q1b (u4 := v4) (d + 97)
      rw [← hc9] at le
      obtain ⟨G, hG⟩ : ∃ G, G = f_wr g V k w := ⟨_, rfl⟩
      have re := rf_liveEnd (x1 := x) (V := V) W0 q8 (show g 133 40 = m by rw [gs _ _ (by decide), i5]) q5 (by omega) (d + 98)
      rw [← hG] at re
      have Gs : ∀ o j, ¬ (o = 151 ∨ (o = 133 ∧ j = 41)) → G o j = g o j := fun o j q => by
        rw [hG]
        unfold f_wr
        rw [pu_up, if_neg (by omega), pu_ob (by omega), pu_ob (by omega), pu_ob (by omega), pu_ob (by omega)]
      have Ga : ∀ j, 0 ≤ j → j < 26 → G 139 j = V0 (48 + j) := fun j j0 j1 => by rw [Gs _ _ (by omega)]; exact ga j j0 j1
      have G0 : G 151 0 = w ∧ G 151 1 = k ∧ G 151 2 = V 48 ∧ G 151 3 = sp_done V ∧ G 133 41 = 1 := by
        rw [hG]
        unfold f_wr
        refine ⟨?_, ?_, ?_, ?_, pu_eq _ _ _ _⟩
        · rw [pu_ob (by decide), pu_sl (by decide), pu_sl (by decide), pu_sl (by decide), pu_eq]
        · rw [pu_ob (by decide), pu_sl (by decide), pu_sl (by decide), pu_eq]
        · rw [pu_ob (by decide), pu_sl (by decide), pu_eq]
        · rw [pu_ob (by decide), pu_eq]
      have rfl2 : mm_M mm_prog (d + 100) 267 [(21, 133), (0, x)] r = ((mm_M mm_prog (d + 99) 268 [(21, 133), (0, if x = 1 ∧ 0 < k then 1 else 0)] (vs G V)).bind fun o2 => some (if w = 0 then -1 else k, o2.2)) := by
        have la := rf_layAside (h := r4) (V := V0) (d + 98)
        rw [vs_id row4, ← hg] at la
        have k0 := i3.1.2.2.2.2.2.2.k0
        rw [rpre, i2, e_X12_book_30, if_pos (k0.mpr rfl), la, Option.bind_some]
        dsimp only
        rw [q2, re]
      have cfl2 : mm_M mm_prog (d + 100) 138 [(20, 0), (0, x)] c = if x = 0 then ((mm_M mm_prog (d + 99) 16 [(12, 25), (12, 68)] c9).bind fun o6 => (some (if w = 0 then -1 else k, o6.2))) else (if 0 < c9 87 5 then ((mm_M mm_prog (d + 99) 147 [(20, 0), (0, 1)] c9).bind fun o6 => (some (if w = 0 then -1 else k, o6.2))) else ((mm_M mm_prog (d + 99) 147 [(20, 0), (0, 0)] c9).bind fun o6 => (some (if w = 0 then -1 else k, o6.2)))) := by
        rw [cpre, i1, Option.bind_some]
        dsimp only
        rw [endT, Option.bind_some]
        show (if (0 : Int) = 0 then _ else _) = _
        rw [if_pos rfl]
        dsimp only
        rw [f1, Option.bind_some]
        dsimp only
        rw [e_X0_live, ← hc7, q1, le, Option.bind_some]
      have c95 : c9 87 5 = k := by rw [hc9, pu_sl (by decide), pu_sl (by decide), q3]
      have c9v : c9 87 3 = 1 ∧ c9 87 4 = w ∧ c9 87 6 = V 48 ∧ c9 87 7 = sp_done V := by
        refine ⟨?_, ?_, ?_, ?_⟩
        · rw [hc9, pu_sl (by decide), pu_sl (by decide), q12 _ _ (by omega), hc7, pu_sl (by decide), pu_sl (by decide), pu_eq]
        · rw [hc9, pu_sl (by decide), pu_sl (by decide), q4]
        · rw [hc9, pu_sl (by decide), pu_eq]
        · rw [hc9, pu_eq]
      have M9 : pr_M c9 25 V := q10.ob (fun o h0 h1 j => by rw [hc9, pu_ob (by omega), pu_ob (by omega)])
      have M68 : pr_M c9 68 V0 := f2.ob (fun o h0 h1 j => by rw [hc9, pu_ob (by omega), pu_ob (by omega), q12 o j (by omega), hc7, pu_ob (by omega), pu_ob (by omega), pu_ob (by omega)])
      have c511 : c5 1 1 = 0 := by rw [hc5, pu_ob (by decide), pu_eq]
      have c5f : c5 0 13 = 0 := by rw [hc5, pu_eq]
      have r4f : r4 133 10 = 0 := i3.2.2
      have r42 : r4 133 2 = 0 := by rw [i7 _ _ (by omega), r32]
      -- it goes, or nothing was lived
      have stays : ∀ c10 : mm_H, pr_M c10 25 V0 → (∀ o j, ¬ (25 ≤ o ∧ o ≤ 28) → c10 o j = c9 o j) → Inv (mg c10 (vs (asd G V 26) V0)) := by
        intro c10 Ma Mb
        have rr : ∀ o j, o ≠ 135 → o ≠ 139 → vs (asd G V 26) V0 o j = G o j := fun o j z1 z2 => by
          rw [vs_ne z1]
          unfold asd
          rw [if_neg (fun q => z2 q.1)]
        refine Inv_bs hI (mg_up (fun o j o1 q => ?_) (fun o j o1 q => ?_)) ?_ ?_ ?_ ?_ ?_
        · unfold q_bk at q
          rw [Mb o j (by omega), cs9 o j (by omega), cs5 o j (by omega)]
        · unfold q_bk at q
          by_cases z : o = 135
          · rw [z, vs_at, hV0]
          · rw [rr o j z (by omega), Gs o j (by omega), gs o j (by omega), rs4 o j (by omega)]
        · rw [row0]
          exact Ma.ob (fun o h0 h1 j => mg_c (by omega) j)
        · unfold BO
          rw [mg_rc (o := 87) (by decide), mg_rr (o := 133) (by decide), mg_rr (o := 151) (by decide), rr _ _ (by decide) (by decide), rr _ _ (by decide) (by decide), rr _ _ (by decide) (by decide), rr _ _ (by decide) (by decide), rr _ _ (by decide) (by decide), Mb _ _ (by decide), Mb _ _ (by decide), Mb _ _ (by decide), Mb _ _ (by decide), Mb _ _ (by decide), c9v.1, c9v.2.1, c95, c9v.2.2.1, c9v.2.2.2, G0.1, G0.2.1, G0.2.2.1, G0.2.2.2.1, G0.2.2.2.2]
          exact ⟨rfl, Or.inr ⟨rfl, rfl, rfl, rfl, rfl⟩⟩
        · rw [mg_c (by decide), mg_r (by decide), Mb _ _ (by decide), cs9 _ _ (by omega), c5f, rr _ _ (by decide) (by decide), Gs _ _ (by omega), gs _ _ (by decide), r4f]
        · rw [mg_c (by decide), Mb _ _ (by decide), cs9 _ _ (by omega), c511]
        · rw [mg_r (by decide), rr _ _ (by decide) (by decide), Gs _ _ (by omega), gs _ _ (by decide), r42]
      have Rfr : ∀ o j, o < 133 → vs (asd G V 26) V0 o j = r o j := fun o j o1 => by
        rw [vs_ne (by omega)]
        unfold asd
        rw [if_neg (by omega), Gs o j (by omega), gs o j (by omega), rs4 o j (by omega)]
      have Cfr : ∀ c10 : mm_H, (∀ o j, ¬ (25 ≤ o ∧ o ≤ 28) → c10 o j = c9 o j) → ∀ o j, 133 ≤ o → c10 o j = c o j := fun c10 Mb o j o1 => by
        rw [Mb o j (by omega), cs9 o j (by omega), cs5 o j (by omega)]
      by_cases x0 : x = 0
      · have M9' : pr_M c9 68 V0 := M68
        obtain ⟨c10, b1, b2, b3⟩ := cl_copyM (a := 25) (b := 68) M68 W0 T0.1 (by decide) (d + 98)
        have Mb : ∀ o j, ¬ (25 ≤ o ∧ o ≤ 28) → c10 o j = c9 o j := fun o j q => b3 o (by omega) j
        refine ⟨if w = 0 then -1 else k, c10, vs (asd G V 26) V0, ?_, ?_, stays c10 b2 Mb, Cfr c10 Mb, Rfr⟩
        · rw [cfl2, if_pos x0, b1, Option.bind_some]
        · rw [rfl2, if_neg (show ¬ (x = 1 ∧ 0 < k) by omega), rf_stay0 q8 Ga, Option.bind_some]
      · by_cases k0 : 0 < k
        · have A1 := hI.2.1.1
          have A2 := hI.2.1.2.1
          have A3 := hI.2.1.2.2.1
          rw [mg_c (by decide)] at A1 A2
          rw [mg_r (o := 133) (by decide), mg_c (o := 34) (by decide)] at A3
          have c934 : ∀ j, c9 34 j = c 34 j := fun j => by rw [cs9 _ _ (by omega), cs5 _ _ (by omega)]
          obtain ⟨c10, b1, b2, b3, b4, b5⟩ := cl_keep (h := c9) M68 W0 T0.1 (by rw [c934]; exact A1) (by rw [c934]; exact A2) (d + 96)
          rw [c934] at b2 b4 b5
          rw [c934] at b3
          have b5' : ∀ o j, ¬ ((o = 34 ∧ (j = 1 ∨ j = 2)) ∨ (36 + 4 * ((c 34 1 + 1) % 8) ≤ o ∧ o ≤ 39 + 4 * ((c 34 1 + 1) % 8))) → c10 o j = c9 o j := b5
          have G24 : G 133 24 = c 34 2 := by rw [Gs _ _ (by omega), gs _ _ (by decide), rs4 _ _ (by omega), A3]
          obtain ⟨s, s1, s2, s3, s4, s5⟩ := rf_stay1 q8 Ga (by rw [G24]; exact A2) (d + 97)
          rw [G24] at s3 s4 s5
          have sv : ∀ o j, ¬ (o = 135 ∨ o = 138 ∨ o = 139 ∨ (o = 133 ∧ j = 24)) → vs s V o j = G o j := fun o j q => by rw [vs_ne (by omega), s2 o j q]
          refine ⟨if w = 0 then -1 else k, c10, vs s V, ?_, ?_, ?_, ?_, ?_⟩
          · rw [cfl2, if_neg x0, if_pos (by rw [c95]; exact k0), e_X11_keepBefore, if_neg (by decide)]
            simp only [n34, n68]
            rw [b1, Option.bind_some, Option.bind_some]
          · rw [rfl2, if_pos (show x = 1 ∧ 0 < k by omega), s1, Option.bind_some]
          · have h341 : mg c r 34 1 = c 34 1 := mg_c (by decide) _
            have h342 : mg c r 34 2 = c 34 2 := mg_c (by decide) _
            have SP := kept_SP (h := mg c r) (h1 := mg c10 r) (h2 := mg c10 (vs s V)) (V' := V) hI (by rw [row0]; exact q8) q9 (M9.ob (fun o h0 h1 j => by rw [mg_c (by omega), b5' o j (by omega)])) (by
              rw [h341, row0]
              exact b4.ob (fun o h0 h1 j => mg_c (by omega) j)) (by rw [mg_c (by decide), h341, b2]) (by rw [mg_c (by decide), h342, b3]) (fun o j q q2 => by
              rw [h341] at q2
              unfold q_town q_past at q
              by_cases z : o < 133
              · rw [mg_c z, mg_c z, b5' o j (by omega), cs9 o j (by omega), cs5 o j (by omega)]
              · rw [mg_r (by omega), mg_r (by omega)]) (fun o j q q2 => by
              unfold q_town q_past at q
              by_cases z : o < 133
              · rw [mg_c z, mg_c z]
              · rw [mg_r (by omega), mg_r (by omega), sv o j (by omega), Gs o j (by omega), gs o j (by omega), rs4 o j (by omega)]) (by rw [mg_rr (by decide), vs_row]) (by rw [mg_r (by decide), vs_ne (by decide), s3, h342]) (fun j j0 j1 => by
              rw [h342] at j1 ⊢
              rw [mg_r (by decide), mg_r (by decide), vs_ne (by decide), s4 j j0 j1, Gs _ _ (by omega), gs _ _ (by decide), rs4 _ _ (by omega)]) (fun j j0 j1 => by
              rw [h342, mg_r (by decide), vs_ne (by decide), s5 j j0 j1, row0])
            refine Inv_iff.mpr ⟨SP.1, SP.2, Rst_bk (Inv_iff.mp hI).2.2 (mg_up (fun o j o1 q => ?_) (fun o j o1 q => ?_)) ?_ ?_ ?_ ?_⟩
            · unfold q_bp q_bk at q
              rw [b5' o j (by omega), cs9 o j (by omega), cs5 o j (by omega)]
            · unfold q_bp q_bk at q
              rw [sv o j (by omega), Gs o j (by omega), gs o j (by omega), rs4 o j (by omega)]
            · unfold BO
              rw [mg_rc (o := 87) (by decide), mg_rr (o := 133) (by decide), mg_rr (o := 151) (by decide), sv _ _ (by omega), sv _ _ (by omega), sv _ _ (by omega), sv _ _ (by omega), sv _ _ (by omega), b5' _ _ (by omega), b5' _ _ (by omega), b5' _ _ (by omega), b5' _ _ (by omega), b5' _ _ (by omega), c9v.1, c9v.2.1, c95, c9v.2.2.1, c9v.2.2.2, G0.1, G0.2.1, G0.2.2.1, G0.2.2.2.1, G0.2.2.2.2]
              exact ⟨rfl, Or.inr ⟨rfl, rfl, rfl, rfl, rfl⟩⟩
            · rw [mg_c (by decide), mg_r (by decide), b5' _ _ (by omega), cs9 _ _ (by omega), c5f, sv _ _ (by omega), Gs _ _ (by omega), gs _ _ (by decide), r4f]
            · rw [mg_c (by decide), b5' _ _ (by omega), cs9 _ _ (by omega), c511]
            · rw [mg_r (by decide), sv _ _ (by omega), Gs _ _ (by omega), gs _ _ (by decide), r42]
          · intro o j o1
            rw [b5' o j (by omega), cs9 o j (by omega), cs5 o j (by omega)]
          · intro o j o1
            rw [sv o j (by omega), Gs o j (by omega), gs o j (by omega), rs4 o j (by omega)]
        · have kz : k = 0 := by omega
          have VV : V = V0 := q11 kz
          refine ⟨if w = 0 then -1 else k, c9, vs (asd G V 26) V0, ?_, ?_, stays c9 (by rw [← VV]; exact M9) (fun _ _ _ => rfl), Cfr c9 (fun _ _ _ => rfl), Rfr⟩
          · rw [cfl2, if_neg x0, if_neg (by rw [c95]; exact k0), e_X11_keepBefore, if_pos rfl, Option.bind_some]
          · rw [rfl2, if_neg (show ¬ (x = 1 ∧ 0 < k) by omega), rf_stay0 q8 Ga, Option.bind_some]
    · obtain ⟨q1, q2, q3, q4, q5⟩ := i3
      obtain ⟨c5, hc5⟩ : ∃ c5, c5 = mm_up (mm_up c4 1 1 0) 0 13 (c4 1 8) := ⟨_, rfl⟩
      have endT : mm_M mm_prog (d + 99) 145 [(20, 0)] c4 = some (1, c5) := by
        have q0 : (mm_up c4 1 1 0) 1 8 = c4 1 8 := pu_sl (by decide)
        rw [e_X11_endText]
        simp only [show (0 : Int) + 1 = 1 from rfl, q0]
        rw [← hc5, if_neg (by rw [hc5, pu_ob (by decide), q0]; exact q2)]
      have c59 : c5 1 9 = c4 1 9 := by rw [hc5, pu_ob (by decide), pu_sl (by decide)]
      have cs5 : ∀ o k, ¬ (o = 1 ∨ (o = 87 ∧ k = 2) ∨ o = 88 ∨ o = 89 ∨ (o = 0 ∧ k = 13)) → c5 o k = c o k := fun o k q => by
        rw [hc5, pu_up, if_neg (by omega), pu_up, if_neg (by omega), i4 o k (by omega), cs3 o k (by omega)]
      have rs4 : ∀ o k, ¬ ((o = 133 ∧ (k = 0 ∨ (2 ≤ k ∧ k ≤ 13) ∨ k = 40)) ∨ o = 150) → r4 o k = r o k := fun o k q => by
        rw [i5 o k (by omega), rs3 o k (by omega)]
      refine ⟨-2 - c4 1 9, c5, r4, ?_, ?_, ?_, ?_, ?_⟩
      · rw [cpre, i1, Option.bind_some]
        dsimp only
        rw [endT, Option.bind_some]
        show (if (1 : Int) = 0 then _ else _) = _
        rw [if_neg (by decide)]
        dsimp only
        rw [c59, pu_w (by omega) (by omega)]
      · rw [rpre]
        exact i2
      · refine Inv_bs hI (mg_up (fun o j o1 q => ?_) (fun o j o1 q => ?_)) ?_ ?_ ?_ ?_ ?_
        · unfold q_bk at q
          rw [cs5 o j (by omega)]
        · unfold q_bk at q
          rw [rs4 o j (by omega)]
        · rw [row0]
          exact M0.ob (fun o h0 h1 j => by rw [mg_c (by omega), cs5 o j (by omega)])
        · have bo := (Inv_iff.mp hI).2.2.2.2.2.2.2.2.1
          unfold BO at bo ⊢
          rw [mg_rc (o := 87) (by decide), mg_rr (o := 133) (by decide), mg_rr (o := 151) (by decide)] at bo
          rw [mg_rc (o := 87) (by decide), mg_rr (o := 133) (by decide), mg_rr (o := 151) (by decide), cs5 _ _ (by omega), cs5 _ _ (by omega), cs5 _ _ (by omega), cs5 _ _ (by omega), cs5 _ _ (by omega), rs4 _ _ (by omega), rs4 _ _ (by omega), rs4 _ _ (by omega), rs4 _ _ (by omega), rs4 _ _ (by omega)]
          exact bo
        · rw [mg_c (by decide), mg_r (by decide), hc5, pu_eq, q3]
        · rw [mg_c (by decide), hc5, pu_ob (by decide), pu_eq]
        · rw [mg_r (by decide), i5 _ _ (by omega), r32]
      · intro o j o1
        rw [cs5 o j (by omega)]
      · intro o j o1
        rw [rs4 o j (by omega)]
  · refine ⟨-1000, c, mm_up r 133 0 0, ?_, ?_, ?_, fun _ _ _ => rfl, fun o j o1 => pu_ob (by omega)⟩
    · rw [e_X11_book, if_neg (fun q => cx (Or.inl q)), if_neg (fun q => cx (Or.inr q))]
    · rw [e_X12_book, rf_isIn, Option.bind_some, decide_eq_false (by omega)]
      rfl
    · rw [mg_th]
      exact hI.th 0
