/-! swift, joins, once, person -/
theorem f_by_act {V : Int → Int} {c : Int} : (if f_why V 3 c = 0 then f_live V 3 c else V) = f_by V c := by
  have e1 : f_why V 3 c = if V 49 = c then 1 else 0 := rfl
  have e2 : f_live V 3 c = vu (vu V 49 c) 50 (min (V 50) (V (5 + c))) := rfl
  rw [e1, e2]
  unfold f_by
  by_cases q : V 49 = c
  · rw [if_pos q, if_neg (by decide), if_pos q.symm]
  · rw [if_neg q, if_pos rfl, if_neg (fun z => q z.symm)]
/-- who is swiftest so far -/
def f_sw (V : Int → Int) (w c : Int) (x : Int × Int) : Int × Int := match f_till (f_dn w) (600 - V 48).toNat (f_by V c) 0 with
  | none => x
  | some k => if k < x.2 then (c, k) else x
theorem f_sw_n {V : Int → Int} {w c : Int} {x : Int × Int} (e : f_till (f_dn w) (600 - V 48).toNat (f_by V c) 0 = none) : f_sw V w c x = x := by
  unfold f_sw
  rw [e]
theorem f_sw_s {V : Int → Int} {w c k : Int} {x : Int × Int} (e : f_till (f_dn w) (600 - V 48).toNat (f_by V c) 0 = some k) : f_sw V w c x = if k < x.2 then (c, k) else x := by
  unfold f_sw
  rw [e]
theorem n72 : (0 : Int) + 72 = 72 := rfl
theorem k_swift (w : Int) : Cal 130 233 [(0, w)] := by
  intro d h hI
  have M := hI.M
  have P := hI.P
  have b48 := hI.S.1
  have w1 := hI.W.2.1
  by_cases c : 0 ≤ w ∧ w < h 135 3
  · have w3 := hI.W.2.2.2.1
    by_cases c2 : h 135 (68 + w) = 0
    · refine ⟨-1, h, mm_up h 133 0 0, ?_, ?_, hI.th 0⟩
      · rw [e_X11_swift]
        simp only [n15, n25]
        rw [cl_has P (by decide) (by decide), Option.bind_some]
        simp only [Int.reduceAdd]
        rw [decide_eq_true c]
        show (if (1 : Int) = 0 then _ else _) = _
        rw [if_neg (by decide), cl_isDone M hI.W hI.S c.1 c.2, Option.bind_some, decide_eq_true c2]
        rfl
      · rw [e_X12_swift, rth h 0, rf_isWork hI.W, Option.bind_some]
        dsimp only
        rw [decide_eq_true c]
        show (if (1 : Int) = 0 then _ else _) = _
        rw [if_neg (by decide), pu_w (by omega) (by omega), if_pos (by omega), r135]
        simp only [vs_at]
        rw [if_pos c2]
    · obtain ⟨⟨h1, b1, m1, u1⟩, r1, F1, e1, e2⟩ := sp_it_rel (R := fun i (s : mm_H × Int × Int × mm_V) => mm_R mm_prog (d + 99) T_X11_swift 40 [(20, 0), (0, w), (0, s.2.1), (0, s.2.2.1), (0, i), s.2.2.2] [] s.1) (f := f_sw (h 135) w) (I := fun i s x => fr 72 h s.1 ∧ s.2.1 = x.1 ∧ s.2.2.1 = x.2) (N := 1 + h 135 1) (fun i s x i0 i1 hh => by
        obtain ⟨s, b, m, u⟩ := s
        obtain ⟨sF, rfl, rfl⟩ := hh
        have P1 := P.fr sF (by decide)
        have M1 : pr_M s 25 (h 135) := M.ob (fun o h0 h1 k => sF o (by omega) k)
        obtain ⟨s1, q1, M2, F2⟩ := cl_copyM (a := 72) (b := 25) M1 hI.W hI.S (by decide) (d + 98)
        have P2 := P1.fr F2 (by decide)
        obtain ⟨s2, q2, M3, F3⟩ := cl_act (a := 3) (x := i) P2 M2 hI.W hI.T ⟨by decide, fun _ => ⟨i0, by omega⟩, fun z => by omega⟩ (by decide) (d + 95)
        rw [f_by_act] at M3
        obtain ⟨bT, bH, b8⟩ := f_by_ok hI.W hI.T i0 (show i ≤ h 135 1 by omega)
        have P3 := bH.P hI.W (P2.fr F3 (by decide))
        obtain ⟨s3, q3, F4⟩ := cl_tillDone P3 M3 (bH.W hI.W) bT c.1 (by rw [bH 3 (by omega)]; exact c.2) (by decide) (d + 94)
        rw [b8, Int.add_zero] at q3
        have FF := ((sF.tr F2).tr F3).tr F4
        dsimp only
        rw [e_X11_swift_40]
        simp only [n15, n25, n72]
        have ec : s (15 + 1) 0 = h 135 1 := P1.2.2.1 0 (by decide) (by decide)
        rw [e_X4_beaters, ec, pu_w (by omega) (by omega), Option.bind_some]
        dsimp only
        rw [if_pos i1, q1, Option.bind_some]
        dsimp only
        rw [q2, Option.bind_some]
        dsimp only
        rw [q3, Option.bind_some, pu_w (by omega) (by omega)]
        dsimp only
        cases e : f_till (f_dn w) (600 - h 135 48).toNat (f_by (h 135) i) 0 with
        | none =>
          rw [f_sw_n e]
          exact ⟨(s3, x.1, x.2, (0, -1)), rfl, FF, rfl, rfl⟩
        | some k =>
          have := f_till_ge e
          rw [f_sw_s e]
          show ∃ s', (if k = -1 then _ else if k < x.2 then _ else _) = _ ∧ _
          rw [if_neg (by omega)]
          by_cases z : k < x.2
          · rw [if_pos z, if_pos z]
            exact ⟨(s3, i, k, (0, k)), rfl, FF, rfl, rfl⟩
          · rw [if_neg z, if_neg z]
            exact ⟨(s3, x.1, x.2, (0, k)), rfl, FF, rfl, rfl⟩) (1 + h 135 1).toNat 0 (h, -1, 601, (9, 0)) (-1, 601) (by omega) (by omega) ⟨fr_rf 72 h, rfl, rfl⟩
      dsimp only at r1 F1 e1 e2
      have I1 := hI.tr (Or.inr rfl) F1
      have er : h1 135 = h 135 := fr_row F1 (by decide)
      obtain ⟨⟨h2, b2, m2, u2⟩, r2, I2, e3, e4, e5⟩ := sp_it_rel (R := fun i (s : mm_H × Int × Int × mm_V) => mm_R mm_prog (d + 99) T_X12_swift 36 [(21, 133), (0, w), (0, s.2.1), (0, s.2.2.1), (0, i), s.2.2.2] [] s.1) (f := f_sw (h 135) w) (I := fun i s x => Inv s.1 ∧ s.1 135 = h 135 ∧ s.2.1 = x.1 ∧ ((s.2.2.1 = x.2 ∧ x.2 ≤ 601) ∨ (s.2.2.1 = 100000 ∧ x.2 = 601))) (N := 1 + h 135 1) (fun i s x i0 i1 hh => by
        obtain ⟨s, b, m, u⟩ := s
        obtain ⟨sI, sr, rfl, sm⟩ := hh
        dsimp only at sI sr sm ⊢
        rw [e_X12_swift_36, r135, sr, if_neg (by omega)]
        conv in mm_M mm_prog _ 231 _ _ => rw [← vs_id sr]
        rw [rf_doneBy hI.W hI.T c.1 c.2 i0 (by omega), Option.bind_some, asd_vs sr, pu_w (by omega) (by omega)]
        have I3 : Inv (asd s (h 135) 26) := Inv_as sI (asd_dif _ _ _)
        have r3 : asd s (h 135) 26 135 = h 135 := by
          rw [← sr]
          funext k
          exact if_neg (fun q => absurd q.1 (by decide))
        dsimp only
        cases e : f_till (f_dn w) (600 - h 135 48).toNat (f_by (h 135) i) 0 with
        | none =>
          rw [f_sw_n e]
          show ∃ s', (if (100000 : Int) < m then _ else _) = _ ∧ _
          rw [if_neg (by omega)]
          exact ⟨(asd s (h 135) 26, x.1, m, (0, 100000)), rfl, I3, r3, rfl, sm⟩
        | some k =>
          have := f_till_ge e
          rw [f_sw_s e]
          show ∃ s', (if k < m then _ else _) = _ ∧ _
          by_cases z : k < m
          · rw [if_pos z, if_pos (by omega)]
            exact ⟨(asd s (h 135) 26, i, k, (0, k)), rfl, I3, r3, rfl, Or.inl ⟨rfl, by dsimp only; omega⟩⟩
          · rw [if_neg z, if_neg (by omega)]
            exact ⟨(asd s (h 135) 26, x.1, m, (0, k)), rfl, I3, r3, rfl, sm⟩) (1 + h 135 1).toNat 0 (mm_up h1 133 0 0, -1, 100000, (9, 0)) (-1, 601) (by omega) (by omega) ⟨I1.th 0, (th_row h1 0).trans er, rfl, Or.inr ⟨rfl, rfl⟩⟩
      dsimp only at r2 I2 e3 e4
      refine ⟨b1, h1, h2, ?_, ?_, I2⟩
      · rw [e_X11_swift]
        simp only [n15, n25]
        rw [cl_has P (by decide) (by decide), Option.bind_some]
        simp only [Int.reduceAdd]
        rw [decide_eq_true c]
        show (if (1 : Int) = 0 then _ else _) = _
        rw [if_neg (by decide), cl_isDone M hI.W hI.S c.1 c.2, Option.bind_some, decide_eq_false c2]
        show (if (0 : Int) = 0 then _ else _) = _
        rw [if_pos rfl]
        dsimp only
        rw [r1, e_X11_swift_40]
        simp only [n15, n25]
        have ec : h1 (15 + 1) 0 = h 135 1 := (P.fr F1 (by decide)).2.2.1 0 (by decide) (by decide)
        rw [e_X4_beaters, ec, pu_w (by omega) (by omega), Option.bind_some]
        dsimp only
        rw [if_neg (by omega)]
      · rw [e_X12_swift]
        conv in mm_M mm_prog _ 199 _ _ => rw [rth h1 0, er]
        rw [rf_isWork hI.W, Option.bind_some]
        dsimp only
        rw [decide_eq_true c]
        show (if (1 : Int) = 0 then _ else _) = _
        rw [if_neg (by decide), pu_w (by omega) (by omega), if_pos (by omega), r135]
        simp only [vs_at]
        rw [if_neg c2, vs_id ((th_row h1 0).trans er), r2, e_X12_swift_36, r135, e3, if_pos (by omega), e4, e1]
  · refine ⟨-1, h, mm_up h 133 0 0, ?_, ?_, hI.th 0⟩
    · rw [e_X11_swift]
      simp only [n15, n25]
      rw [cl_has P (by decide) (by decide), Option.bind_some]
      simp only [Int.reduceAdd]
      rw [decide_eq_false c]; rfl
    · rw [e_X12_swift, rth h 0, rf_isWork hI.W, Option.bind_some]
      dsimp only
      rw [decide_eq_false c]; rfl
