/-! ONES of each kind -/
section
variable {c r : mm_H} {n most p t : Int}
/-- behind a ONE that is compared: a sign -/
theorem cl_cmp {t1 : Int} {c1 c2 : mm_H} {D : Nat} (g1 : c1 1 4 = t1) (ts : t1 = 5 ∨ t1 = 6 ∨ t1 = 7) (f1 : mm_M mm_prog (D + 1) 84 [(18, 1)] c1 = some (0, c2)) : ((mm_M mm_prog (D + 1) 75 [(2, c1 1 4)] c1).bind fun o3 => (if o3.1 = 0 then ((mm_M mm_prog (D + 1) 90 [(18, 1), (0, 1)] o3.2).bind fun o4 => (if o4.1 = 0 ∨ o4.1 = 1 then (some (o4.1, o4.2)) else none)) else ((mm_M mm_prog (D + 1) 84 [(18, 1)] o3.2).bind fun o4 => ((mm_M mm_prog (D + 1) 92 [(18, 1), (0, 0), (0, 999)] o4.2).bind fun o5 => (if o5.1 = (-1) then (some (0, o5.2)) else ((mm_M mm_prog (D + 1) 76 [(17, 90), (2, t), (2, c1 1 4), (0, o5.1)] o5.2).bind fun o6 => (if o6.1 = 0 then (some (0, o6.2)) else (some (1, o6.2))))))))) = ((mm_M mm_prog (D + 1) 92 [(18, 1), (0, 0), (0, 999)] c2).bind fun o5 => (if o5.1 = (-1) then (some (0, o5.2)) else ((mm_M mm_prog (D + 1) 76 [(17, 90), (2, t), (2, t1), (0, o5.1)] o5.2).bind fun o6 => (if o6.1 = 0 then (some (0, o6.2)) else (some (1, o6.2)))))) := by
  rw [g1, e_X7_isSign]
  have e : (if t1 = 5 then (some (1, c1) : Option mm_O) else (if t1 = 6 then (some (1, c1)) else (if t1 = 7 then (some (1, c1)) else (some (0, c1))))) = some (1, c1) := by
    rcases ts with z | z | z
    · rw [if_pos z]
    · rw [if_neg (by omega), if_pos z]
    · rw [if_neg (by omega), if_neg (by omega), if_pos z]
  rw [e, Option.bind_some]
  show (if (1 : Int) = 0 then _ else _) = _
  rw [if_neg (by decide)]
  dsimp only
  rw [f1, Option.bind_some]
theorem cl_cmpN {t1 : Int} {c1 : mm_H} {D : Nat} (g1 : c1 1 4 = t1) (ts : ¬ (t1 = 5 ∨ t1 = 6 ∨ t1 = 7)) : ((mm_M mm_prog (D + 1) 75 [(2, c1 1 4)] c1).bind fun o3 => (if o3.1 = 0 then ((mm_M mm_prog (D + 1) 90 [(18, 1), (0, 1)] o3.2).bind fun o4 => (if o4.1 = 0 ∨ o4.1 = 1 then (some (o4.1, o4.2)) else none)) else ((mm_M mm_prog (D + 1) 84 [(18, 1)] o3.2).bind fun o4 => ((mm_M mm_prog (D + 1) 92 [(18, 1), (0, 0), (0, 999)] o4.2).bind fun o5 => (if o5.1 = (-1) then (some (0, o5.2)) else ((mm_M mm_prog (D + 1) 76 [(17, 90), (2, t), (2, c1 1 4), (0, o5.1)] o5.2).bind fun o6 => (if o6.1 = 0 then (some (0, o6.2)) else (some (1, o6.2))))))))) = ((mm_M mm_prog (D + 1) 90 [(18, 1), (0, 1)] c1).bind fun o4 => (if o4.1 = 0 ∨ o4.1 = 1 then (some (o4.1, o4.2)) else none)) := by
  rw [g1, e_X7_isSign, if_neg (by omega), if_neg (by omega), if_neg (by omega), Option.bind_some]
  show (if (0 : Int) = 0 then _ else _) = _
  rw [if_pos rfl]
/-- the class, as far as a ONE's first token -/
theorem cl_one1 {s o w : Int} {c1 : mm_H} (g : c 1 4 = t) (ht : f_beg t) (hS : SN c r s o w) (o20 : o < 20) (w8 : w < 8) (D : Nat) (e1 : mm_M mm_prog (D + 1) 84 [(18, 1)] (mm_up c 90 4 (o + 1)) = some (0, c1)) : mm_M mm_prog (D + 2) 73 [(17, 90), (18, 1), (14, 15), (0, w + 1)] c = (if t = 28 then ((mm_M mm_prog (D + 1) 73 [(17, 90), (18, 1), (14, 15), (0, w + 1 + 1)] c1).bind fun o3 => (if o3.1 = 0 then (some (0, o3.2)) else ((mm_M mm_prog (D + 1) 76 [(17, 90), (2, t), (2, t), (0, 0)] o3.2).bind fun o4 => (if o4.1 = 0 then (some (0, o4.2)) else (some (1, o4.2)))))) else (if t = 8 then ((mm_M mm_prog (D + 1) 71 [(17, 90), (18, 1), (14, 15), (0, w + 1 + 1)] c1).bind fun o3 => (if o3.1 = 0 then (some (0, o3.2)) else ((mm_M mm_prog (D + 1) 91 [(18, 1), (2, 9)] o3.2).bind fun o4 => (if o4.1 = 0 then (some (0, o4.2)) else (some (1, o4.2)))))) else (if t = 17 ∨ t = 31 then ((mm_M mm_prog (D + 1) 76 [(17, 90), (2, t), (2, t), (0, 0)] c1).bind fun o3 => (if o3.1 = 0 ∨ o3.1 = 1 then (some (o3.1, o3.2)) else none)) else (if t = 29 ∨ t = 30 then ((mm_M mm_prog (D + 1) 93 [(18, 1), (14, 15), (0, if t = 29 then 2 else 1)] c1).bind fun o3 => (if o3.1 = (-1) then (some (0, o3.2)) else ((mm_M mm_prog (D + 1) 76 [(17, 90), (2, t), (2, t), (0, o3.1)] o3.2).bind fun o4 => (if o4.1 = 0 then (some (0, o4.2)) else (some (1, o4.2)))))) else ((mm_M mm_prog (D + 1) 75 [(2, c1 1 4)] c1).bind fun o3 => (if o3.1 = 0 then ((mm_M mm_prog (D + 1) 90 [(18, 1), (0, 1)] o3.2).bind fun o4 => (if o4.1 = 0 ∨ o4.1 = 1 then (some (o4.1, o4.2)) else none)) else ((mm_M mm_prog (D + 1) 84 [(18, 1)] o3.2).bind fun o4 => ((mm_M mm_prog (D + 1) 92 [(18, 1), (0, 0), (0, 999)] o4.2).bind fun o5 => (if o5.1 = (-1) then (some (0, o5.2)) else ((mm_M mm_prog (D + 1) 76 [(17, 90), (2, t), (2, c1 1 4), (0, o5.1)] o5.2).bind fun o6 => (if o6.1 = 0 then (some (0, o6.2)) else (some (1, o6.2))))))))))))) := by
  obtain ⟨⟨n1, n2, n3, n4, n5⟩, sb, ob, wb⟩ := hS
  rw [e_X7_readOne, g, beg_y ht, Option.bind_some]
  show (if (1 : Int) = 0 then _ else _) = _
  rw [if_neg (by decide)]
  dsimp only
  rw [if_pos (by rw [n3]; exact o20), if_neg (by omega), n3, pu_w (x := o + 1) (by omega) (by omega), pu_w (x := w + 1 + 1) (by omega) (by omega), e1, Option.bind_some]
  dsimp only
  by_cases a : t = 28
  · rw [if_pos a, if_pos a]
  rw [if_neg a, if_neg a]
  by_cases b : t = 8
  · rw [if_pos b, if_pos b]
  rw [if_neg b, if_neg b]
  by_cases e : t = 17
  · rw [if_pos e, if_pos (Or.inl e)]
  rw [if_neg e]
  by_cases f : t = 31
  · rw [if_pos f, if_pos (Or.inr f)]
  rw [if_neg f, if_neg (show ¬ (t = 17 ∨ t = 31) by omega)]
  by_cases i : t = 29
  · rw [if_pos (show t = 29 ∨ t = 30 from Or.inl i)]
    simp only [if_pos i]
  by_cases j : t = 30
  · rw [if_pos (show t = 29 ∨ t = 30 from Or.inr j)]
    simp only [if_neg i, if_pos j]
  rw [if_neg i, if_neg j, if_neg (show ¬ (t = 29 ∨ t = 30) by omega)]
theorem p_zero : P_one 0 := by
  intro d d' c r n most p t s o w h hX hS hw
  by_cases ht : f_beg t
  · exact one_many h hS ht (Or.inr (by omega)) (d + 3 * 0) (d' + 4 * 0)
  · exact one_no h ht (d + 3 * 0) (d' + 4 * 0)
theorem p_succ {e : Nat} (hO : P_one e) (hC : P_cond e) : P_one (e + 1) := by
  intro d d' c r n most p t s o w h hX hS hw
  rw [show d + 3 * (e + 1) + 8 = d + 3 * e + 3 + 8 by omega, show d' + 4 * (e + 1) + 8 = d' + 4 * e + 4 + 8 by omega]
  by_cases ht : f_beg t
  · by_cases hm : o = 20 ∨ w = 8
    · exact one_many h hS ht hm (d + 3 * e + 3) (d' + 4 * e + 4)
    have hS' := hS
    obtain ⟨⟨n1, n2, n3, n4, n5⟩, sb, ob, wb⟩ := hS'
    have g := h.1.2.2.2.1
    obtain ⟨c1, r1, p1, t1, e1, e2, e3, X1, S1, wc, xr, k1, k2, k3⟩ := one_first h hX hS (by omega) (by omega) (d + 3 * e + 6) (d' + 4 * e + 7)
    have C := cl_one1 g ht hS (by omega) (by omega) (d + 3 * e + 9) e1
    have R := sdr_first (x1 := sp_b (decide (t = 8))) (x2 := f_sx t) hS (by omega) (by omega) (d' + 4 * e + 11) e2
    have C' : mm_M mm_prog (d + 3 * e + 3 + 8) 73 [(17, 90), (18, 1), (14, 15), (0, w + 1)] c = _ := C
    have R' : mm_M mm_prog (d' + 4 * e + 4 + 8) 273 [(21, 133)] r = _ := (rf_saidT h.1 (d' + 4 * e + 4)).trans ((sdk_rest ht _ r).trans R)
    have S1' := S1
    obtain ⟨⟨m1, m2, m3, m4, m5⟩, -⟩ := S1'
    rw [C', R']
    by_cases t28 : t = 28
    · rw [if_pos t28, decide_eq_false (by omega), if_pos (show sp_b false = 0 from rfl), show f_sx t = 17 by rw [t28]; rfl, if_pos rfl]
      rcases hO (d + 2) (d' + 2) c1 r1 n most p1 t1 s (o + 1) (w + 1) e3 X1 S1 (by omega) with ⟨c2, r2, p2, t2, s2, o2, f1, f2, f3, f4, f5, f6⟩ | ⟨c2, r2, f1, f2, f3, f4, f5⟩
      · have f1' : mm_M mm_prog (d + 3 * e + 10) 73 [(17, 90), (18, 1), (14, 15), (0, w + 1 + 1)] c1 = some (1, c2) := by rw [← f1]; congr 1; omega
        have f2' : mm_M mm_prog (d' + 4 * e + 10) 273 [(21, 133)] r1 = some (1, r2) := by rw [← f2]; congr 1; omega
        have f4' := f4
        obtain ⟨⟨q1, q2, q3, q4, q5⟩, qb, -⟩ := f4'
        obtain ⟨r3, hr3⟩ : ∃ r3, r3 = mm_up (mm_up (sayS r2 s2 1 (r2 133 46) 0 0) 133 46 s2) 133 45 w := ⟨_, rfl⟩
        have nt : mm_M mm_prog (d' + 4 * e + 11) 274 [(21, 133)] r1 = some (1, mm_up (sayS r2 s2 1 (r2 133 46) 0 0) 133 46 s2) := by
          rw [e_X12_readNot, f2', Option.bind_some]
          show (if (1 : Int) = 0 then _ else _) = _
          rw [if_neg (by decide)]
          dsimp only
          rw [rf_sayS q2 (by omega) (by omega), Option.bind_some]
        left
        refine ⟨addS c2 s2 28 28 0, r3, p2, t2, s2 + 1, o2, ?_, ?_, ?_, ?_, (wc.tr f5).add, by rw [hr3]; exact (((xr.tr f6).say.up (by decide)).up (by decide))⟩
        · rw [f1', Option.bind_some]
          show (if (1 : Int) = 0 then _ else _) = _
          rw [if_neg (by decide)]
          dsimp only
          rw [t28, cl_addS q1 (by omega) (by omega), Option.bind_some]
          rfl
        · rw [nt, Option.bind_some, if_pos (Or.inr rfl)]
          dsimp only
          rw [pu_sl (show (45 : Int) ≠ 46 by decide), say_133 (by decide), q5, m5, pu_w (by omega) (by omega), show w + 1 - 1 = w by omega, ← hr3]
        · exact f3.cg (fun k => by unfold addS; rw [pu_ob (by decide), pu_ob (by decide), pu_ob (by decide), pu_ob (by decide)]) (fun k => by unfold addS; rw [pu_ob (by decide), pu_ob (by decide), pu_ob (by decide), pu_ob (by decide)]) (fun k k0 k1 => by rw [hr3, pu_sl (by omega), pu_sl (by omega), say_133 (by omega)]) (fun k => by rw [hr3, pu_ob (by decide), pu_ob (by decide)]; unfold sayS; rw [pu_ob (by decide), pu_ob (by decide), pu_ob (by decide), pu_ob (by decide), pu_ob (by decide)])
        · rw [show r3 133 46 = s2 by rw [hr3, pu_sl (by decide), pu_eq]]
          exact SGa_not f4 (by rw [m5, n5]) ob.1 k3 (fun i hi => ⟨k1 91 (by decide) (by decide) i, k1 92 (by decide) (by decide) i, k1 93 (by decide) (by decide) i⟩) (fun j j0 j1 => k2 j) r3 (fun k => by rw [hr3, pu_ob (by decide), pu_ob (by decide)]) (by rw [hr3, pu_sl (by decide), pu_sl (by decide), say_43]) (by rw [hr3, pu_sl (by decide), pu_sl (by decide), say_133 (by decide)]; exact q4) (by rw [hr3, pu_eq, n5])
      · have f1' : mm_M mm_prog (d + 3 * e + 10) 73 [(17, 90), (18, 1), (14, 15), (0, w + 1 + 1)] c1 = some (0, c2) := by rw [← f1]; congr 1; omega
        have f2' : mm_M mm_prog (d' + 4 * e + 10) 273 [(21, 133)] r1 = some (0, r2) := by rw [← f2]; congr 1; omega
        right
        refine ⟨c2, mm_up r2 133 45 (mm_w (r2 133 45 - 1)), ?_, ?_, f3.cg (fun _ => rfl) (fun _ => rfl) (pu_sl (by decide)) (pu_sl (by decide)), wc.tr f4, (xr.tr f5).up (by decide)⟩
        · rw [f1', Option.bind_some]; rfl
        · rw [e_X12_readNot, f2', Option.bind_some]
          show ((if (0 : Int) = 0 then _ else _ : Option mm_O).bind _) = _
          rw [if_pos rfl, Option.bind_some, if_pos (Or.inl rfl)]
    rw [if_neg t28]
    by_cases t8 : t = 8
    · rw [if_pos t8, decide_eq_true t8, if_neg (show ¬ sp_b true = 0 by decide)]
      rcases hC d d' c1 r1 n most p1 t1 s (o + 1) (w + 1) e3 X1 S1 (by omega) with ⟨c2, r2, p2, t2, s2, o2, f1, f2, f3, f4, f5, f6⟩ | ⟨c2, r2, f1, f2, f3, f4, f5⟩
      · have f4' := f4
        obtain ⟨⟨q1, q2, q3, q4, q5⟩, qb, -⟩ := f4'
        have sg := tk_sign (x := 41) f3.1 (d' + 4 * e + 9)
        rcases tf_take (w := 9) f3 (by decide) (by decide) (d + 3 * e + 5) (d' + 4 * e + 6) with ⟨z, c3, r3, p3, t3, i1, i2, i3, i4, i5, i6⟩ | ⟨z, c3, r3, i1, i2, i3, i4, i5⟩
        · left
          have br : mm_M mm_prog (d' + 4 * e + 11) 275 [(21, 133)] r1 = some (1, r3) := by
            rw [e_X12_readBracket, f2, Option.bind_some]
            show (if (1 : Int) = 0 then _ else _) = _
            rw [if_neg (by decide)]
            dsimp only
            rw [sg, Option.bind_some, if_neg (sp_bt (decide_eq_true (by rw [z]; decide)))]
            dsimp only
            rw [i2, Option.bind_some]
          have r345 : r3 133 45 = w + 1 := by rw [i6 _ _ (by omega), q5, m5]
          refine ⟨c3, mm_up r3 133 45 w, p3, t3, s2, o2, ?_, ?_, i3.oth rfl rfl (fun k _ _ => pu_sl (by omega)) (row_ne (by decide)), ?_, (wc.tr f5).tr i5.s, ((xr.tr f6).tr i6.s).up (by decide)⟩
          · rw [f1, Option.bind_some]
            show (if (1 : Int) = 0 then _ else _) = _
            rw [if_neg (by decide)]
            dsimp only
            rw [i1, Option.bind_some]
            rfl
          · rw [br, Option.bind_some, if_pos (Or.inr rfl)]
            dsimp only
            rw [r345, pu_w (by omega) (by omega), show w + 1 - 1 = w by omega]
          · rw [pu_sl (by decide), i6 133 46 (by omega)]
            exact SGa_wk f4 ob.1 k3 (fun i hi => ⟨k1 91 (by decide) (by decide) i, k1 92 (by decide) (by decide) i, k1 93 (by decide) (by decide) i⟩) (fun j j0 j1 => k2 j) (fun o h0 h1 k => i5.ob (by omega) k) ((row_ne (by decide)).trans (i6.row (by decide))) (by rw [pu_sl (by decide), i6 _ _ (by omega)]) (by rw [pu_sl (by decide), i6 _ _ (by omega)]) (by rw [pu_eq, n5])
        · right
          have nsg : decide ((4 ≤ t2 ∧ t2 ≤ 9) ∧ sgc t2 = 41) = false := decide_eq_false (fun q => z (by
            have := q.2
            unfold sgc at this
            by_cases y : t2 < 8
            · rw [if_pos y] at this; omega
            · rw [if_neg y] at this; omega))
          have br : mm_M mm_prog (d' + 4 * e + 11) 275 [(21, 133)] r1 = some (0, r3) := by
            rw [e_X12_readBracket, f2, Option.bind_some]
            show (if (1 : Int) = 0 then _ else _) = _
            rw [if_neg (by decide)]
            dsimp only
            rw [sg, Option.bind_some, if_pos (sp_bn nsg)]
            dsimp only
            rw [i2, Option.bind_some, if_pos (Or.inl rfl)]
          refine ⟨c3, mm_up r3 133 45 (mm_w (r3 133 45 - 1)), ?_, ?_, i3.cg (fun _ => rfl) (fun _ => rfl) (pu_sl (by decide)) (pu_sl (by decide)), (wc.tr f5).tr i4.s, ((xr.tr f6).tr i5.s).up (by decide)⟩
          · rw [f1, Option.bind_some]
            show (if (1 : Int) = 0 then _ else _) = _
            rw [if_neg (by decide)]
            dsimp only
            rw [i1, Option.bind_some]
            rfl
          · rw [br, Option.bind_some, if_pos (Or.inl rfl)]
      · right
        refine ⟨c2, mm_up r2 133 45 (mm_w (r2 133 45 - 1)), ?_, ?_, f3.cg (fun _ => rfl) (fun _ => rfl) (pu_sl (by decide)) (pu_sl (by decide)), wc.tr f4, (xr.tr f5).up (by decide)⟩
        · rw [f1, Option.bind_some]; rfl
        · rw [e_X12_readBracket, f2, Option.bind_some]
          show ((if (0 : Int) = 0 then _ else _ : Option mm_O).bind _) = _
          rw [if_pos rfl, Option.bind_some, if_pos (Or.inl rfl)]
    rw [if_neg t8, decide_eq_false t8, if_pos (show sp_b false = 0 from rfl)]
    by_cases tl : t = 17 ∨ t = 31
    · obtain ⟨wv, hwv⟩ : ∃ wv, wv = f_sx t := ⟨_, rfl⟩
      have hv : (t = 17 ∧ wv = 18) ∨ (t = 31 ∧ wv = 19) := by
        rw [hwv]
        rcases tl with z | z
        · exact Or.inl ⟨z, by rw [z]; rfl⟩
        · exact Or.inr ⟨z, by rw [z]; rfl⟩
      rw [if_pos tl, ← hwv, if_neg (by omega), if_pos (by omega)]
      refine sr_leaf (c2 := c1) (r2 := r1) (wv := 50 + wv) (x := 0) (y := 0) (e := 0) (X := t) (Y := t) (Z := 0) hS (by omega) e3 S1 wc xr k1 k2 ?_ ?_ ?_ ?_
      · unfold f_lok; omega
      · rcases hv with ⟨rfl, rfl⟩ | ⟨rfl, rfl⟩ <;> rfl
      · rw [cl_addS m1 sb.1 (by omega), Option.bind_some, if_pos (Or.inr rfl)]
      · rw [pu_w (x := 50 + wv) (by omega) (by omega), rf_sayS m2 sb.1 (by omega), Option.bind_some]
        dsimp only
        rw [pu_sl (show (45 : Int) ≠ 46 by decide), say_133 (by decide), m5, pu_w (by omega) (by omega), show w + 1 - 1 = w by omega]
    rw [if_neg tl]
    by_cases tn : t = 29 ∨ t = 30
    · obtain ⟨q, hq⟩ : ∃ q : Int, q = if t = 29 then 2 else 1 := ⟨_, rfl⟩
      have hv : (t = 29 ∧ q = 2 ∧ f_sx t = 20) ∨ (t = 30 ∧ q = 1 ∧ f_sx t = 21) := by
        rw [hq]
        rcases tn with z | z
        · exact Or.inl ⟨z, if_pos z, by rw [z]; rfl⟩
        · exact Or.inr ⟨z, if_neg (by omega), by rw [z]; rfl⟩
      rw [if_pos tn, ← hq, if_neg (by omega), if_neg (by omega), if_pos (by omega)]
      rcases bx_named (s := q) e3 X1 (by omega) (by omega) (d + 3 * e + 5) (d' + 4 * e + 5) with ⟨x, c2, r2, p2, t2, f1, f2, f3, f4, f5, f6, f7, f8, f9⟩ | ⟨c2, r2, f1, f2, f3, f4, f5⟩
      · have S2 : SN c2 r2 s (o + 1) (w + 1) := ⟨⟨by rw [f7.ob (by decide)]; exact m1, by rw [f8 _ _ (by omega)]; exact m2, by rw [f7.ob (by decide)]; exact m3, by rw [f8 _ _ (by omega)]; exact m4, by rw [f8 _ _ (by omega)]; exact m5⟩, S1.2⟩
        have rof : mm_M mm_prog (d' + 4 * e + 11) 276 [(21, 133), (0, f_sx t)] r1 = some (1, mm_up (sayS r2 s (50 + f_sx t) x 0 0) 133 46 s) := by
          rcases hv with ⟨z1, z2, z3⟩ | ⟨z1, z2, z3⟩
          · rw [z2] at f2
            have f2' : mm_M mm_prog (d' + 4 * e + 10) 262 [(21, 133), (0, 11), (0, r1 135 3)] r1 = some (1, r2) := f2
            rw [z3, e_X12_readOf, if_pos rfl, if_pos rfl, r135, f2', Option.bind_some]
            show (if (1 : Int) = 0 then _ else _) = _
            rw [if_neg (by decide)]
            dsimp only
            rw [f4, show mm_w (50 + 20) = 50 + 20 from rfl, rf_sayS S2.1.2.1 sb.1 (by omega), Option.bind_some]
          · rw [z2] at f2
            have f2' : mm_M mm_prog (d' + 4 * e + 10) 262 [(21, 133), (0, 4), (0, r1 135 2)] r1 = some (1, r2) := f2
            rw [z3, e_X12_readOf, if_neg (by decide), if_neg (by decide), r135, f2', Option.bind_some]
            show (if (1 : Int) = 0 then _ else _) = _
            rw [if_neg (by decide)]
            dsimp only
            rw [f4, show mm_w (50 + 21) = 50 + 21 from rfl, rf_sayS S2.1.2.1 sb.1 (by omega), Option.bind_some]
        have f3' := f3
        rw [k3] at f3'
        refine sr_leaf (c2 := c2) (r2 := r2) (wv := 50 + f_sx t) (x := x) (y := 0) (e := 0) (X := t) (Y := t) (Z := x) hS (by omega) f5 S2 (wc.tr f7.s) (xr.tr f8.s) (fun o' h0 h1 k => by rw [f7.ob (by omega)]; exact k1 o' h0 h1 k) (fun j => by rw [f8.ob (by decide)]; exact k2 j) ?_ ?_ ?_ ?_
        · unfold f_lok
          rcases hv with ⟨z1, z2, z3⟩ | ⟨z1, z2, z3⟩
          · rw [z2, show (1 : Int) + 2 = 3 from rfl] at f3'
            rw [z3]
            exact Or.inr (Or.inr (Or.inl ⟨rfl, f3'.1, f3'.2⟩))
          · rw [z2, show (1 : Int) + 1 = 2 from rfl] at f3'
            rw [z3]
            exact Or.inr (Or.inr (Or.inr (Or.inl ⟨rfl, f3'.1, f3'.2⟩)))
        · rcases hv with ⟨z1, z2, z3⟩ | ⟨z1, z2, z3⟩
          · rw [z3, z1]; rfl
          · rw [z3, z1]; rfl
        · rw [f1, Option.bind_some]
          dsimp only
          rw [if_neg (by omega), cl_addS S2.1.1 sb.1 (by omega), Option.bind_some]
          rfl
        · rw [rof, Option.bind_some, if_pos (Or.inr rfl)]
          dsimp only
          rw [pu_sl (show (45 : Int) ≠ 46 by decide), say_133 (by decide), S2.1.2.2.2.2, pu_w (by omega) (by omega), show w + 1 - 1 = w by omega]
      · right
        have rof : mm_M mm_prog (d' + 4 * e + 11) 276 [(21, 133), (0, f_sx t)] r1 = some (0, r2) := by
          rcases hv with ⟨z1, z2, z3⟩ | ⟨z1, z2, z3⟩
          · rw [z2] at f2
            have f2' : mm_M mm_prog (d' + 4 * e + 10) 262 [(21, 133), (0, 11), (0, r1 135 3)] r1 = some (0, r2) := f2
            rw [z3, e_X12_readOf, if_pos rfl, if_pos rfl, r135, f2', Option.bind_some]
            rfl
          · rw [z2] at f2
            have f2' : mm_M mm_prog (d' + 4 * e + 10) 262 [(21, 133), (0, 4), (0, r1 135 2)] r1 = some (0, r2) := f2
            rw [z3, e_X12_readOf, if_neg (by decide), if_neg (by decide), r135, f2', Option.bind_some]
            rfl
        refine ⟨c2, mm_up r2 133 45 (mm_w (r2 133 45 - 1)), ?_, ?_, f3.cg (fun _ => rfl) (fun _ => rfl) (pu_sl (by decide)) (pu_sl (by decide)), wc.tr f4.s, (xr.tr f5.s).up (by decide)⟩
        · rw [f1, Option.bind_some]; rfl
        · rw [rof, Option.bind_some, if_pos (Or.inl rfl)]
    rw [if_neg tn]
    have tc : (t = 32 ∧ f_sx t = 22) ∨ (t = 33 ∧ f_sx t = 23) ∨ (t = 34 ∧ f_sx t = 24) ∨ (t = 35 ∧ f_sx t = 25) := by
      have : t = 32 ∨ t = 33 ∨ t = 34 ∨ t = 35 := by unfold f_beg at ht; omega
      rcases this with z | z | z | z
      · exact Or.inl ⟨z, by rw [z]; rfl⟩
      · exact Or.inr (Or.inl ⟨z, by rw [z]; rfl⟩)
      · exact Or.inr (Or.inr (Or.inl ⟨z, by rw [z]; rfl⟩))
      · exact Or.inr (Or.inr (Or.inr ⟨z, by rw [z]; rfl⟩))
    obtain ⟨wv, hwv⟩ : ∃ wv, wv = f_sx t := ⟨_, rfl⟩
    rw [← hwv] at tc
    have twv : wv = t - 10 := by omega
    rw [← hwv, if_neg (by omega), if_neg (by omega), if_neg (by omega)]
    have g1 := e3.1.2.2.2.1
    have sg : ∀ x, mm_M mm_prog (d' + 4 * e + 10) 172 [(21, 133), (0, x)] r1 = some (sp_b (decide ((4 ≤ t1 ∧ t1 ≤ 9) ∧ sgc t1 = x)), r1) := fun x => tk_sign (x := x) e3.1 (d' + 4 * e + 9)
    by_cases ts : t1 = 5 ∨ t1 = 6 ∨ t1 = 7
    · have r19 : r1 133 9 = t1 + 55 := by
        have l := e3.1.2.2.2.2.2.2
        rcases l with l | l | l | l | l | l
        · omega
        · omega
        · omega
        · omega
        · rw [l.2.2]
          unfold sgc
          rw [if_pos (by omega)]
        · omega
      obtain ⟨c2, r2, p2, t2, f1, f2, f3, f4, f5, f6⟩ := tf_adv e3 (d + 3 * e + 6) (d' + 4 * e + 6)
      have cc := cl_cmp (t := t) (D := d + 3 * e + 9) g1 ts f1
      have rc : mm_M mm_prog (d' + 4 * e + 11) 277 [(21, 133), (0, wv)] r1 = ((mm_M mm_prog (d' + 4 * e + 10) 175 [(21, 133), (0, 0), (0, 999)] r2).bind fun o3 => (if o3.1 = 0 then (some (0, o3.2)) else ((mm_M mm_prog (d' + 4 * e + 10) 270 [(21, 133), (0, mm_w (50 + wv)), (0, 0), (0, o3.2 133 13), (0, t1 + 55)] o3.2).bind fun o4 => (some (1, mm_up o4.2 133 46 o4.1))))) := by
        rw [e_X12_readCompare, sg 60, Option.bind_some]
        dsimp only
        rcases ts with z | z | z
        · rw [if_neg (sp_bt (decide_eq_true (by rw [z]; decide))), f2, Option.bind_some]
          dsimp only
          rw [r19]
        · rw [if_pos (sp_bn (decide_eq_false (by rw [z]; decide))), sg 61, Option.bind_some]
          dsimp only
          rw [if_neg (sp_bt (decide_eq_true (by rw [z]; decide))), f2, Option.bind_some]
          dsimp only
          rw [r19]
        · rw [if_pos (sp_bn (decide_eq_false (by rw [z]; decide))), sg 61, Option.bind_some]
          dsimp only
          rw [if_pos (sp_bn (decide_eq_false (by rw [z]; decide))), sg 62, Option.bind_some]
          dsimp only
          rw [if_neg (sp_bt (decide_eq_true (by rw [z]; decide))), f2, Option.bind_some]
          dsimp only
          rw [r19]
      rcases tf_num (a := 0) (b := 999) f3 (d + 3 * e + 5) (d' + 4 * e + 5) with ⟨x, c3, r3, p3, t3, i1, i2, i3, i4, i5, i6, i7, i8, i9⟩ | ⟨c3, r3, i1, i2, i3, i4, i5⟩
      · have c13 := f5.c.tr i7
        have r13 := f6.r.tr i8
        have S3 : SN c3 r3 s (o + 1) (w + 1) := ⟨⟨by rw [c13.ob (by decide)]; exact m1, by rw [r13 _ _ (by omega)]; exact m2, by rw [c13.ob (by decide)]; exact m3, by rw [r13 _ _ (by omega)]; exact m4, by rw [r13 _ _ (by omega)]; exact m5⟩, S1.2⟩
        refine sr_leaf (c2 := c3) (r2 := r3) (wv := 50 + wv) (x := 0) (y := x) (e := t1 + 55) (X := t) (Y := t1) (Z := x) hS (by omega) i5 S3 (wc.tr c13.s) (xr.tr r13.s) (fun o' h0 h1 k => by rw [c13.ob (by omega)]; exact k1 o' h0 h1 k) (fun j => by rw [r13.ob (by decide)]; exact k2 j) ?_ ?_ ?_ ?_
        · unfold f_lok; omega
        · unfold f_leaf
          rw [if_neg (by omega), if_neg (by omega), if_neg (by omega), if_neg (by omega), show 50 + wv - 40 = t by omega, show t1 + 55 - 55 = t1 by omega]
        · rw [cc, i1, Option.bind_some]
          dsimp only
          rw [if_neg (by omega), cl_addS S3.1.1 sb.1 (by omega), Option.bind_some]
          show (if (1 : Int) = 0 then _ else _) = _
          rw [if_neg (by decide)]
        · rw [rc, i2, Option.bind_some]
          show ((if (1 : Int) = 0 then _ else _ : Option mm_O).bind _) = _
          rw [if_neg (by decide)]
          dsimp only
          rw [i4, pu_w (x := 50 + wv) (by omega) (by omega), rf_sayS S3.1.2.1 sb.1 (by omega), Option.bind_some, Option.bind_some, if_pos (Or.inr rfl)]
          dsimp only
          rw [pu_sl (show (45 : Int) ≠ 46 by decide), say_133 (by decide), S3.1.2.2.2.2, pu_w (by omega) (by omega), show w + 1 - 1 = w by omega]
      · right
        refine ⟨c3, mm_up r3 133 45 (mm_w (r3 133 45 - 1)), ?_, ?_, i3.cg (fun _ => rfl) (fun _ => rfl) (pu_sl (by decide)) (pu_sl (by decide)), (wc.tr f5.c.s).tr i4.s, ((xr.tr f6.r.s).tr i5.s).up (by decide)⟩
        · rw [cc, i1, Option.bind_some]
          rfl
        · rw [rc, i2, Option.bind_some]
          rfl
    · right
      obtain ⟨cf, rf, u1, u2, u3, u4, u5⟩ := tf_fail (k := 1) e3 (by decide) (fun _ => rfl) (d + 3 * e + 8) (d' + 4 * e + 9)
      have ns : ∀ x, x = 60 ∨ x = 61 ∨ x = 62 → decide ((4 ≤ t1 ∧ t1 ≤ 9) ∧ sgc t1 = x) = false := fun x hx => decide_eq_false (fun q => ts (by
        have := q.2
        unfold sgc at this
        by_cases y : t1 < 8
        · rw [if_pos y] at this; omega
        · rw [if_neg y] at this; omega))
      refine ⟨cf, mm_up rf 133 45 (mm_w (rf 133 45 - 1)), ?_, ?_, u3.cg (fun _ => rfl) (fun _ => rfl) (pu_sl (by decide)) (pu_sl (by decide)), wc.tr u4.s, (xr.tr u5.s).up (by decide)⟩
      · rw [cl_cmpN g1 ts, u1, Option.bind_some, if_pos (Or.inl rfl)]
      · rw [e_X12_readCompare, sg 60, Option.bind_some, if_pos (sp_bn (ns 60 (by omega)))]
        dsimp only
        rw [sg 61, Option.bind_some, if_pos (sp_bn (ns 61 (by omega)))]
        dsimp only
        rw [sg 62, Option.bind_some, if_pos (sp_bn (ns 62 (by omega)))]
        dsimp only
        rw [u2, Option.bind_some, if_pos (Or.inl rfl), Option.bind_some, if_pos (Or.inl rfl)]
  · exact one_no h ht (d + 3 * e + 3) (d' + 4 * e + 4)
theorem p_one : ∀ e : Nat, P_one e
  | 0 => p_zero
  | e + 1 => p_succ (p_one e) (p_cond (p_all (p_one e)))
end
