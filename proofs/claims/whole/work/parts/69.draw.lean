/-! Seconds by draws -/
theorem up_up (h : mm_H) (o k v w : Int) : mm_up (mm_up h o k v) o k w = mm_up h o k w := by
  funext o' k'
  unfold mm_up
  by_cases c : o' = o ∧ k' = k
  · rw [if_pos c, if_pos c]
  · rw [if_neg c, if_neg c, if_neg c]
theorem pu_u8 (x : Int) : 0 ≤ mm_ushr x 8 ∧ mm_ushr x 8 < 16777216 := by
  unfold mm_ushr
  rw [show ((Int32.ofInt 8).toUInt32 &&& Int32.toUInt32 31) = (8 : UInt32) from by decide]
  generalize (Int32.ofInt x).toUInt32 = u
  have e : ((u >>> 8).toInt32).toBitVec.toNat = u.toNat / 256 := by
    show (u >>> 8).toNat = _
    rw [UInt32.toNat_shiftRight]
    show u.toNat >>> 8 = _
    rw [Nat.shiftRight_eq_div_pow]
  have hu := u.toNat_lt
  rw [pu_ti (by rw [e]; omega), e]
  omega
def f_st (x : Int) : Int := mm_w (mm_w (x * 1103515245) + 12345)
def f_dr (x n : Int) : Int := mm_ushr x 8 % n
/-- an act, if it can be -/
def f_do (V : Int → Int) (a x : Int) : Int → Int := if f_why V a x = 0 then f_live V a x else V
theorem f_live_48 (V : Int → Int) (a x : Int) : f_live V a x 48 = V 48 := by
  unfold f_live
  by_cases c0 : a = 0
  · rw [if_pos c0, vu_ne (by decide)]
  rw [if_neg c0]
  by_cases c1 : a = 1
  · rw [if_pos c1, vu_ne (by decide)]
  rw [if_neg c1]
  by_cases c2 : a = 2
  · rw [if_pos c2, vu_ne (by decide), vu_ne (by decide)]
  rw [if_neg c2]
  by_cases c3 : a = 3
  · rw [if_pos c3, vu_ne (by decide), vu_ne (by decide)]
  rw [if_neg c3, vu_ne (by decide)]
theorem scI.act {V0 x : Int → Int} {i a y : Int} (hW : pr_W V0) (hI : scI V0 i x) (hm : f_may x a y) : scI V0 i (f_do x a y) := by
  unfold f_do
  by_cases c : f_why x a y = 0
  · rw [if_pos c]
    obtain ⟨q1, q2⟩ := f_live_ok (hI.2.1.W hW) hI.1 hm
    exact ⟨q1, hI.2.1.tr q2, by rw [f_live_48]; exact hI.2.2⟩
  · rw [if_neg c]
    exact hI
theorem bind_id (o : Option mm_O) : (o.bind fun o1 => some (o1.1, o1.2)) = o := by
  cases o <;> rfl
section PC
variable {V : Int → Int} {h : mm_H} {m pl : Int}
theorem cl_do0 (hP : pr_P h pl V) (hM : pr_M h m V) (hW : pr_W V) (hT : pr_T V) (hd : pl + 9 < m ∨ m + 3 < pl) (d : Nat) : ∃ h', mm_M mm_prog (d + 3) 27 [(12, m), (14, pl)] h = some (f_why V 0 0, h') ∧ pr_M h' m (f_do V 0 0) ∧ fr m h h' := by
  obtain ⟨h', e, q⟩ := cl_act hP hM hW hT (f_may0 V (a := 0) (by decide) (by decide)) hd d
  rw [e_X2_act, if_pos rfl, bind_id] at e
  exact ⟨h', e, q⟩
theorem cl_do1 (hP : pr_P h pl V) (hM : pr_M h m V) (hW : pr_W V) (hT : pr_T V) (hd : pl + 9 < m ∨ m + 3 < pl) (d : Nat) : ∃ h', mm_M mm_prog (d + 3) 28 [(12, m)] h = some (f_why V 1 0, h') ∧ pr_M h' m (f_do V 1 0) ∧ fr m h h' := by
  obtain ⟨h', e, q⟩ := cl_act hP hM hW hT (f_may0 V (a := 1) (by decide) (by decide)) hd d
  rw [e_X2_act, if_neg (by decide), if_pos rfl, bind_id] at e
  exact ⟨h', e, q⟩
theorem cl_do2 (hP : pr_P h pl V) (hM : pr_M h m V) (hW : pr_W V) (hT : pr_T V) (hd : pl + 9 < m ∨ m + 3 < pl) (d : Nat) : ∃ h', mm_M mm_prog (d + 3) 29 [(12, m)] h = some (f_why V 2 0, h') ∧ pr_M h' m (f_do V 2 0) ∧ fr m h h' := by
  obtain ⟨h', e, q⟩ := cl_act hP hM hW hT (f_may0 V (a := 2) (by decide) (by decide)) hd d
  rw [e_X2_act, if_neg (by decide), if_neg (by decide), if_pos rfl, bind_id] at e
  exact ⟨h', e, q⟩
def f_lj (V : Int → Int) (p : Int) : Int → Int := bif f_out V p then f_do V 5 p else f_do V 4 p
theorem f_may4 {p : Int} (h0 : 0 ≤ p) (h1 : p < V 2) : f_may V 4 p ∧ f_may V 5 p := ⟨⟨by decide, fun q => by omega, fun _ => ⟨h0, h1⟩⟩, ⟨by decide, fun q => by omega, fun _ => ⟨h0, h1⟩⟩⟩
theorem cl_lj (hP : pr_P h pl V) (hM : pr_M h m V) (hW : pr_W V) (hT : pr_T V) {p : Int} (h0 : 0 ≤ p) (h1 : p < V 2) (hd : pl + 9 < m ∨ m + 3 < pl) (d : Nat) : ∃ h', mm_M mm_prog (d + 4) 40 [(12, m), (14, pl), (0, p)] h = some (0, h') ∧ pr_M h' m (f_lj V p) ∧ fr m h h' := by
  have w2 := hW.2.2.1
  obtain ⟨m4, m5⟩ := f_may4 h0 h1
  rw [e_X2_leaveOrJoin, cl_isOut hM hT.1 h0 (by omega), Option.bind_some]
  unfold f_lj
  cases f_out V p with
  | false =>
    obtain ⟨h', e, q⟩ := cl_act hP hM hW hT m4 hd d
    rw [e_X2_act, if_neg (by decide), if_neg (by decide), if_neg (by decide), if_neg (by decide), if_pos rfl, bind_id] at e
    show ∃ h', (if (0 : Int) = 0 then _ else _) = _ ∧ _
    dsimp only
    rw [if_pos rfl, e, Option.bind_some]
    exact ⟨h', rfl, q⟩
  | true =>
    obtain ⟨h', e, q⟩ := cl_act hP hM hW hT m5 hd d
    rw [e_X2_act, if_neg (by decide), if_neg (by decide), if_neg (by decide), if_neg (by decide), if_neg (by decide), if_pos rfl, bind_id] at e
    show ∃ h', (if (1 : Int) = 0 then _ else _) = _ ∧ _
    dsimp only
    rw [if_neg (by decide), e, Option.bind_some]
    exact ⟨h', rfl, q⟩
theorem cl_drawOf {x n : Int} (h0 : 0 < n) (h1 : n < 100) (d : Nat) : mm_M mm_prog (d + 2) 42 [(0, x), (0, n)] h = some (f_dr x n, h) := by
  have u := pu_u8 x
  rw [e_X2_drawOf, cl_rem u.1 (by omega) h0 (by omega), Option.bind_some]
  rfl
theorem cl_stir {x : Int} (d : Nat) : mm_M mm_prog (d + 1) 41 [(0, x)] h = some (f_st x, h) := by
  rw [e_X2_stir]
  rfl
end PC
/-- by the first draw of a second -/
def f_lot (V : Int → Int) (l : Int) : Int → Int := if l = 0 then f_do V 0 0 else if l = 1 then f_do V 1 0 else if l ≤ 4 then f_do V 2 0 else V
def f_dp (p : Int) (s : Int × (Int → Int)) : Int × (Int → Int) := (f_st s.1, if f_dr (f_st s.1) 12 = 0 then f_lj s.2 p else s.2)
def f_dps (s : Int × (Int → Int)) : Int × (Int → Int) := sp_it f_dp (s.2 2).toNat 0 (f_st s.1, f_lot s.2 (f_dr (f_st s.1) 20))
def f_ds (s : Int × (Int → Int)) : Int × (Int → Int) := ((f_dps s).1, f_sec (f_dps s).2)
def f_dss (n : Nat) (s : Int × (Int → Int)) : Int × (Int → Int) := sp_it (fun _ => f_ds) n 0 s
theorem scI.lot {V0 x : Int → Int} {i l : Int} (hW : pr_W V0) (hI : scI V0 i x) : scI V0 i (f_lot x l) := by
  unfold f_lot
  by_cases c0 : l = 0
  · rw [if_pos c0]
    exact hI.act hW (f_may0 x (by decide) (by decide))
  rw [if_neg c0]
  by_cases c1 : l = 1
  · rw [if_pos c1]
    exact hI.act hW (f_may0 x (by decide) (by decide))
  rw [if_neg c1]
  by_cases c2 : l ≤ 4
  · rw [if_pos c2]
    exact hI.act hW (f_may0 x (by decide) (by decide))
  rw [if_neg c2]
  exact hI
theorem scI.lj {V0 x : Int → Int} {i p : Int} (hW : pr_W V0) (hI : scI V0 i x) (h0 : 0 ≤ p) (h1 : p < V0 2) : scI V0 i (f_lj x p) := by
  obtain ⟨m4, m5⟩ := f_may4 (V := x) h0 (by rw [hI.2.1 2 (by omega)]; exact h1)
  unfold f_lj
  cases f_out x p with
  | true => exact hI.act hW m5
  | false => exact hI.act hW m4
section PC
variable {V : Int → Int} {h : mm_H} {m pl : Int}
theorem cl_drawn1 (hP : pr_P h pl V) (hW : pr_W V) {i x : Int} {y : Int → Int} {s : mm_H} (sM : pr_M s m y) (sF : fr m h s) (sI : scI V i y) (h6 : V 48 + i < 600) (hj : pl + 9 < m ∨ m + 3 < pl) (d : Nat) : ∃ s', mm_M mm_prog (d + 6) 39 [(12, m), (14, pl), (0, x)] s = some ((f_ds (x, y)).1, s') ∧ pr_M s' m (f_ds (x, y)).2 ∧ fr m h s' ∧ scI V (i + 1) (f_ds (x, y)).2 := by
  have w2 := hW.2.2.1
  have y2 : y 2 = V 2 := sI.2.1 2 (by omega)
  have u := pu_u8 (f_st x)
  obtain ⟨s1, e1, M1, F1, I1⟩ : ∃ s1, mm_M mm_prog (d + 6) 39 [(12, m), (14, pl), (0, x)] s = mm_R mm_prog (d + 5) T_X2_passDrawnSecond 55 [(12, m), (14, pl), (0, x), (0, f_st x), (0, f_dr (f_st x) 20), (0, 0)] [] s1 ∧ pr_M s1 m (f_lot y (f_dr (f_st x) 20)) ∧ fr m h s1 ∧ scI V i (f_lot y (f_dr (f_st x) 20)) := by
    rw [e_X2_passDrawnSecond, cl_stir, Option.bind_some]
    dsimp only
    rw [cl_drawOf (by decide) (by decide), Option.bind_some]
    dsimp only
    have sP := sI.2.1.P hW (hP.fr sF hj)
    have sW := sI.2.1.W hW
    have lI := sI.lot (l := f_dr (f_st x) 20) hW
    unfold f_lot at lI ⊢
    by_cases c0 : f_dr (f_st x) 20 = 0
    · rw [if_pos c0] at lI ⊢
      obtain ⟨s1, e, M', F'⟩ := cl_do0 sP sM sW sI.1 hj (d + 2)
      rw [if_pos c0, e, Option.bind_some]
      exact ⟨s1, rfl, M', sF.tr F', lI⟩
    rw [if_neg c0] at lI ⊢
    by_cases c1 : f_dr (f_st x) 20 = 1
    · rw [if_pos c1] at lI ⊢
      obtain ⟨s1, e, M', F'⟩ := cl_do1 sP sM sW sI.1 hj (d + 2)
      rw [if_neg c0, if_pos c1, e, Option.bind_some]
      exact ⟨s1, rfl, M', sF.tr F', lI⟩
    rw [if_neg c1] at lI ⊢
    by_cases c2 : f_dr (f_st x) 20 ≤ 4
    · rw [if_pos c2] at lI ⊢
      obtain ⟨s1, e, M', F'⟩ := cl_do2 sP sM sW sI.1 hj (d + 2)
      rw [if_neg c0, if_neg c1, if_neg (by omega), e, Option.bind_some]
      exact ⟨s1, rfl, M', sF.tr F', lI⟩
    rw [if_neg c2] at lI ⊢
    rw [if_neg c0, if_neg c1, if_pos (by omega)]
    exact ⟨s, rfl, sM, sF, lI⟩
  obtain ⟨⟨s2, x2⟩, r2, M2, F2, I2, E2⟩ := sp_it_rel (R := fun i (q : mm_H × Int) => mm_R mm_prog (d + 5) T_X2_passDrawnSecond 55 [(12, m), (14, pl), (0, x), (0, q.2), (0, f_dr (f_st x) 20), (0, i)] [] q.1) (f := f_dp) (I := fun j q z => pr_M q.1 m z.2 ∧ fr m h q.1 ∧ scI V i z.2 ∧ q.2 = z.1) (N := V 2) (fun j q z j0 j1 hI => by
    obtain ⟨q, xq⟩ := q
    obtain ⟨zx, z⟩ := z
    obtain ⟨qM, qF, qI, rfl⟩ := hI
    dsimp only at qM qF qI ⊢
    have qP := qI.2.1.P hW (hP.fr qF hj)
    have e2 : q (pl + 1) 1 = V 2 := (qP.2.2.1 1 (by decide) (by decide)).trans (qI.2.1 2 (by omega))
    rw [e_X2_passDrawnSecond_55, e2, if_pos j1, cl_stir, Option.bind_some]
    dsimp only
    rw [cl_drawOf (by decide) (by decide), Option.bind_some, pu_w (x := j + 1) (by omega) (by omega)]
    unfold f_dp
    dsimp only
    by_cases c : f_dr (f_st xq) 12 = 0
    · obtain ⟨q', e, M', F'⟩ := cl_lj qP qM (qI.2.1.W hW) qI.1 j0 (by rw [qI.2.1 2 (by omega)]; exact j1) hj (d + 1)
      rw [if_pos c, if_pos c, e, Option.bind_some]
      exact ⟨(q', f_st xq), rfl, M', qF.tr F', qI.lj hW j0 j1, rfl⟩
    · rw [if_neg c, if_neg c]
      exact ⟨(q, f_st xq), rfl, qM, qF, qI, rfl⟩) (V 2).toNat 0 (s1, f_st x) (f_st x, f_lot y (f_dr (f_st x) 20)) (by omega) (by omega) ⟨M1, F1, I1, rfl⟩
  have ed : sp_it f_dp (V 2).toNat 0 (f_st x, f_lot y (f_dr (f_st x) 20)) = f_dps (x, y) := by
    unfold f_dps
    dsimp only
    rw [y2]
  rw [ed] at M2 I2 E2
  dsimp only at r2 M2 F2 I2 E2
  have P2 := I2.2.1.P hW (hP.fr F2 hj)
  have e2 : s2 (pl + 1) 1 = V 2 := (P2.2.2.1 1 (by decide) (by decide)).trans (I2.2.1 2 (by omega))
  obtain ⟨s3, e3, M3, F3⟩ := cl_sec P2 M2 (I2.2.1.W hW) I2.1 (by rw [I2.2.2]; exact h6) hj (d + 1)
  refine ⟨s3, ?_, M3, F2.tr F3, I2.step hW h6⟩
  rw [e1, r2, e_X2_passDrawnSecond_55, e2, if_neg (by omega), e3, Option.bind_some, E2]
  rfl
theorem cl_passDrawn (hP : pr_P h pl V) (hM : pr_M h m V) (hW : pr_W V) (hT : pr_T V) {n x : Int} (h0 : 0 ≤ n) (h1 : n ≤ 60) (hj : pl + 9 < m ∨ m + 3 < pl) (d : Nat) : ∃ h', mm_M mm_prog (d + 8) 38 [(12, m), (14, pl), (0, n), (0, x)] h = some (min n (600 - V 48), h') ∧ pr_M h' m (f_dss (min n (600 - V 48)).toNat (x, V)).2 ∧ fr m h h' ∧ scI V (min n (600 - V 48)) (f_dss (min n (600 - V 48)).toNat (x, V)).2 := by
  have b48 := hT.1.1
  rw [e_X2_passDrawn, cl_left hM hT.1, Option.bind_some]
  dsimp only
  generalize hk : min n (600 - V 48) = k
  have hk0 : 0 ≤ k ∧ k ≤ 60 ∧ V 48 + k ≤ 600 := by omega
  obtain ⟨⟨s2, x2⟩, r2, M2, F2, I2, E2⟩ := sp_it_rel (R := fun i (q : mm_H × Int) => mm_R mm_prog (d + 7) T_X2_passDrawn 16 [(12, m), (14, pl), (0, n), (0, x), (0, k), (0, q.2), (0, i)] [] q.1) (f := fun _ => f_ds) (I := fun j q z => pr_M q.1 m z.2 ∧ fr m h q.1 ∧ scI V j z.2 ∧ q.2 = z.1) (N := k) (fun j q z j0 j1 hI => by
    obtain ⟨q, xq⟩ := q
    obtain ⟨zx, z⟩ := z
    obtain ⟨qM, qF, qI, rfl⟩ := hI
    dsimp only at qM qF qI ⊢
    obtain ⟨q', e, M', F', I'⟩ := cl_drawn1 (x := xq) hP hW qM qF qI (by omega) hj (d + 1)
    rw [e_X2_passDrawn_16, if_pos j1, e, Option.bind_some, pu_w (by omega) (by omega)]
    exact ⟨(q', (f_ds (xq, z)).1), rfl, M', F', I', rfl⟩) k.toNat 0 (h, x) (x, V) (by omega) (by omega) ⟨hM, fr_rf m h, ⟨hT, hd.rf V, by dsimp only; omega⟩, rfl⟩
  dsimp only at r2 M2 F2 I2 E2
  refine ⟨s2, ?_, M2, F2, I2⟩
  rw [r2, e_X2_passDrawn_16, if_neg (by omega)]
end PC
section PR
variable {V : Int → Int} {h : mm_H}
/-- the reference's heap with a seed -/
def sdh (h : mm_H) (x : Int) (V : Int → Int) : mm_H := vs (mm_up h 133 37 x) V
theorem rf_draw {x n : Int} (h0 : 0 < n) (h1 : n < 100) (d : Nat) : mm_M mm_prog (d + 1) 256 [(21, 133), (0, n)] (sdh h x V) = some (f_dr (f_st x) n, sdh h (f_st x) V) := by
  have u := pu_u8 (f_st x)
  have ex : sdh h x V 133 37 = x := by
    unfold sdh
    rw [vs_ne (by decide), pu_eq]
  have eu : mm_up (sdh h x V) 133 37 (f_st x) = sdh h (f_st x) V := by
    unfold sdh
    rw [vs_upo (by decide), up_up]
  rw [e_X12_draw, if_neg (by omega), ex]
  show some (mm_rem (mm_ushr (mm_up (sdh h x V) 133 37 (f_st x) 133 37) 8) n, mm_up (sdh h x V) 133 37 (f_st x)) = _
  rw [pu_eq, eu, pu_rem u.1 (by omega) h0 (by omega)]
  rfl
theorem rf_drawsFor (hW : pr_W V) (hT : pr_T V) {a y x : Int} (hm : f_may V a y) (d : Nat) : mm_M mm_prog (d + 5) 257 [(21, 133), (0, a), (0, y)] (sdh h x V) = some (0, sdh h x (f_do V a y)) := by
  unfold sdh f_do
  rw [e_X12_drawsFor, rf_why hW hT hm, Option.bind_some]
  dsimp only
  by_cases c : f_why V a y = 0
  · rw [if_pos c, if_pos c, rf_live hW hT hm, Option.bind_some]
  · rw [if_neg c, if_neg c]
theorem rf_drawn1 (hW : pr_W V) {i x n x0 k : Int} {y : Int → Int} (u5 u6 : mm_V) (sI : scI V i y) (i0 : 0 ≤ i) (ik : i < k) (h6 : V 48 + i < 600) (i6 : i < 60) (d : Nat) : ∃ v5 v6 : mm_V, mm_R mm_prog (d + 6) T_X12_drawSeconds 24 [(21, 133), (0, n), (0, x0), (0, k), (0, i), u5, u6] [] (sdh h x y) = mm_R mm_prog (d + 6) T_X12_drawSeconds 24 [(21, 133), (0, n), (0, x0), (0, k), (0, i + 1), v5, v6] [] (sdh h (f_ds (x, y)).1 (f_ds (x, y)).2) ∧ scI V (i + 1) (f_ds (x, y)).2 := by
  have w2 := hW.2.2.1
  have y2 : y 2 = V 2 := sI.2.1 2 (by omega)
  have sW := sI.2.1.W hW
  have ed0 : 0 ≤ f_dr (f_st x) 20 := Int.emod_nonneg _ (by decide)
  have e1 : mm_R mm_prog (d + 6) T_X12_drawSeconds 24 [(21, 133), (0, n), (0, x0), (0, k), (0, i), u5, u6] [] (sdh h x y) = mm_R mm_prog (d + 6) T_X12_drawSeconds 64 [(21, 133), (0, n), (0, x0), (0, k), (0, i), (0, f_dr (f_st x) 20), (0, 0)] [] (sdh h (f_st x) (f_lot y (f_dr (f_st x) 20))) := by
    rw [e_X12_drawSeconds_24, if_pos ik, rf_draw (by decide) (by decide), Option.bind_some]
    dsimp only
    unfold f_lot
    by_cases c0 : f_dr (f_st x) 20 = 0
    · rw [if_pos (by omega), if_pos (by omega), if_pos c0]
      conv in mm_M mm_prog _ 257 _ _ => rw [c0]
      rw [rf_drawsFor sW sI.1 (f_may0 y (by decide) (by decide)), Option.bind_some]
    rw [if_neg c0]
    by_cases c1 : f_dr (f_st x) 20 = 1
    · rw [if_pos (by omega), if_pos (by omega), if_pos c1]
      conv in mm_M mm_prog _ 257 _ _ => rw [c1]
      rw [rf_drawsFor sW sI.1 (f_may0 y (by decide) (by decide)), Option.bind_some]
    rw [if_neg c1]
    by_cases c2 : f_dr (f_st x) 20 ≤ 4
    · rw [if_pos (by omega), if_neg (by omega), if_pos c2, rf_drawsFor sW sI.1 (f_may0 y (by decide) (by decide)), Option.bind_some]
    rw [if_neg c2, if_neg (by omega)]
  have I1 := sI.lot (l := f_dr (f_st x) 20) hW
  obtain ⟨s2, r2, E2, I2⟩ := sp_it_rel (R := fun j s => mm_R mm_prog (d + 6) T_X12_drawSeconds 64 [(21, 133), (0, n), (0, x0), (0, k), (0, i), (0, f_dr (f_st x) 20), (0, j)] [] s) (f := f_dp) (I := fun j s z => s = sdh h z.1 z.2 ∧ scI V i z.2) (N := V 2) (fun j s z j0 j1 hI => by
    obtain ⟨zx, z⟩ := z
    obtain ⟨rfl, zI⟩ := hI
    dsimp only at zI ⊢
    have z2 : z 2 = V 2 := zI.2.1 2 (by omega)
    have zW := zI.2.1.W hW
    have er : sdh h zx z 135 2 = V 2 := by
      unfold sdh
      rw [vs_at, z2]
    obtain ⟨m4, m5⟩ := f_may4 (V := z) j0 (by omega)
    rw [e_X12_drawSeconds_64, r135, er, if_pos j1, rf_draw (by decide) (by decide), Option.bind_some, pu_w (x := j + 1) (by omega) (by omega)]
    dsimp only
    unfold f_dp
    dsimp only
    refine ⟨sdh h (f_st zx) (if f_dr (f_st zx) 12 = 0 then f_lj z j else z), ?_, rfl, ?_⟩
    · by_cases c : f_dr (f_st zx) 12 = 0
      · rw [if_pos c, if_pos c]
        have ho := rf_isOut (h := mm_up h 133 37 (f_st zx)) zI.1.1 j0 (by omega) (d + 4)
        change mm_M mm_prog (d + 4 + 2) 200 [(21, 133), (0, j)] (sdh h (f_st zx) z) = some (_, sdh h (f_st zx) z) at ho
        rw [ho, Option.bind_some]
        unfold f_lj
        cases f_out z j with
        | true =>
          show (if (1 : Int) = 0 then _ else _) = _
          rw [if_neg (by decide)]
          dsimp only
          rw [rf_drawsFor zW zI.1 m5, Option.bind_some]
          rfl
        | false =>
          show (if (0 : Int) = 0 then _ else _) = _
          rw [if_pos rfl]
          dsimp only
          rw [rf_drawsFor zW zI.1 m4, Option.bind_some]
          rfl
      · rw [if_neg c, if_neg c]
    · by_cases c : f_dr (f_st zx) 12 = 0
      · rw [if_pos c]
        exact zI.lj hW j0 j1
      · rw [if_neg c]
        exact zI) (V 2).toNat 0 (sdh h (f_st x) (f_lot y (f_dr (f_st x) 20))) (f_st x, f_lot y (f_dr (f_st x) 20)) (by omega) (by omega) ⟨rfl, I1⟩
  have ed : sp_it f_dp (V 2).toNat 0 (f_st x, f_lot y (f_dr (f_st x) 20)) = f_dps (x, y) := by
    unfold f_dps
    dsimp only
    rw [y2]
  rw [ed] at E2 I2
  have er : sdh h (f_dps (x, y)).1 (f_dps (x, y)).2 135 2 = V 2 := by
    unfold sdh
    rw [vs_at]
    exact I2.2.1 2 (by omega)
  refine ⟨(0, f_dr (f_st x) 20), (0, V 2), ?_, I2.step hW h6⟩
  rw [e1, r2, E2, e_X12_drawSeconds_64, r135, er, if_neg (by omega), pu_w (x := i + 1) (by omega) (by omega)]
  have es := rf_sec (h := mm_up h 133 37 (f_dps (x, y)).1) (I2.2.1.W hW) I2.1 (by rw [I2.2.2]; exact h6) (d + 2)
  change mm_M mm_prog (d + 2 + 4) 223 [(21, 133)] (sdh h (f_dps (x, y)).1 (f_dps (x, y)).2) = some (0, sdh h (f_dps (x, y)).1 (f_sec (f_dps (x, y)).2)) at es
  rw [es, Option.bind_some]
  rfl
theorem rf_drawSeconds (hW : pr_W V) (hT : pr_T V) {n x : Int} (h0 : 0 ≤ n) (h1 : n ≤ 60) (d : Nat) : mm_M mm_prog (d + 7) 258 [(21, 133), (0, n), (0, x)] (vs h V) = some (min n (600 - V 48), sdh h (f_dss (min n (600 - V 48)).toNat (x, V)).1 (f_dss (min n (600 - V 48)).toNat (x, V)).2) := by
  have b48 := hT.1.1
  have e0 : mm_up (vs h V) 133 37 x = sdh h x V := vs_upo (by decide)
  have e35 : sdh h x V 135 48 = V 48 := by
    unfold sdh
    rw [vs_at]
  rw [e_X12_drawSeconds, e0, r135, e35, pu_w (by omega) (by omega), rf_least, Option.bind_some]
  dsimp only
  generalize hk : min n (600 - V 48) = k
  have hk0 : 0 ≤ k ∧ k ≤ 60 ∧ V 48 + k ≤ 600 := by omega
  obtain ⟨⟨s2, v5, v6⟩, r2, E2, I2⟩ := sp_it_rel (R := fun i (s : mm_H × mm_V × mm_V) => mm_R mm_prog (d + 6) T_X12_drawSeconds 24 [(21, 133), (0, n), (0, x), (0, k), (0, i), s.2.1, s.2.2] [] s.1) (f := fun _ => f_ds) (I := fun j s z => s.1 = sdh h z.1 z.2 ∧ scI V j z.2) (N := k) (fun j s z j0 j1 hI => by
    obtain ⟨s, u5, u6⟩ := s
    obtain ⟨zx, z⟩ := z
    obtain ⟨e, zI⟩ := hI
    dsimp only at e zI ⊢
    subst e
    obtain ⟨v5, v6, q1, q2⟩ := rf_drawn1 (h := h) (x := zx) (n := n) (x0 := x) (k := k) hW u5 u6 zI j0 j1 (by omega) (by omega) d
    exact ⟨(_, v5, v6), q1, rfl, q2⟩) k.toNat 0 (sdh h x V, (9, 0), (9, 0)) (x, V) (by omega) (by omega) ⟨rfl, hT, hd.rf V, by dsimp only; omega⟩
  dsimp only at r2 E2
  rw [r2, E2, e_X12_drawSeconds_24, if_neg (by omega)]
  rfl
end PR
