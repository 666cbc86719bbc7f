/-! ONES, joined: read on both sides -/
def wS (c c' : mm_H) : Prop := ∀ o k, ¬ ((o = 1 ∧ 3 ≤ k ∧ k ≤ 9) ∨ (90 ≤ o ∧ o ≤ 93)) → c' o k = c o k
def xS (r r' : mm_H) : Prop := ∀ o k, ¬ ((o = 133 ∧ ((5 ≤ k ∧ k ≤ 13) ∨ (43 ≤ k ∧ k ≤ 46))) ∨ o = 152) → r' o k = r o k
theorem wS.tr {a b c : mm_H} (h1 : wS a b) (h2 : wS b c) : wS a c := fun o k z => (h2 o k z).trans (h1 o k z)
theorem xS.tr {a b c : mm_H} (h1 : xS a b) (h2 : xS b c) : xS a c := fun o k z => (h2 o k z).trans (h1 o k z)
theorem wS.rf (c : mm_H) : wS c c := fun _ _ _ => rfl
theorem xS.rf (c : mm_H) : xS c c := fun _ _ _ => rfl
theorem cF.s {a b : mm_H} (h : cF a b) : wS a b := fun o k z => h o k (fun q => z (Or.inl q))
theorem rF.s {a b : mm_H} (h : rF a b) : xS a b := fun o k z => h o k (fun q => z (Or.inl ⟨q.1, Or.inl q.2⟩))
theorem wS.up {a b : mm_H} {o k v : Int} (h : wS a b) (ho : 90 ≤ o ∧ o ≤ 93) : wS a (mm_up b o k v) := fun o' k' z => by
  rw [pu_ob (fun q => z (Or.inr (by rw [q]; exact ho)))]
  exact h o' k' z
theorem xS.up {a b : mm_H} {k v : Int} (h : xS a b) (hk : 43 ≤ k ∧ k ≤ 46) : xS a (mm_up b 133 k v) := fun o' k' z => by
  rw [pu_up, if_neg (fun q => z (Or.inl ⟨q.1, Or.inr (by rw [q.2]; exact hk)⟩))]
  exact h o' k' z
theorem wS.add {a b : mm_H} {s x y z : Int} (h : wS a b) : wS a (addS b s x y z) := (((h.up (by decide)).up (by decide)).up (by decide)).up (by decide)
theorem xS.say {a b : mm_H} {s w x y z : Int} (h : xS a b) : xS a (sayS b s w x y z) := fun o' k' q => by
  unfold sayS
  rw [pu_up, if_neg (by omega), pu_ob (by omega), pu_ob (by omega), pu_ob (by omega), pu_ob (by omega)]
  exact h o' k' q
theorem BX.s {c r c' r' : mm_H} (h : BX c r) (hc : wS c c') (hr : xS r r') : BX c' r' := h.cg (fun o h0 h1 => funext fun k => hc o k (by omega)) (funext fun k => hr _ k (by omega)) (funext fun k => hr _ k (by omega))
theorem xS.row {r r' : mm_H} (h : xS r r') {o : Int} (h1 : o ≠ 133) (h2 : o ≠ 152) : r' o = r o := funext fun k => h o k (by omega)
def SN (c r : mm_H) (s o w : Int) : Prop := (c 90 3 = s ∧ r 133 43 = s ∧ c 90 4 = o ∧ r 133 44 = o ∧ r 133 45 = w) ∧ (0 ≤ s ∧ s ≤ 2 * o) ∧ (0 ≤ o ∧ o ≤ 20) ∧ (0 ≤ w ∧ w ≤ 8)
def SR (X Y : Option mm_O) (c r : mm_H) (n most s o : Int) : Prop :=
  (∃ c' r' p' t' s1 o1, X = some (1, c') ∧ Y = some (1, r') ∧ TF c' r' n most p' t' ∧ SGa c r c' r' s o s1 o1 (r' 133 46) ∧ wS c c' ∧ xS r r') ∨
  (∃ c' r', X = some (0, c') ∧ Y = some (0, r') ∧ FL c' r' ∧ wS c c' ∧ xS r r')
/-- the same tree, seen from before -/
theorem SGa_wk {c r c1 r1 c2 r2 c' r' : mm_H} {s o s2 o2 a : Int} (h : SGa c1 r1 c2 r2 s (o + 1) s2 o2 a) (o0 : 0 ≤ o) (ev : r1 135 = r 135) (e1 : ∀ i, i < s → c1 91 i = c 91 i ∧ c1 92 i = c 92 i ∧ c1 93 i = c 93 i) (e2 : ∀ j, 0 ≤ j → j < 4 * s → r1 152 j = r 152 j) (d1 : ∀ o, 90 ≤ o → o ≤ 93 → ∀ k, c' o k = c2 o k) (d2 : r' 152 = r2 152) (d3 : r' 133 43 = r2 133 43) (d4 : r' 133 44 = r2 133 44) (d5 : r' 133 45 = r 133 45) : SGa c r c' r' s o s2 o2 a := by
  obtain ⟨⟨h1, h2, h3, h4, h5⟩, hb, ht, hl, hs, hv, hc, hr⟩ := h
  unfold SGa
  rw [d2, d3, d4, d1 90 (by decide) (by decide), d1 90 (by decide) (by decide)]
  refine ⟨⟨h1, h2, h3, h4, d5⟩, by omega, by rw [← ev]; exact ht, hl, hs.cg (fun k k0 k1 => ⟨d1 91 (by decide) (by decide) k, d1 92 (by decide) (by decide) k, d1 93 (by decide) (by decide) k⟩), by omega, fun i hi => ?_, fun j j0 j1 => ?_⟩
  · rw [d1 91 (by decide) (by decide), d1 92 (by decide) (by decide), d1 93 (by decide) (by decide), (hc i hi).1, (hc i hi).2.1, (hc i hi).2.2]
    exact e1 i hi
  · rw [hr j j0 j1]; exact e2 j j0 j1
def P_one (e : Nat) : Prop := ∀ (d d' : Nat) (c r : mm_H) (n most p t s o w : Int), TF c r n most p t → BX c r → SN c r s o w → w + e = 8 → SR (mm_M mm_prog (d + 3 * e + 8) 73 [(17, 90), (18, 1), (14, 15), (0, w + 1)] c) (mm_M mm_prog (d' + 4 * e + 8) 273 [(21, 133)] r) c r n most s o
def P_all (e : Nat) : Prop := ∀ (d d' : Nat) (c r : mm_H) (n most p t s o w : Int), TF c r n most p t → BX c r → SN c r s o w → w + e = 8 → SR (mm_M mm_prog (d + 3 * e + 9) 72 [(17, 90), (18, 1), (14, 15), (0, w + 1)] c) (mm_M mm_prog (d' + 4 * e + 9) 272 [(21, 133)] r) c r n most s o
def P_cond (e : Nat) : Prop := ∀ (d d' : Nat) (c r : mm_H) (n most p t s o w : Int), TF c r n most p t → BX c r → SN c r s o w → w + e = 8 → SR (mm_M mm_prog (d + 3 * e + 10) 71 [(17, 90), (18, 1), (14, 15), (0, w + 1)] c) (mm_M mm_prog (d' + 4 * e + 10) 271 [(21, 133)] r) c r n most s o
theorem sn_loop {e : Nat} (hO : P_one e) {c r : mm_H} {n most s o w : Int} (hS : SN c r s o w) (hw : w + e = 8) (d d' : Nat) : ∀ (f : Nat) (i p t s1 o1 a : Int) (c1 r1 : mm_H), TF c1 r1 n most p t → BX c1 r1 → SGa c r c1 r1 s o s1 o1 a → wS c c1 → xS r r1 → 0 ≤ i → o + 1 + i ≤ o1 → 20 - o1 < f → SR (mm_R mm_prog (d + 3 * e + 8) T_X7_readAll 15 [(17, 90), (18, 1), (14, 15), (0, w + 1), (0, i)] [] c1) (mm_R mm_prog (d' + 4 * e + 8) T_X12_readAnd 14 [(21, 133), (0, a)] [] r1) c r n most s o
  | 0, i, p, t, s1, o1, a, c1, r1, h, hX, hG, wc, xr, i0, io, hf => by
    have := hG.2.1
    omega
  | f + 1, i, p, t, s1, o1, a, c1, r1, h, hX, hG, wc, xr, i0, io, hf => by
    have hG' := hG
    obtain ⟨⟨g1, g2, g3, g4, g5⟩, gb, -⟩ := hG'
    obtain ⟨⟨n1, n2, n3, n4, n5⟩, sb, ob, wb⟩ := hS
    have g := h.1.2.2.2.1
    have wk := tk_word (k := 16) h.1 (by decide) (by decide) (d' + 4 * e + 5)
    rw [show wo 16 = 27 from rfl] at wk
    by_cases z : t = 27
    · obtain ⟨c2, r2, p2, t2, e1, e2, e3, e4, e5, e6⟩ := tf_adv h (d + 3 * e + 4) (d' + 4 * e + 4)
      have X2 : BX c2 r2 := hX.s e5.c.s e6.r.s
      have S2 : SN c2 r2 s1 o1 w := ⟨⟨by rw [e5.c.ob (by decide)]; exact g1, by rw [e6.r _ _ (by omega)]; exact g2, by rw [e5.c.ob (by decide)]; exact g3, by rw [e6.r _ _ (by omega)]; exact g4, by rw [e6.r _ _ (by omega), g5]; exact n5⟩, by omega, by omega, wb⟩
      rcases hO d d' c2 r2 n most p2 t2 s1 o1 w e3 X2 S2 hw with ⟨c3, r3, p3, t3, s2, o2, f1, f2, f3, f4, f5, f6⟩ | ⟨c3, r3, f1, f2, f3, f4, f5⟩
      · have f4' := f4
        obtain ⟨⟨m1, m2, m3, m4, m5⟩, mb, -⟩ := f4'
        have J := SGa_join (w := 2) (wd := 27) hG f4 (Or.inl ⟨rfl, rfl⟩) (fun i => ⟨e5.c.ob (by decide) i, e5.c.ob (by decide) i, e5.c.ob (by decide) i⟩) (fun j => e6.r.ob (by decide) j) (e6.r _ _ (by omega)) ((e6.r.row (by decide)).trans (xr.row (by decide) (by decide)))
        have h4 : TF (addS c3 s2 27 27 0) (sayS r3 s2 2 a (r3 133 46) 0) n most p3 t3 := f3.cg (fun k => by unfold addS; rw [pu_ob (by decide), pu_ob (by decide), pu_ob (by decide), pu_ob (by decide)]) (fun k => by unfold addS; rw [pu_ob (by decide), pu_ob (by decide), pu_ob (by decide), pu_ob (by decide)]) (fun k k0 k1 => say_133 (by omega)) (fun k => by unfold sayS; rw [pu_ob (by decide), pu_ob (by decide), pu_ob (by decide), pu_ob (by decide), pu_ob (by decide)])
        have wc4 : wS c (addS c3 s2 27 27 0) := ((wc.tr e5.c.s).tr f5).add
        have xr4 : xS r (sayS r3 s2 2 a (r3 133 46) 0) := ((xr.tr e6.r.s).tr f6).say
        have X4 : BX (addS c3 s2 27 27 0) (sayS r3 s2 2 a (r3 133 46) 0) := hX.s ((e5.c.s.tr f5).add) ((e6.r.s.tr f6).say)
        have ih := sn_loop hO ⟨⟨n1, n2, n3, n4, n5⟩, sb, ob, wb⟩ hw d d' f (i + 1) p3 t3 (s2 + 1) o2 s2 _ _ h4 X4 J wc4 xr4 (by omega) (by omega) (by omega)
        have cs : mm_R mm_prog (d + 3 * e + 8) T_X7_readAll 15 [(17, 90), (18, 1), (14, 15), (0, w + 1), (0, i)] [] c1 = mm_R mm_prog (d + 3 * e + 8) T_X7_readAll 15 [(17, 90), (18, 1), (14, 15), (0, w + 1), (0, i + 1)] [] (addS c3 s2 27 27 0) := by
          rw [e_X7_readAll_15, if_pos (by omega), if_pos (g.trans z), e1, Option.bind_some]
          dsimp only
          rw [f1, Option.bind_some]
          show (if (1 : Int) = 0 then _ else _) = _
          rw [if_neg (by decide)]
          dsimp only
          rw [cl_addS m1 (by omega) (by omega), Option.bind_some, pu_w (by omega) (by omega)]
        have rs : mm_R mm_prog (d' + 4 * e + 8) T_X12_readAnd 14 [(21, 133), (0, a)] [] r1 = mm_R mm_prog (d' + 4 * e + 8) T_X12_readAnd 14 [(21, 133), (0, s2)] [] (sayS r3 s2 2 a (r3 133 46) 0) := by
          rw [e_X12_readAnd_14, wk, Option.bind_some, if_neg (sp_bt (decide_eq_true z))]
          dsimp only
          rw [e2, Option.bind_some]
          dsimp only
          rw [f2, Option.bind_some]
          show (if (1 : Int) = 0 then _ else _) = _
          rw [if_neg (by decide)]
          dsimp only
          rw [rf_sayS m2 (by omega) (by omega), Option.bind_some]
        rw [cs, rs]
        exact ih
      · right
        refine ⟨c3, r3, ?_, ?_, f3, (wc.tr e5.c.s).tr f4, (xr.tr e6.r.s).tr f5⟩
        · rw [e_X7_readAll_15, if_pos (by omega), if_pos (g.trans z), e1, Option.bind_some]
          dsimp only
          rw [f1, Option.bind_some]
          rfl
        · rw [e_X12_readAnd_14, wk, Option.bind_some, if_neg (sp_bt (decide_eq_true z))]
          dsimp only
          rw [e2, Option.bind_some]
          dsimp only
          rw [f2, Option.bind_some]
          rfl
    · left
      refine ⟨c1, mm_up r1 133 46 a, p, t, s1, o1, ?_, ?_, h.oth rfl rfl (fun k _ _ => pu_sl (by omega)) (row_ne (by decide)), ?_, wc, xr.up (by decide)⟩
      · rw [e_X7_readAll_15, if_pos (by omega), if_neg (by rw [g]; exact z)]
      · rw [e_X12_readAnd_14, wk, Option.bind_some, if_pos (sp_bn (decide_eq_false z))]
      · rw [pu_eq]
        obtain ⟨⟨h1, h2, h3, h4, h5⟩, q⟩ := hG
        unfold SGa
        rw [row_ne (show (152 : Int) ≠ 133 by decide), pu_sl (by decide), pu_sl (by decide), pu_sl (by decide)]
        exact ⟨⟨h1, h2, h3, h4, h5⟩, q⟩
theorem p_all {e : Nat} (hO : P_one e) : P_all e := by
  intro d d' c r n most p t s o w h hX hS hw
  rcases hO d d' c r n most p t s o w h hX hS hw with ⟨c1, r1, p1, t1, s1, o1, f1, f2, f3, f4, f5, f6⟩ | ⟨c1, r1, f1, f2, f3, f4, f5⟩
  · have := sn_loop hO hS hw d d' 21 0 p1 t1 s1 o1 (r1 133 46) c1 r1 f3 (hX.s f5 f6) f4 f5 f6 (by decide) (by have := f4.2.1; omega) (by have := f4.2.1; have := hS.2.2.1; omega)
    have ec : mm_M mm_prog (d + 3 * e + 9) 72 [(17, 90), (18, 1), (14, 15), (0, w + 1)] c = mm_R mm_prog (d + 3 * e + 8) T_X7_readAll 15 [(17, 90), (18, 1), (14, 15), (0, w + 1), (0, 0)] [] c1 := by
      rw [e_X7_readAll, f1, Option.bind_some]
      show (if (1 : Int) = 0 then _ else _) = _
      rw [if_neg (by decide)]
    have er : mm_M mm_prog (d' + 4 * e + 9) 272 [(21, 133)] r = mm_R mm_prog (d' + 4 * e + 8) T_X12_readAnd 14 [(21, 133), (0, r1 133 46)] [] r1 := by
      rw [e_X12_readAnd, f2, Option.bind_some]
      show (if (1 : Int) = 0 then _ else _) = _
      rw [if_neg (by decide)]
    rw [ec, er]
    exact this
  · right
    refine ⟨c1, r1, ?_, ?_, f3, f4, f5⟩
    · rw [e_X7_readAll, f1, Option.bind_some]; rfl
    · rw [e_X12_readAnd, f2, Option.bind_some]; rfl
theorem sn_loop2 {e : Nat} (hO : P_all e) {c r : mm_H} {n most s o w : Int} (hS : SN c r s o w) (hw : w + e = 8) (d d' : Nat) : ∀ (f : Nat) (i p t s1 o1 a : Int) (c1 r1 : mm_H), TF c1 r1 n most p t → BX c1 r1 → SGa c r c1 r1 s o s1 o1 a → wS c c1 → xS r r1 → 0 ≤ i → o + 1 + i ≤ o1 → 20 - o1 < f → SR (mm_R mm_prog (d + 3 * e + 9) T_X7_readCond 15 [(17, 90), (18, 1), (14, 15), (0, w + 1), (0, i)] [] c1) (mm_R mm_prog (d' + 4 * e + 9) T_X12_readOr 14 [(21, 133), (0, a)] [] r1) c r n most s o
  | 0, i, p, t, s1, o1, a, c1, r1, h, hX, hG, wc, xr, i0, io, hf => by
    have := hG.2.1
    omega
  | f + 1, i, p, t, s1, o1, a, c1, r1, h, hX, hG, wc, xr, i0, io, hf => by
    have hG' := hG
    obtain ⟨⟨g1, g2, g3, g4, g5⟩, gb, -⟩ := hG'
    obtain ⟨⟨n1, n2, n3, n4, n5⟩, sb, ob, wb⟩ := hS
    have g := h.1.2.2.2.1
    have wk := tk_word (k := 15) h.1 (by decide) (by decide) (d' + 4 * e + 6)
    rw [show wo 15 = 26 from rfl] at wk
    by_cases z : t = 26
    · obtain ⟨c2, r2, p2, t2, e1, e2, e3, e4, e5, e6⟩ := tf_adv h (d + 3 * e + 5) (d' + 4 * e + 5)
      have X2 : BX c2 r2 := hX.s e5.c.s e6.r.s
      have S2 : SN c2 r2 s1 o1 w := ⟨⟨by rw [e5.c.ob (by decide)]; exact g1, by rw [e6.r _ _ (by omega)]; exact g2, by rw [e5.c.ob (by decide)]; exact g3, by rw [e6.r _ _ (by omega)]; exact g4, by rw [e6.r _ _ (by omega), g5]; exact n5⟩, by omega, by omega, wb⟩
      rcases hO d d' c2 r2 n most p2 t2 s1 o1 w e3 X2 S2 hw with ⟨c3, r3, p3, t3, s2, o2, f1, f2, f3, f4, f5, f6⟩ | ⟨c3, r3, f1, f2, f3, f4, f5⟩
      · have f4' := f4
        obtain ⟨⟨m1, m2, m3, m4, m5⟩, mb, -⟩ := f4'
        have J := SGa_join (w := 3) (wd := 26) hG f4 (Or.inr ⟨rfl, rfl⟩) (fun i => ⟨e5.c.ob (by decide) i, e5.c.ob (by decide) i, e5.c.ob (by decide) i⟩) (fun j => e6.r.ob (by decide) j) (e6.r _ _ (by omega)) ((e6.r.row (by decide)).trans (xr.row (by decide) (by decide)))
        have h4 : TF (addS c3 s2 26 26 0) (sayS r3 s2 3 a (r3 133 46) 0) n most p3 t3 := f3.cg (fun k => by unfold addS; rw [pu_ob (by decide), pu_ob (by decide), pu_ob (by decide), pu_ob (by decide)]) (fun k => by unfold addS; rw [pu_ob (by decide), pu_ob (by decide), pu_ob (by decide), pu_ob (by decide)]) (fun k k0 k1 => say_133 (by omega)) (fun k => by unfold sayS; rw [pu_ob (by decide), pu_ob (by decide), pu_ob (by decide), pu_ob (by decide), pu_ob (by decide)])
        have wc4 : wS c (addS c3 s2 26 26 0) := ((wc.tr e5.c.s).tr f5).add
        have xr4 : xS r (sayS r3 s2 3 a (r3 133 46) 0) := ((xr.tr e6.r.s).tr f6).say
        have X4 : BX (addS c3 s2 26 26 0) (sayS r3 s2 3 a (r3 133 46) 0) := hX.s ((e5.c.s.tr f5).add) ((e6.r.s.tr f6).say)
        have ih := sn_loop2 hO ⟨⟨n1, n2, n3, n4, n5⟩, sb, ob, wb⟩ hw d d' f (i + 1) p3 t3 (s2 + 1) o2 s2 _ _ h4 X4 J wc4 xr4 (by omega) (by omega) (by omega)
        have cs : mm_R mm_prog (d + 3 * e + 9) T_X7_readCond 15 [(17, 90), (18, 1), (14, 15), (0, w + 1), (0, i)] [] c1 = mm_R mm_prog (d + 3 * e + 9) T_X7_readCond 15 [(17, 90), (18, 1), (14, 15), (0, w + 1), (0, i + 1)] [] (addS c3 s2 26 26 0) := by
          rw [e_X7_readCond_15, if_pos (by omega), if_pos (g.trans z), e1, Option.bind_some]
          dsimp only
          rw [f1, Option.bind_some]
          show (if (1 : Int) = 0 then _ else _) = _
          rw [if_neg (by decide)]
          dsimp only
          rw [cl_addS m1 (by omega) (by omega), Option.bind_some, pu_w (by omega) (by omega)]
        have rs : mm_R mm_prog (d' + 4 * e + 9) T_X12_readOr 14 [(21, 133), (0, a)] [] r1 = mm_R mm_prog (d' + 4 * e + 9) T_X12_readOr 14 [(21, 133), (0, s2)] [] (sayS r3 s2 3 a (r3 133 46) 0) := by
          rw [e_X12_readOr_14, wk, Option.bind_some, if_neg (sp_bt (decide_eq_true z))]
          dsimp only
          rw [e2, Option.bind_some]
          dsimp only
          rw [f2, Option.bind_some]
          show (if (1 : Int) = 0 then _ else _) = _
          rw [if_neg (by decide)]
          dsimp only
          rw [rf_sayS m2 (by omega) (by omega), Option.bind_some]
        rw [cs, rs]
        exact ih
      · right
        refine ⟨c3, r3, ?_, ?_, f3, (wc.tr e5.c.s).tr f4, (xr.tr e6.r.s).tr f5⟩
        · rw [e_X7_readCond_15, if_pos (by omega), if_pos (g.trans z), e1, Option.bind_some]
          dsimp only
          rw [f1, Option.bind_some]
          rfl
        · rw [e_X12_readOr_14, wk, Option.bind_some, if_neg (sp_bt (decide_eq_true z))]
          dsimp only
          rw [e2, Option.bind_some]
          dsimp only
          rw [f2, Option.bind_some]
          rfl
    · left
      refine ⟨c1, mm_up r1 133 46 a, p, t, s1, o1, ?_, ?_, h.oth rfl rfl (fun k _ _ => pu_sl (by omega)) (row_ne (by decide)), ?_, wc, xr.up (by decide)⟩
      · rw [e_X7_readCond_15, if_pos (by omega), if_neg (by rw [g]; exact z)]
      · rw [e_X12_readOr_14, wk, Option.bind_some, if_pos (sp_bn (decide_eq_false z))]
      · rw [pu_eq]
        obtain ⟨⟨h1, h2, h3, h4, h5⟩, q⟩ := hG
        unfold SGa
        rw [row_ne (show (152 : Int) ≠ 133 by decide), pu_sl (by decide), pu_sl (by decide), pu_sl (by decide)]
        exact ⟨⟨h1, h2, h3, h4, h5⟩, q⟩
theorem p_cond {e : Nat} (hO : P_all e) : P_cond e := by
  intro d d' c r n most p t s o w h hX hS hw
  rcases hO d d' c r n most p t s o w h hX hS hw with ⟨c1, r1, p1, t1, s1, o1, f1, f2, f3, f4, f5, f6⟩ | ⟨c1, r1, f1, f2, f3, f4, f5⟩
  · have := sn_loop2 hO hS hw d d' 21 0 p1 t1 s1 o1 (r1 133 46) c1 r1 f3 (hX.s f5 f6) f4 f5 f6 (by decide) (by have := f4.2.1; omega) (by have := f4.2.1; have := hS.2.2.1; omega)
    have ec : mm_M mm_prog (d + 3 * e + 10) 71 [(17, 90), (18, 1), (14, 15), (0, w + 1)] c = mm_R mm_prog (d + 3 * e + 9) T_X7_readCond 15 [(17, 90), (18, 1), (14, 15), (0, w + 1), (0, 0)] [] c1 := by
      rw [e_X7_readCond, f1, Option.bind_some]
      show (if (1 : Int) = 0 then _ else _) = _
      rw [if_neg (by decide)]
    have er : mm_M mm_prog (d' + 4 * e + 10) 271 [(21, 133)] r = mm_R mm_prog (d' + 4 * e + 9) T_X12_readOr 14 [(21, 133), (0, r1 133 46)] [] r1 := by
      rw [e_X12_readOr, f2, Option.bind_some]
      show (if (1 : Int) = 0 then _ else _) = _
      rw [if_neg (by decide)]
    rw [ec, er]
    exact this
  · right
    refine ⟨c1, r1, ?_, ?_, f3, f4, f5⟩
    · rw [e_X7_readCond, f1, Option.bind_some]; rfl
    · rw [e_X12_readOr, f2, Option.bind_some]; rfl
