/-! The tape; joins, once -/
/-- what holds on, part by part -/
theorem Inv.gen {h h' : mm_H} {ch : Int → Int → Prop} (hI : Inv h) (hf : ∀ o k, ¬ ch o k → h' o k = h o k) (w1 : ∀ o k, q_img o → ¬ ch o k) (w2 : ∀ o k, q_town o k → ¬ ch o k) (w3 : ∀ o k, q_past o k → ¬ ch o k) (cu : CU h') (ro : RO h') (vo : h' 0 14 = h' 133 34) (tg : TG h') (bo : BO h') (fa : h' 0 13 = h' 133 10) (ta : TA h') : Inv h' := by
  obtain ⟨a, b, c⟩ := Inv_iff.mp hI
  have e : h' 135 = h 135 := funext fun k => hf 135 k (w2 135 k (Or.inr (Or.inl rfl)))
  refine Inv_iff.mpr ⟨a.dif hf w2, by rw [e]; exact b.dif a.1 (hd.rf _) hf w3, c.1.dif (by decide) hf (fun o k q => w1 o k (by unfold q_img; omega)), c.2.1.dif (by decide) hf (fun o k q => w1 o k (by unfold q_img; omega)), cu, ro, vo, tg, bo, fa, ta⟩
theorem pu_255 (y : Int) : mm_and y 255 = y % 256 := by
  unfold mm_and
  have e : (Int32.ofInt y &&& Int32.ofInt 255).toBitVec.toNat = (y % 4294967296).toNat % 256 := by
    rw [Int32.toBitVec_and, BitVec.toNat_and]
    have a : (Int32.ofInt y).toBitVec.toNat = (y % 4294967296).toNat := by
      show (BitVec.ofInt 32 y).toNat = _
      rw [BitVec.toNat_ofInt]
      rfl
    rw [a, show (Int32.ofInt 255).toBitVec.toNat = 2 ^ 8 - 1 from by decide, Nat.and_two_pow_sub_one_eq_mod]
  rw [pu_ti (by rw [e]; omega), e]
  omega
theorem pu_w8m (y : Int) : mm_w8 (y % 256) = mm_w8 y := by
  unfold mm_w8
  rw [Int.bmod_def, Int.bmod_def]
  split <;> split <;> omega
theorem pu_w8w (y : Int) : mm_w8 (mm_w8 y) = mm_w8 y := by
  unfold mm_w8
  rw [Int.bmod_def, Int.bmod_def]
  split <;> split <;> omega
/-- bytes come behind a row whose length lies at (b, k) -/
def apl (f : Int → Int) (a b k : Int) : List Int → mm_H → Int → mm_H
  | [], h, _ => h
  | v :: r, h, L => apl f a b k r (mm_up (mm_up h a L (f v)) b k (L + 1)) (L + 1)
theorem apl_app (f : Int → Int) (a b k : Int) : ∀ (l l' : List Int) (h : mm_H) (L : Int), apl f a b k (l ++ l') h L = apl f a b k l' (apl f a b k l h L) (L + l.length)
  | [], l', h, L => by
    rw [List.nil_append]
    show _ = apl f a b k l' h (L + ((0 : Nat) : Int))
    congr 1
    omega
  | v :: r, l', h, L => by
    rw [List.cons_append]
    show apl f a b k (r ++ l') _ _ = apl f a b k l' (apl f a b k r _ _) _
    rw [apl_app f a b k r l']
    congr 1
    rw [List.length_cons]
    omega
theorem apl_dif (f : Int → Int) {a b k : Int} : ∀ (l : List Int) (h : mm_H) (L o j : Int), ¬ (o = a ∨ (o = b ∧ j = k)) → apl f a b k l h L o j = h o j
  | [], h, L, o, j, q => rfl
  | v :: r, h, L, o, j, q => by
    show apl f a b k r _ _ o j = _
    rw [apl_dif f r _ _ o j q]
    unfold mm_up
    rw [if_neg (by omega), if_neg (by omega)]
theorem apl_len (f : Int → Int) {a b k : Int} (hab : a ≠ b) : ∀ (l : List Int) (h : mm_H) (L : Int), h b k = L → apl f a b k l h L b k = L + l.length
  | [], h, L, e => by
    show h b k = L + ((0 : Nat) : Int)
    omega
  | v :: r, h, L, e => by
    show apl f a b k r _ _ b k = _
    rw [apl_len f hab r _ _ (pu_eq _ _ _ _), List.length_cons]
    omega
theorem apl_at (f : Int → Int) {a b k : Int} (hab : a ≠ b) : ∀ (l : List Int) (h : mm_H) (L i : Int), (¬ (L ≤ i ∧ i < L + l.length) → apl f a b k l h L a i = h a i) ∧ (L ≤ i → i < L + l.length → apl f a b k l h L a i = f (l.getD (i - L).toNat 0))
  | [], h, L, i => ⟨fun _ => rfl, fun h0 h1 => by
      rw [List.length_nil] at h1
      omega⟩
  | v :: r, h, L, i => by
    have ih := apl_at f (k := k) hab r (mm_up (mm_up h a L (f v)) b k (L + 1)) (L + 1) i
    have e : apl f a b k (v :: r) h L a i = apl f a b k r (mm_up (mm_up h a L (f v)) b k (L + 1)) (L + 1) a i := rfl
    rw [e, List.length_cons]
    refine ⟨fun q => ?_, fun h0 h1 => ?_⟩
    · rw [ih.1 (by omega), pu_ob hab, pu_sl (by omega)]
    · by_cases c : i = L
      · rw [ih.1 (by omega), pu_ob hab, c, pu_eq, Int.sub_self]
        rfl
      · rw [ih.2 (by omega) (by omega)]
        congr 1
        rw [show (i - L).toNat = (i - (L + 1)).toNat + 1 by omega]
        rfl
def bys (x : Int) : List Int := [mm_ushr x 24, mm_ushr x 16, mm_ushr x 8, mm_ushr x 0]
section
variable {h : mm_H} {L : Int}
theorem cl_app1 {x s : Int} (hL : h 1 1 = L) (h0 : 0 ≤ L) (h1 : L < 940) (hs : 0 ≤ s) (d : Nat) : mm_R mm_prog d T_X8_append 3 [(18, 1), (0, x), (0, s)] [] h = mm_R mm_prog d T_X8_append 3 [(18, 1), (0, x), (0, mm_w (s + (-8)))] [] (mm_up (mm_up h 2 L (mm_w8 (mm_ushr x s))) 1 1 (L + 1)) := by
  rw [e_X8_append_3, if_neg (by omega), hL, if_pos h1, if_pos ⟨h0, h1⟩, show (1 : Int) + 1 = 2 from rfl, pu_w8w, pu_ob (by decide), hL, pu_w (x := L + 1) (by omega) (by omega)]
theorem cl_append (hL : h 1 1 = L) (h0 : 0 ≤ L) (h1 : L + 4 ≤ 940) (x : Int) (d : Nat) : mm_M mm_prog (d + 1) 81 [(18, 1), (0, x)] h = some (0, apl mm_w8 2 1 1 (bys x) h L) := by
  rw [e_X8_append, cl_app1 hL h0 (by omega) (by decide), show mm_w (24 + (-8)) = 16 from by decide, cl_app1 (pu_eq _ _ _ _) (by omega) (by omega) (by decide), show mm_w (16 + (-8)) = 8 from by decide, cl_app1 (pu_eq _ _ _ _) (by omega) (by omega) (by decide), show mm_w (8 + (-8)) = 0 from by decide, cl_app1 (pu_eq _ _ _ _) (by omega) (by omega) (by decide), show mm_w (0 + (-8)) = -8 from by decide, e_X8_append_3, if_pos (by decide)]
  rfl
theorem rf_come1 {x s : Int} (hL : h 133 2 = L) (h0 : 0 ≤ L) (h1 : L < 940) (hs : 0 ≤ s) (d : Nat) : mm_R mm_prog d T_X12_come 3 [(21, 133), (0, x), (0, s)] [] h = mm_R mm_prog d T_X12_come 3 [(21, 133), (0, x), (0, mm_w (s + (-8)))] [] (mm_up (mm_up h 134 L (mm_ushr x s % 256)) 133 2 (L + 1)) := by
  rw [e_X12_come_3, if_neg (by omega), hL, if_pos ⟨h0, h1⟩, show (133 : Int) + 1 = 134 from rfl, pu_255, pu_ob (by decide), hL, pu_w (x := L + 1) (by omega) (by omega)]
theorem rf_come (hL : h 133 2 = L) (h0 : 0 ≤ L) (h1 : L + 4 ≤ 940) (x : Int) (d : Nat) : mm_M mm_prog (d + 1) 156 [(21, 133), (0, x)] h = some (0, apl (fun v => v % 256) 134 133 2 (bys x) h L) := by
  rw [e_X12_come, rf_come1 hL h0 (by omega) (by decide), show mm_w (24 + (-8)) = 16 from by decide, rf_come1 (pu_eq _ _ _ _) (by omega) (by omega) (by decide), show mm_w (16 + (-8)) = 8 from by decide, rf_come1 (pu_eq _ _ _ _) (by omega) (by omega) (by decide), show mm_w (8 + (-8)) = 0 from by decide, rf_come1 (pu_eq _ _ _ _) (by omega) (by omega) (by decide), show mm_w (0 + (-8)) = -8 from by decide, e_X12_come_3, if_pos (by decide)]
  rfl
end
def bys5 (a b c d e : Int) : List Int := bys a ++ (bys b ++ (bys c ++ (bys d ++ bys e)))
theorem bys_len (x : Int) : (bys x).length = 4 := rfl
/-- what feeding and ending may change -/
def q_tp (o k : Int) : Prop := (o = 1 ∧ k = 1) ∨ o = 2 ∨ (o = 133 ∧ (k = 0 ∨ k = 2)) ∨ o = 134
theorem Inv.tape {h h' : mm_H} (hI : Inv h) (hf : ∀ o k, ¬ q_tp o k → h' o k = h o k) (ta : TA h') : Inv h' := by
  have e : ∀ o k, ¬ q_tp o k → h' o k = h o k := hf
  unfold q_tp at e
  obtain ⟨c1, c2, c3, c4, c5, c6, c7, c8, c9⟩ := (Inv_iff.mp hI).2.2
  exact hI.gen (ch := q_tp) hf (fun o k q z => by unfold q_img at q; unfold q_tp at z; omega) (fun o k q z => by unfold q_town at q; unfold q_tp at z; omega) (fun o k q z => by unfold q_past at q; unfold q_tp at z; omega) (c3.dif (ch := q_tp) hf (fun o k q z => by unfold q_tp at z; omega)) (c4.dif (ch := q_tp) hf (fun o k q z => by unfold q_tp at z; omega)) (by rw [e 0 14 (by omega), e 133 34 (by omega)]; exact c5) (c6.dif (ch := q_tp) hf (fun o k q z => by unfold q_tp at z; omega)) (c7.dif (ch := q_tp) hf (fun o k q z => by unfold q_tp at z; omega)) (by rw [e 0 13 (by omega), e 133 10 (by omega)]; exact c8) ta
theorem Inv.tap {h : mm_H} (hI : Inv h) : TA h := hI.2.2.2.2.2.2.2.2.2.2
theorem k_feed (a b c e f : Int) : Cal 105 157 [(0, a), (0, b), (0, c), (0, e), (0, f)] := by
  intro d h hI
  obtain ⟨t1, t2, t3⟩ := hI.tap
  by_cases q : 940 < h 1 1 + 20
  · refine ⟨-1, h, mm_up h 133 0 0, ?_, ?_, hI.th 0⟩
    · rw [e_X11_feed]
      simp only [show (0 : Int) + 1 = 1 from rfl]
      rw [pu_w (by omega) (by omega), if_pos q]
    · rw [e_X12_feed, pu_sl (by decide), pu_w (by omega) (by omega), if_pos (by omega)]
  · obtain ⟨L, hL⟩ : ∃ L, L = h 1 1 := ⟨_, rfl⟩
    have hr : mm_up h 133 0 0 133 2 = L := by rw [pu_sl (by decide), hL, t1]
    have n1 := fun x => apl_len mm_w8 (a := 2) (b := 1) (k := 1) (by decide) (bys x)
    have n2 := fun x => apl_len (fun v => v % 256) (a := 134) (b := 133) (k := 2) (by decide) (bys x)
    simp only [bys_len, show ((4 : Nat) : Int) = 4 from rfl] at n1 n2
    obtain ⟨h1, e1⟩ : ∃ h1, h1 = apl mm_w8 2 1 1 (bys5 a b c e f) h L := ⟨_, rfl⟩
    obtain ⟨h2, e2⟩ : ∃ h2, h2 = apl (fun v => v % 256) 134 133 2 (bys5 a b c e f) (mm_up h1 133 0 0) L := ⟨_, rfl⟩
    have E1 : ∀ o j, ¬ (o = 2 ∨ (o = 1 ∧ j = 1)) → h1 o j = h o j := fun o j q => by rw [e1]; exact apl_dif _ _ _ _ _ _ q
    have E2 : ∀ o j, ¬ (o = 134 ∨ (o = 133 ∧ j = 2)) → h2 o j = mm_up h1 133 0 0 o j := fun o j q => by rw [e2]; exact apl_dif _ _ _ _ _ _ q
    have l1 : h1 1 1 = L + 20 := by rw [e1, apl_len mm_w8 (by decide) _ _ _ hL.symm]; rfl
    have hr1 : mm_up h1 133 0 0 133 2 = L := by rw [pu_sl (by decide), E1 133 2 (by omega), ← t1, hL]
    have l2 : h2 133 2 = L + 20 := by rw [e2, apl_len _ (by decide) _ _ _ hr1]; rfl
    have xx : bys5 a b c e f = bys a ++ (bys b ++ (bys c ++ (bys e ++ bys f))) := rfl
    refine ⟨L + 20, h1, h2, ?_, ?_, ?_⟩
    · rw [e_X11_feed]
      simp only [show (0 : Int) + 1 = 1 from rfl]
      rw [pu_w (by omega) (by omega), if_neg q, cl_append hL.symm (by omega) (by omega), Option.bind_some]
      dsimp only
      rw [cl_append (n1 a _ _ hL.symm) (by omega) (by omega), Option.bind_some]
      dsimp only
      rw [cl_append (n1 b _ _ (n1 a _ _ hL.symm)) (by omega) (by omega), Option.bind_some]
      dsimp only
      rw [cl_append (n1 c _ _ (n1 b _ _ (n1 a _ _ hL.symm))) (by omega) (by omega), Option.bind_some]
      dsimp only
      rw [cl_append (n1 e _ _ (n1 c _ _ (n1 b _ _ (n1 a _ _ hL.symm)))) (by omega) (by omega), Option.bind_some]
      dsimp only
      have ee : h1 = apl mm_w8 2 1 1 (bys f) (apl mm_w8 2 1 1 (bys e) (apl mm_w8 2 1 1 (bys c) (apl mm_w8 2 1 1 (bys b) (apl mm_w8 2 1 1 (bys a) h L) (L + 4)) (L + 4 + 4)) (L + 4 + 4 + 4)) (L + 4 + 4 + 4 + 4) := by
        rw [e1, xx, apl_app, apl_app, apl_app, apl_app]
        rfl
      rw [← ee, l1]
    · rw [e_X12_feed, hr1, pu_w (by omega) (by omega), if_neg (by omega), rf_come hr1 (by omega) (by omega), Option.bind_some]
      dsimp only
      rw [rf_come (n2 a _ _ hr1) (by omega) (by omega), Option.bind_some]
      dsimp only
      rw [rf_come (n2 b _ _ (n2 a _ _ hr1)) (by omega) (by omega), Option.bind_some]
      dsimp only
      rw [rf_come (n2 c _ _ (n2 b _ _ (n2 a _ _ hr1))) (by omega) (by omega), Option.bind_some]
      dsimp only
      rw [rf_come (n2 e _ _ (n2 c _ _ (n2 b _ _ (n2 a _ _ hr1)))) (by omega) (by omega), Option.bind_some]
      dsimp only
      have ee : h2 = apl (fun v => v % 256) 134 133 2 (bys f) (apl (fun v => v % 256) 134 133 2 (bys e) (apl (fun v => v % 256) 134 133 2 (bys c) (apl (fun v => v % 256) 134 133 2 (bys b) (apl (fun v => v % 256) 134 133 2 (bys a) (mm_up h1 133 0 0) L) (L + 4)) (L + 4 + 4)) (L + 4 + 4 + 4)) (L + 4 + 4 + 4 + 4) := by
        rw [e2, xx, apl_app, apl_app, apl_app, apl_app]
        rfl
      rw [← ee, l2]
    · have m1 : h2 1 1 = L + 20 := by rw [E2 1 1 (by omega), pu_ob (by decide), l1]
      refine hI.tape (fun o k z => ?_) ⟨by rw [m1, l2], by rw [m1]; omega, fun i i0 i1 => ?_⟩
      · unfold q_tp at z
        rw [E2 o k (by omega)]
        unfold mm_up
        rw [if_neg (by omega), E1 o k (by omega)]
      · rw [m1] at i1
        have f2 : h2 2 i = h1 2 i := by rw [E2 2 i (by omega), pu_ob (by decide)]
        have c1 := apl_at mm_w8 (a := 2) (b := 1) (k := 1) (by decide) (bys5 a b c e f) h L i
        have c2 := apl_at (fun v => v % 256) (a := 134) (b := 133) (k := 2) (by decide) (bys5 a b c e f) (mm_up h1 133 0 0) L i
        rw [← e1, show ((bys5 a b c e f).length : Int) = 20 from rfl] at c1
        rw [← e2, show ((bys5 a b c e f).length : Int) = 20 from rfl] at c2
        rw [f2]
        by_cases z : i < L
        · rw [c1.1 (by omega), c2.1 (by omega), pu_ob (by decide), E1 134 i (by omega)]
          exact t3 i i0 (by omega)
        · rw [c1.2 (by omega) (by omega), c2.2 (by omega) (by omega), pu_w8m]
          exact ⟨by omega, rfl⟩
theorem k_end (n : Int) : Cal 106 158 [(0, n)] := by
  intro d h hI
  obtain ⟨t1, t2, t3⟩ := hI.tap
  by_cases c : 0 ≤ n ∧ n ≤ h 1 1
  · refine ⟨1, mm_up h 1 1 n, mm_up (mm_up (mm_up h 1 1 n) 133 0 0) 133 2 n, ?_, ?_, ?_⟩
    · rw [e_X11_end]
      simp only [show (0 : Int) + 1 = 1 from rfl]
      rw [if_neg (by omega), if_neg (by omega)]
    · rw [e_X12_end, if_neg (by omega), pu_sl (by decide), pu_ob (by decide), if_neg (by omega)]
    · refine hI.tape (fun o k z => ?_) ⟨?_, ?_, fun i i0 i1 => ?_⟩
      · unfold q_tp at z
        unfold mm_up
        rw [if_neg (by omega), if_neg (by omega), if_neg (by omega)]
      · rw [pu_eq, pu_ob (by decide), pu_ob (by decide), pu_eq]
      · rw [pu_ob (by decide), pu_ob (by decide), pu_eq]
        omega
      · rw [pu_ob (by decide), pu_ob (by decide), pu_eq] at i1
        rw [pu_ob (by decide), pu_ob (by decide), pu_ob (by decide), pu_ob (by decide), pu_ob (by decide), pu_ob (by decide)]
        exact t3 i i0 (by omega)
  · refine ⟨0, h, mm_up h 133 0 0, ?_, ?_, hI.th 0⟩
    · rw [e_X11_end]
      simp only [show (0 : Int) + 1 = 1 from rfl]
      by_cases c1 : n < 0
      · rw [if_pos c1]
      · rw [if_neg c1, if_pos (by omega)]
    · rw [e_X12_end, pu_sl (by decide)]
      by_cases c1 : n < 0
      · rw [if_pos c1]
      · rw [if_neg c1, if_pos (by omega)]
theorem rf_joins_27 {h : mm_H} {V : Int → Int} (hW : pr_W V) {p : Int} (p0 : 0 ≤ p) (p1 : p < V 2) (d : Nat) (hb : 0 ≤ V 48) : ∀ (n : Nat) (i : Int) (x : Int → Int), 0 ≤ i → V 48 + i + n = 600 → scI V i x → mm_R mm_prog (d + 4) T_X12_joins 27 [(21, 133), (0, p), (9, 0)] [] (vs (asd h V 26) x) = some ((f_till (f_fr p) n x i).getD (-1), vs (asd h V 26) V) := by
  intro n
  induction n with
  | zero =>
    intro i x i0 hi sI
    have e48 := sI.2.2
    have cr := rf_crowd (h := asd h V 26) (sI.2.1.W hW) sI.1.1 p0 (by rw [sI.2.1 2 (by omega)]; exact p1) (d + 1)
    rw [e_X12_joins_27, r135, cr, Option.bind_some]
    dsimp only
    rw [cr, Option.bind_some]
    simp only [vs_at]
    rw [rf_takeBack sI.2.1, Option.bind_some, f_till]
    simp only [vs_at]
    unfold f_fr
    cases f_crowd x p with
    | false =>
      show (if (0 : Int) = 0 then _ else _) = _
      rw [if_pos rfl, if_pos (show sp_b false = 0 from rfl), if_neg (by omega), pu_w (by omega) (by omega), show x 48 - V 48 = i by omega]
      rfl
    | true =>
      show (if (1 : Int) = 0 then _ else _) = _
      rw [if_neg (by decide), if_neg (by omega), if_neg (show ¬ sp_b true = 0 by decide), Option.bind_some, if_pos trivial]
      rfl
  | succ n ih =>
    intro i x i0 hi sI
    have e48 := sI.2.2
    have cr := rf_crowd (h := asd h V 26) (sI.2.1.W hW) sI.1.1 p0 (by rw [sI.2.1 2 (by omega)]; exact p1) (d + 1)
    rw [e_X12_joins_27, r135, cr, Option.bind_some]
    dsimp only
    rw [cr, Option.bind_some]
    simp only [vs_at]
    rw [rf_takeBack sI.2.1, Option.bind_some, f_till]
    simp only [vs_at]
    unfold f_fr at ih ⊢
    cases f_crowd x p with
    | false =>
      show (if (0 : Int) = 0 then _ else _) = _
      rw [if_pos rfl, if_pos (show sp_b false = 0 from rfl), if_neg (by omega), pu_w (by omega) (by omega), show x 48 - V 48 = i by omega]
      rfl
    | true =>
      show (if (1 : Int) = 0 then _ else _) = _
      rw [if_neg (by decide), if_pos (by omega), rf_sec (sI.2.1.W hW) sI.1 (by omega), Option.bind_some]
      exact ih (i + 1) (f_sec x) (by omega) (by omega) (sI.step hW (by omega))
theorem k_joins (p : Int) : Cal 131 234 [(0, p)] := by
  intro d h hI
  have M := hI.M
  have P := hI.P
  have b48 := hI.S.1
  have w2 := hI.W.2.2.1
  by_cases c : 0 ≤ p ∧ p < h 135 2
  · cases o : f_out (h 135) p with
    | true =>
      obtain ⟨h1, e1, M1, F1⟩ := cl_copyM (a := 72) (b := 25) M hI.W hI.S (by decide) (d + 98)
      have P1 := P.fr F1 (by decide)
      obtain ⟨h2, e2, F2⟩ := cl_tillFree P1 M1 hI.W hI.T c.1 c.2 o (by decide) (d + 94)
      have I2 := (hI.tr (Or.inr rfl) F1).tr (Or.inr rfl) F2
      have er : h2 135 = h 135 := (fr_row F2 (by decide)).trans (fr_row F1 (by decide))
      refine ⟨(f_till (f_fr p) (600 - h 135 48).toNat (h 135) 0).getD (-1), h2, asd (mm_up h2 133 0 0) (h 135) 26, ?_, ?_, Inv_as I2 (((dif.rf _ h2).up (Or.inr ⟨rfl, Or.inl rfl⟩)).tr (asd_dif _ _ _) (fun _ _ q => q) (fun _ _ q => q))⟩
      · rw [e_X11_joins]
        simp only [n15, n25, n72]
        rw [cl_has P (by decide) (by decide), Option.bind_some]
        simp only [Int.reduceAdd]
        rw [decide_eq_true c]
        show (if (1 : Int) = 0 then _ else _) = _
        rw [if_neg (by decide), cl_isOut M hI.S c.1 (by omega), Option.bind_some, o]
        show (if (1 : Int) = 0 then _ else _) = _
        rw [if_neg (by decide)]
        dsimp only
        rw [e1, Option.bind_some]
        dsimp only
        rw [e2, Option.bind_some]
      · have hp := rf_isPerson (V := h 135) (h := mm_up h2 133 0 0) hI.W (x := p) (d + 97)
        have ho := rf_isOut (V := h 135) (h := mm_up h2 133 0 0) hI.S (p := p) c.1 (by omega) (d + 97)
        have ha := rf_layAside (V := h 135) (h := mm_up h2 133 0 0) (d + 98)
        rw [th_vs er] at hp ho ha
        rw [decide_eq_true c] at hp
        rw [o] at ho
        rw [e_X12_joins, hp, Option.bind_some]
        show (if (1 : Int) = 0 then _ else _) = _
        rw [if_neg (by decide)]
        dsimp only
        rw [ho, Option.bind_some]
        show (if (1 : Int) = 0 then _ else _) = _
        rw [if_neg (by decide)]
        dsimp only
        rw [ha, Option.bind_some]
        dsimp only
        rw [rf_joins_27 hI.W c.1 c.2 (d + 95) b48.1 (600 - h 135 48).toNat 0 (h 135) (by decide) (by omega) ⟨hI.T, hd.rf _, by omega⟩, asd_vs ((th_row h2 0).trans er)]
    | false =>
      refine ⟨-1, h, mm_up h 133 0 0, ?_, ?_, hI.th 0⟩
      · rw [e_X11_joins]
        simp only [n15, n25, n72]
        rw [cl_has P (by decide) (by decide), Option.bind_some]
        simp only [Int.reduceAdd]
        rw [decide_eq_true c]
        show (if (1 : Int) = 0 then _ else _) = _
        rw [if_neg (by decide), cl_isOut M hI.S c.1 (by omega), Option.bind_some, o]
        rfl
      · have hp := rf_isPerson (V := h 135) (h := mm_up h 133 0 0) hI.W (x := p) (d + 97)
        have ho := rf_isOut (V := h 135) (h := mm_up h 133 0 0) hI.S (p := p) c.1 (by omega) (d + 97)
        rw [th_vs rfl] at hp ho
        rw [decide_eq_true c] at hp
        rw [o] at ho
        rw [e_X12_joins, hp, Option.bind_some]
        show (if (1 : Int) = 0 then _ else _) = _
        rw [if_neg (by decide)]
        dsimp only
        rw [ho, Option.bind_some]
        rfl
  · refine ⟨-1, h, mm_up h 133 0 0, ?_, ?_, hI.th 0⟩
    · rw [e_X11_joins]
      simp only [n15, n25]
      rw [cl_has P (by decide) (by decide), Option.bind_some]
      simp only [Int.reduceAdd]
      rw [decide_eq_false c]; rfl
    · rw [e_X12_joins, rth h 0, rf_isPerson hI.W, Option.bind_some]
      dsimp only
      rw [decide_eq_false c]; rfl
def f_lcmB (a b : Nat) : Bool := a == 0 || (b == 0 || (decide ((sp_find (fun t => decide (((a : Int) * t) % (b : Int) = 0)) b 1).map (fun t => (a : Int) * t) = some ((a / Nat.gcd a b * b : Nat) : Int)) && (decide (1 ≤ Nat.gcd a b) && decide (Nat.gcd a b < 10))))
theorem f_lcmA : ∀ a : Nat, a < 10 → ∀ b : Nat, b < 10 → f_lcmB a b = true := by decide +kernel
theorem f_lcm (a : Nat) (ha : a < 10) (b : Nat) (hb : b < 10) (ha1 : 1 ≤ a) (hb1 : 1 ≤ b) : (sp_find (fun t => decide (((a : Int) * t) % (b : Int) = 0)) b 1).map (fun t => (a : Int) * t) = some ((a / Nat.gcd a b * b : Nat) : Int) ∧ 1 ≤ Nat.gcd a b ∧ Nat.gcd a b < 10 := by
  have h := f_lcmA a ha b hb
  unfold f_lcmB at h
  rw [beq_false_of_ne (show a ≠ 0 by omega), beq_false_of_ne (show b ≠ 0 by omega), Bool.false_or, Bool.false_or, Bool.and_eq_true, Bool.and_eq_true] at h
  exact ⟨of_decide_eq_true h.1, of_decide_eq_true h.2.1, of_decide_eq_true h.2.2⟩
theorem rf_common_4 {h : mm_H} {x0 x1 : Int} (d : Nat) : ∀ (n : Nat) (y x : Nat) (u : mm_V), y ≤ n → x < 100 → y < 100 → mm_R mm_prog d T_X12_common 4 [(0, x0), (0, x1), (0, (x : Int)), (0, (y : Int)), u] [] h = some (((Nat.gcd x y : Nat) : Int), h) := by
  intro n
  induction n with
  | zero =>
    intro y x u hy hx hy2
    rw [e_X12_common_4, if_pos (by omega), show y = 0 by omega, Nat.gcd_zero_right]
  | succ n ih =>
    intro y x u hy hx hy2
    rw [e_X12_common_4]
    by_cases c : (y : Int) = 0
    · rw [if_pos c, show y = 0 by omega, Nat.gcd_zero_right]
    · have hm := Nat.mod_lt x (show y > 0 by omega)
      rw [if_neg c, if_neg c, pu_rem (by omega) (by omega) (by omega) (by omega), show ((x : Int) % (y : Int)) = ((x % y : Nat) : Int) from rfl, ih (x % y) y _ (by omega) (by omega) (by omega)]
      rw [Nat.gcd_comm x y, Nat.gcd_rec y x, Nat.gcd_comm]
theorem k_once (x y : Int) : Cal 123 235 [(0, x), (0, y)] := by
  intro d h hI
  have w1 := hI.W.2.1
  by_cases c : 0 ≤ x ∧ x ≤ h 135 1
  · by_cases c2 : 0 ≤ y ∧ y ≤ h 135 1
    · have ga := hI.W.2.2.2.2.2.1 x c.1 c.2
      have gb := hI.W.2.2.2.2.2.1 y c2.1 c2.2
      obtain ⟨a, ha⟩ : ∃ a : Nat, (a : Int) = h 135 (5 + x) := ⟨(h 135 (5 + x)).toNat, by omega⟩
      obtain ⟨b, hb⟩ : ∃ b : Nat, (b : Int) = h 135 (5 + y) := ⟨(h 135 (5 + y)).toNat, by omega⟩
      obtain ⟨l1, l2, l3⟩ := f_lcm a (by omega) b (by omega) (by omega) (by omega)
      refine ⟨((a / Nat.gcd a b * b : Nat) : Int), h, mm_up h 133 0 0, ?_, ?_, hI.th 0⟩
      · rw [e_X11_once]
        simp only [n15]
        rw [cl_mayBeat hI.P, Option.bind_some, decide_eq_true c]
        show (if (1 : Int) = 0 then _ else _) = _
        rw [if_neg (by decide)]
        dsimp only
        rw [cl_mayBeat hI.P, Option.bind_some, decide_eq_true c2]
        show (if (1 : Int) = 0 then _ else _) = _
        rw [if_neg (by decide)]
        dsimp only
        rw [cl_gapOf hI.P hI.W, Option.bind_some]
        dsimp only
        rw [cl_gapOf hI.P hI.W, Option.bind_some]
        dsimp only
        rw [if_pos c, if_pos c2, ← ha, ← hb]
        have := sp_find_run (R := fun i => mm_R mm_prog (d + 99) T_X11_once 58 [(20, 0), (0, x), (0, y), (0, (a : Int)), (0, (b : Int)), (0, i)] [] h) (r := fun i => some ((a : Int) * i, h)) (c := fun t => decide (((a : Int) * t) % (b : Int) = 0)) (N := (b : Int) + 1) (fun i i0 i1 => by
          have m1 : 0 ≤ (a : Int) * i := Int.mul_nonneg (by omega) i0
          have m2 : (a : Int) * i ≤ 9 * 9 := Int.mul_le_mul (by omega) (by omega) i0 (by decide)
          rw [e_X11_once_58, if_neg (by omega), pu_w (x := (a : Int) * i) (by omega) (by omega), cl_rem m1 (by omega) (by omega) (by omega), Option.bind_some, pu_w (by omega) (by omega)]
          dsimp only
          by_cases z : ((a : Int) * i) % (b : Int) = 0
          · rw [if_pos z, decide_eq_true z]; rfl
          · rw [if_neg z, decide_eq_false z]; rfl) b 1 (by decide) (by omega)
        rw [this]
        cases e : sp_find (fun t => decide (((a : Int) * t) % (b : Int) = 0)) b 1 with
        | none =>
          rw [e] at l1
          cases l1
        | some j =>
          rw [e] at l1
          have l4 : (a : Int) * j = ((a / Nat.gcd a b * b : Nat) : Int) := Option.some.inj l1
          show some ((a : Int) * j, h) = _
          rw [l4]
      · have hx := rf_isBeater (V := h 135) (h := mm_up h 133 0 0) (x := x) (d + 97)
        have hy := rf_isBeater (V := h 135) (h := mm_up h 133 0 0) (x := y) (d + 97)
        rw [th_vs rfl] at hx hy
        rw [decide_eq_true c] at hx
        rw [decide_eq_true c2] at hy
        rw [e_X12_once, hx, Option.bind_some]
        show (if (1 : Int) = 0 then _ else _) = _
        rw [if_neg (by decide)]
        dsimp only
        rw [hy, Option.bind_some]
        show (if (1 : Int) = 0 then _ else _) = _
        rw [if_neg (by decide), pu_w (x := 5 + x) (by omega) (by omega), pu_w (x := 5 + y) (by omega) (by omega), if_pos (by omega), if_pos (by omega), if_pos (by omega)]
        dsimp only
        have gx : mm_up h 133 0 0 135 (5 + x) = (a : Int) := by rw [th_row, ha]
        have gy : mm_up h 133 0 0 135 (5 + y) = (b : Int) := by rw [th_row, hb]
        rw [r135, gx, gy, e_X12_common, rf_common_4 _ b b a _ (Nat.le_refl _) (by omega) (by omega), Option.bind_some]
        dsimp only
        have dv : a / Nat.gcd a b ≤ a := Nat.div_le_self _ _
        have m2 : a / Nat.gcd a b * b ≤ 9 * 9 := Nat.mul_le_mul (by omega) (by omega)
        have e9 : mm_div (a : Int) ((Nat.gcd a b : Nat) : Int) * (b : Int) = ((a / Nat.gcd a b * b : Nat) : Int) := by
          rw [pu_div (by omega) (by omega) (by omega) (by omega), Int.natCast_mul]
          rfl
        rw [if_neg (by omega), if_pos (by omega), gy, e9, pu_w (by omega) (by omega)]
    · refine ⟨-1, h, mm_up h 133 0 0, ?_, ?_, hI.th 0⟩
      · rw [e_X11_once]
        simp only [n15]
        rw [cl_mayBeat hI.P, Option.bind_some, decide_eq_true c]
        show (if (1 : Int) = 0 then _ else _) = _
        rw [if_neg (by decide)]
        dsimp only
        rw [cl_mayBeat hI.P, Option.bind_some, decide_eq_false c2]
        rfl
      · have hx := rf_isBeater (V := h 135) (h := mm_up h 133 0 0) (x := x) (d + 97)
        have hy := rf_isBeater (V := h 135) (h := mm_up h 133 0 0) (x := y) (d + 97)
        rw [th_vs rfl] at hx hy
        rw [decide_eq_true c] at hx
        rw [decide_eq_false c2] at hy
        rw [e_X12_once, hx, Option.bind_some]
        show (if (1 : Int) = 0 then _ else _) = _
        rw [if_neg (by decide)]
        dsimp only
        rw [hy, Option.bind_some]
        rfl
  · refine ⟨-1, h, mm_up h 133 0 0, ?_, ?_, hI.th 0⟩
    · rw [e_X11_once]
      simp only [n15]
      rw [cl_mayBeat hI.P, Option.bind_some, decide_eq_false c]
      rfl
    · have hx := rf_isBeater (V := h 135) (h := mm_up h 133 0 0) (x := x) (d + 97)
      rw [th_vs rfl, decide_eq_false c] at hx
      rw [e_X12_once, hx, Option.bind_some]
      rfl
