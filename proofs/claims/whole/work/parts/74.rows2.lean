/-! Rows of beats: the reference -/
section PR
variable {V : Int → Int} {s : mm_H}
theorem rf_rowsOf {n k : Int} (n1 : n ≤ 60) (n0 : -100 ≤ n) (k0 : 0 ≤ k) (k1 : k ≤ 5) (d : Nat) : mm_M mm_prog (d + 1) 242 [(21, 133), (0, n), (0, k)] s = some (if n < 0 then 0 else s 147 (61 * k + n), s) := by
  rw [e_X12_rowsOf]
  by_cases c : n < 0
  · rw [if_pos c, if_pos c]
  · rw [if_neg c, if_neg c, pu_w (x := 61 * k) (by omega) (by omega), pu_w (x := 61 * k + n) (by omega) (by omega), if_pos (by omega)]
    rfl
theorem rf_lay50 (er : s 135 = V) (hW : pr_W V) {k i n : Int} (i0 : 1 ≤ i) (i1 : i ≤ 5) (n0 : 0 ≤ n) (n1 : n ≤ 60) (row : ∀ j, 0 ≤ j → j ≤ 60 → s 147 (61 * (i - 1) + j) = f_wy V (i - 1).toNat j) (d : Nat) : mm_R mm_prog (d + 1) T_X12_layRows 50 [(21, 133), (0, k), (0, i), (0, n), (0, 0), (0, 0)] [] s = mm_R mm_prog (d + 1) T_X12_layRows 38 [(21, 133), (0, k), (0, i), (0, n + 1), (0, f_wy V i.toNat n), (0, 1 + V 1)] [] (mm_up s 147 (61 * i + n) (f_wy V i.toNat n)) := by
  have w1 := hW.2.1
  have ok := f_wy_ok hW.2.1 (i - 1).toNat
  have hB := f_B_le (i - 1).toNat (by omega)
  have e1 : s 135 1 = V 1 := by rw [er]
  obtain ⟨a, r, ea, b1⟩ := sp_it_rel (R := fun c (q : Int) => mm_R mm_prog (d + 1) T_X12_layRows 50 [(21, 133), (0, k), (0, i), (0, n), (0, q), (0, c)] [] s) (f := f_ws V (i - 1).toNat n) (I := fun c q x => q = x ∧ 0 ≤ x ∧ x ≤ c * f_B (i - 1).toNat) (N := 1 + V 1) (fun c q x c0 c1 hI => by
    obtain ⟨rfl, hb⟩ := hI
    have g := hW.2.2.2.2.2.1 c c0 (by omega)
    have eg : s 135 (5 + c) = V (5 + c) := by rw [er]
    have nx := f_ws_ok (V := V) (n := n) ok hb
    have i5 : (c + 1) * f_B (i - 1).toNat ≤ 5 * f_B (i - 1).toNat := Int.mul_le_mul_of_nonneg_right (by omega) (by omega)
    rw [e_X12_layRows_50, r135, e1, if_neg (by omega), pu_w (x := 5 + c) (by omega) (by omega), if_pos (by omega), eg, pu_w (x := n - V (5 + c)) (by omega) (by omega), pu_w (x := i - 1) (by omega) (by omega), rf_rowsOf (by omega) (by omega) (by omega) (by omega), Option.bind_some, pu_w (x := c + 1) (by omega) (by omega)]
    dsimp only
    refine ⟨f_ws V (i - 1).toNat n c q, ?_, rfl, nx⟩
    unfold f_ws at nx ⊢
    by_cases z : n - V (5 + c) < 0
    · rw [if_pos z] at nx
      rw [if_pos z, if_pos z, pu_w (by omega) (by omega)]
    · rw [if_neg z] at nx
      rw [if_neg z, if_neg z, row _ (by omega) (by omega), pu_w (by omega) (by omega)]) (1 + V 1).toNat 0 0 0 (by omega) (by omega) ⟨rfl, by omega, by omega⟩
  have ew : f_wy V i.toNat n = sp_it (f_ws V (i - 1).toNat n) (1 + V 1).toNat 0 0 := by
    rw [show i.toNat = (i - 1).toNat + 1 by omega, f_wy_S]
  rw [r, e_X12_layRows_50, r135, e1, if_pos (by omega), pu_w (x := 61 * i) (by omega) (by omega), pu_w (x := 61 * i + n) (by omega) (by omega), if_pos (by omega), pu_w (x := n + 1) (by omega) (by omega), ea, ew]
  rfl
def RM (V : Int → Int) (s : mm_H) (K n : Int) : Prop := (∀ k, 0 ≤ k → k < K → ∀ j, 0 ≤ j → j ≤ 60 → s 147 (61 * k + j) = f_wy V k.toNat j) ∧ ∀ j, 0 ≤ j → j < n → s 147 (61 * K + j) = f_wy V K.toNat j
theorem rf_layRows {g : mm_H} (er : g 135 = V) (hW : pr_W V) {b : Int} (b0 : 1 ≤ b) (b1 : b ≤ 5) (d : Nat) : ∃ h', mm_M mm_prog (d + 2) 243 [(21, 133), (0, b)] g = some (0, h') ∧ dif (fun o _ => o = 147) g h' ∧ RM V h' (b + 1) 0 := by
  have w1 := hW.2.1
  rw [e_X12_layRows]
  obtain ⟨s1, r1, D1, Y1⟩ := sp_it_rel (R := fun n s => mm_R mm_prog (d + 1) T_X12_layRows 2 [(21, 133), (0, b), (0, n), (9, 0), (9, 0), (9, 0)] [] s) (f := fun _ (x : Unit) => x) (I := fun n s _ => dif (fun o _ => o = 147) g s ∧ RM V s 0 n) (N := 61) (fun n s x n0 n1 hI => by
    obtain ⟨sD, sY⟩ := hI
    refine ⟨mm_up s 147 n (f_wy V 0 n), ?_, sD.up rfl, fun k k0 k1 => by omega, fun j j0 j1 => ?_⟩
    · rw [e_X12_layRows_2, if_neg (by omega), pu_w (by omega) (by omega), show (133 : Int) + 14 = 147 from rfl]
      show _ = mm_R mm_prog (d + 1) T_X12_layRows 2 _ [] (mm_up s 147 n (if n = 0 then 1 else 0))
      by_cases c : n = 0
      · rw [if_pos c, if_pos (show 0 ≤ n ∧ n < 366 by omega), if_pos c]
      · rw [if_neg c, if_pos (show 0 ≤ n ∧ n < 366 by omega), if_neg c]
    · by_cases e : j = n
      · rw [e, show 61 * (0 : Int) + n = n by omega, pu_eq]
        rfl
      · rw [pu_sl (by omega)]
        exact sY.2 j j0 (by omega)) 61 0 g () (by decide) (by decide) ⟨dif.rf _ g, fun k k0 k1 => by omega, fun j j0 j1 => by omega⟩
  obtain ⟨⟨s2, u3, u4, u5⟩, r2, D2, Y2⟩ := sp_it_rel (R := fun i (q : mm_H × mm_V × mm_V × mm_V) => mm_R mm_prog (d + 1) T_X12_layRows 31 [(21, 133), (0, b), (0, i + 1), q.2.1, q.2.2.1, q.2.2.2] [] q.1) (f := fun _ (x : Unit) => x) (I := fun i q _ => dif (fun o _ => o = 147) g q.1 ∧ RM V q.1 (i + 1) 0) (N := b) (fun i q x i0 i1 hI => by
    obtain ⟨q, u3, u4, u5⟩ := q
    obtain ⟨qD, qY⟩ := hI
    dsimp only at qD qY ⊢
    rw [e_X12_layRows_31, if_neg (by omega)]
    obtain ⟨⟨s3, v4, v5⟩, r3, D3, Y3⟩ := sp_it_rel (R := fun n (q : mm_H × mm_V × mm_V) => mm_R mm_prog (d + 1) T_X12_layRows 38 [(21, 133), (0, b), (0, i + 1), (0, n), q.2.1, q.2.2] [] q.1) (f := fun _ (x : Unit) => x) (I := fun n q _ => dif (fun o _ => o = 147) g q.1 ∧ RM V q.1 (i + 1) n) (N := 61) (fun n q y n0 n1 hJ => by
      obtain ⟨s, v4, v5⟩ := q
      obtain ⟨sD, sY⟩ := hJ
      dsimp only at sD sY ⊢
      have ers : s 135 = V := by
        rw [← er]
        exact funext fun k => sD 135 k (show ¬ (135 : Int) = 147 by decide)
      rw [e_X12_layRows_38, if_neg (by omega), rf_lay50 ers hW (by omega) (by omega) n0 (by omega) (fun j j0 j1 => by
        rw [show i + 1 - 1 = i by omega]
        exact sY.1 i i0 (by omega) j j0 j1)]
      refine ⟨(mm_up s 147 (61 * (i + 1) + n) (f_wy V (i + 1).toNat n), (0, f_wy V (i + 1).toNat n), (0, 1 + V 1)), rfl, sD.up rfl, fun k k0 k1 j j0 j1 => ?_, fun j j0 j1 => ?_⟩ <;> dsimp only
      · rw [pu_sl (by omega)]
        exact sY.1 k k0 k1 j j0 j1
      · by_cases e : j = n
        · rw [e, pu_eq]
        · rw [pu_sl (by omega)]
          exact sY.2 j j0 (by omega)) 61 0 (q, u4, u5) () (by decide) (by decide) ⟨qD, qY⟩
    dsimp only at r3 D3 Y3
    rw [r3, e_X12_layRows_38, if_pos (by decide), pu_w (by omega) (by omega)]
    refine ⟨(s3, (0, 61), v4, v5), rfl, D3, fun k k0 k1 j j0 j1 => ?_, fun j j0 j1 => by omega⟩
    by_cases e : k = i + 1
    · rw [e]
      exact Y3.2 j j0 (by omega)
    · exact Y3.1 k k0 (by omega) j j0 j1) b.toNat 0 (s1, (9, 0), (9, 0), (9, 0)) () (by omega) (by omega) ⟨D1, fun k k0 k1 j j0 j1 => by
      rw [show k = 0 by omega]
      exact Y1.2 j j0 (by omega), fun j j0 j1 => by omega⟩
  dsimp only at r2 D2 Y2
  refine ⟨s2, ?_, D2, Y2⟩
  rw [r1, e_X12_layRows_2, if_pos (by decide)]
  rw [show mm_R mm_prog (d + 1) T_X12_layRows 31 [(21, 133), (0, b), (0, 1), (9, 0), (9, 0), (9, 0)] [] s1 = mm_R mm_prog (d + 1) T_X12_layRows 31 [(21, 133), (0, b), (0, b + 1), u3, u4, u5] [] s2 from r2, e_X12_layRows_31, if_pos (by omega)]
/-- what counting rows may change in the reference -/
def q_rr (o k : Int) : Prop := o = 147 ∨ o = 148 ∨ (o = 133 ∧ k = 33)
theorem rf_count {g : mm_H} (er : g 135 = V) (hW : pr_W V) {sec b : Int} (s0 : 1 ≤ sec) (s1 : sec ≤ 60) (b0 : 1 ≤ b) (b1 : b ≤ 5) (d : Nat) : ∃ h', ((mm_M mm_prog (d + 3) 243 [(21, 133), (0, b)] g).bind fun o3 => (mm_M mm_prog (d + 3) 242 [(21, 133), (0, sec), (0, b)] o3.2).bind fun o4 => if o4.1 = 0 then some (0, o4.2) else mm_R mm_prog (d + 3) T_X12_rows 47 [(21, 133), (0, sec), (0, b), (0, sec), (0, 0), (9, 0)] [] o4.2) = some (f_wy V b.toNat sec, h') ∧ dif q_rr g h' ∧ (f_wy V b.toNat sec = 0 → h' 133 33 = g 133 33 ∧ ∀ j, h' 148 j = g 148 j) ∧ (0 < f_wy V b.toNat sec → h' 133 33 = b ∧ ∀ j, 0 ≤ j → j < b → h' 148 j = (sp_it (f_kf V b) b.toNat 0 (sec, fun _ => 0)).2 j) := by
  have w1 := hW.2.1
  obtain ⟨h1, e1, D1, Y1⟩ := rf_layRows er hW b0 b1 (d + 1)
  have D1' : ∀ o k, ¬ o = 147 → h1 o k = g o k := D1
  have yb : h1 147 (61 * b + sec) = f_wy V b.toNat sec := Y1.1 b (by omega) (by omega) sec (by omega) (by omega)
  have nn := (f_wy_ok hW.2.1 b.toNat sec).1
  have ro : ∀ q : mm_H, q 147 (61 * b + sec) = f_wy V b.toNat sec → mm_M mm_prog (d + 3) 242 [(21, 133), (0, sec), (0, b)] q = some (f_wy V b.toNat sec, q) := fun q e => by
    rw [rf_rowsOf (by omega) (by omega) (by omega) (by omega), if_neg (show ¬ sec < 0 by omega), e]
  rw [e1, Option.bind_some]
  dsimp only
  rw [ro h1 yb, Option.bind_some]
  dsimp only
  by_cases c : 0 < f_wy V b.toNat sec
  · rw [if_neg (by omega)]
    obtain ⟨⟨s3, x3, u3⟩, r3, D3, E3, K3, F3⟩ := sp_it_rel (R := fun i (q : mm_H × Int × mm_V) => mm_R mm_prog (d + 3) T_X12_rows 47 [(21, 133), (0, sec), (0, b), (0, q.2.1), (0, i), q.2.2] [] q.1) (f := f_kf V b) (I := fun i q x => dif (fun o _ => o = 148) h1 q.1 ∧ q.2.1 = x.1 ∧ kfI V b sec i x ∧ ∀ j, 0 ≤ j → j < i → q.1 148 j = x.2 j) (N := b) (fun i q x i0 i1 hI => by
      obtain ⟨q, xq, u⟩ := q
      obtain ⟨qD, qx, qK, qF⟩ := hI
      dsimp only at qD qx qF ⊢
      subst qx
      have qD' : ∀ o k, ¬ o = 148 → q o k = h1 o k := qD
      have erq : q 135 = V := by
        rw [← er]
        exact funext fun k => (qD' 135 k (by omega)).trans (D1' 135 k (by omega))
      obtain ⟨cc, e, hc, z1, K', ek⟩ := qK.step hW i1
      have r0 := qK.1
      rw [e_X12_rows_47, if_pos i1]
      have fr := sp_find_run (R := fun c => mm_R mm_prog (d + 3) T_X12_rows 56 [(21, 133), (0, sec), (0, b), (0, x.1), (0, i), (0, c)] [] q) (r := fun c => mm_R mm_prog (d + 3) T_X12_rows 47 [(21, 133), (0, sec), (0, b), (0, x.1 - V (5 + c)), (0, i + 1), (0, c)] [] (mm_up q 148 i c)) (c := f_lc V (b - 1 - i).toNat x.1) (N := 1 + V 1) (fun c c0 c1 => by
        have gg := hW.2.2.2.2.2.1 c c0 (by omega)
        have eg : q 135 (5 + c) = V (5 + c) := by rw [erq]
        have nn := (f_wy_ok hW.2.1 (b - 1 - i).toNat (x.1 - V (5 + c))).1
        rw [e_X12_rows_56, pu_w (x := 5 + c) (by omega) (by omega), if_pos (by omega), r135, eg, pu_w (x := x.1 - V (5 + c)) (by omega) (by omega), pu_w (x := b - 1) (by omega) (by omega), pu_w (x := b - 1 - i) (by omega) (by omega), rf_rowsOf (by omega) (by omega) (by omega) (by omega), Option.bind_some, pu_w (x := c + 1) (by omega) (by omega)]
        dsimp only
        unfold f_lc
        by_cases z : x.1 - V (5 + c) < 0
        · rw [if_pos z, if_pos rfl, decide_eq_false (by omega)]; rfl
        · rw [if_neg z, decide_eq_true (by omega), qD' _ _ (by omega), Y1.1 (b - 1 - i) (by omega) (by omega) _ (by omega) (by omega)]
          by_cases z2 : 0 < f_wy V (b - 1 - i).toNat (x.1 - V (5 + c))
          · rw [if_neg (by omega), if_pos (by omega), if_pos (by omega), decide_eq_true z2, show (133 : Int) + 15 = 148 from rfl, pu_ob (by decide), eg, pu_w (x := x.1 - V (5 + c)) (by omega) (by omega), pu_w (by omega) (by omega)]; rfl
          · rw [if_pos (by omega), decide_eq_false z2]; rfl) (1 + V 1).toNat 0 (by decide) (by omega)
      unfold f_lb at e
      rw [e] at fr
      refine ⟨(mm_up q 148 i cc, x.1 - V (5 + cc), (0, cc)), fr, qD.up rfl, by rw [ek], K', fun j j0 j1 => ?_⟩
      rw [ek]
      dsimp only
      by_cases z : j = i
      · rw [z, pu_eq, vu_eq]
      · rw [pu_sl z, vu_ne z]
        exact qF j j0 (by omega)) b.toNat 0 (h1, sec, (9, 0)) (sec, fun _ => 0) (by omega) (by omega) ⟨dif.rf _ h1, rfl, ⟨⟨by dsimp only; omega, by dsimp only; omega⟩, by rw [Int.sub_zero]; exact c⟩, fun j j0 j1 => by omega⟩
    dsimp only at r3 D3 E3 F3
    have D3' : ∀ o k, ¬ o = 148 → s3 o k = h1 o k := D3
    rw [r3, e_X12_rows_47, if_neg (by omega), ro _ (by rw [pu_ob (by decide), D3' _ _ (by omega)]; exact yb), Option.bind_some]
    refine ⟨mm_up s3 133 33 b, rfl, ?_, fun z => by omega, fun _ => ⟨pu_eq _ _ _ _, fun j j0 j1 => ?_⟩⟩
    · exact dif.up (ch := q_rr) (D1.tr D3 (fun o k (q : o = 147) => Or.inl q) (fun o k (q : o = 148) => Or.inr (Or.inl q))) (Or.inr (Or.inr ⟨rfl, rfl⟩))
    · rw [pu_ob (by decide)]
      exact F3 j j0 j1
  · rw [if_pos (by omega)]
    have z0 : f_wy V b.toNat sec = 0 := by omega
    rw [z0]
    exact ⟨h1, rfl, D1.tr (dif.rf (fun _ _ => False) h1) (fun o k (q : o = 147) => Or.inl q) (fun _ _ q => q.elim), fun _ => ⟨D1' _ _ (by omega), fun j => D1' _ _ (by omega)⟩, fun z => absurd z (by omega)⟩
end PR
/-- what rows may change -/
def q_ro (o k : Int) : Prop := q_rc o k ∨ q_rr o k ∨ (o = 133 ∧ k = 0)
theorem k_rows (n k : Int) : Cal 128 244 [(0, n), (0, k)] := by
  intro d h hI
  by_cases c : 1 ≤ n ∧ n ≤ 60
  · by_cases c2 : 1 ≤ k ∧ k ≤ 5
    · obtain ⟨ro1, ro2, ro3, ro4⟩ := hI.2.2.2.2.2.1
      obtain ⟨h1, e1, D1, A1, B1⟩ := cl_count hI.P hI.W ro4 c.1 c.2 c2.1 c2.2 (d + 94)
      have D1' : ∀ o j, ¬ q_rc o j → h1 o j = h o j := D1
      unfold q_rc at D1'
      have er : mm_up h1 133 0 0 135 = h 135 := by
        rw [th_row]
        exact funext fun j => D1' 135 j (by omega)
      obtain ⟨h2, e2, D2, A2, B2⟩ := rf_count (V := h 135) er hI.W c.1 c.2 c2.1 c2.2 (d + 96)
      have D2' : ∀ o j, ¬ q_rr o j → h2 o j = mm_up h1 133 0 0 o j := D2
      unfold q_rr at D2'
      have E : ∀ o j, ¬ q_ro o j → h2 o j = h o j := fun o j q => by
        unfold q_ro q_rc q_rr at q
        rw [D2' o j (by omega)]
        unfold mm_up
        rw [if_neg (by omega), D1' o j (by omega)]
      have E' := E
      unfold q_ro q_rc q_rr at E'
      obtain ⟨c1, c2', c3, c4, c5, c6, c7, c8, c9⟩ := (Inv_iff.mp hI).2.2
      refine ⟨f_wy (h 135) k.toNat n, h1, h2, ?_, ?_, ?_⟩
      · rw [e_X11_rows, if_neg (by omega), if_neg (by omega), if_neg (by omega), if_neg (by omega)]
        simp only [n15, show (0 : Int) + 78 = 78 from rfl]
        rw [e1, Option.bind_some]
      · rw [e_X12_rows, rf_isIn, Option.bind_some, decide_eq_true c]
        show (if (1 : Int) = 0 then _ else _) = _
        rw [if_neg (by decide)]
        dsimp only
        rw [rf_isIn, Option.bind_some, decide_eq_true c2]
        show (if (1 : Int) = 0 then _ else _) = _
        rw [if_neg (by decide)]
        exact e2
      · refine hI.gen (ch := q_ro) E (fun o j q z => by unfold q_img at q; unfold q_ro q_rc q_rr at z; omega) (fun o j q z => by unfold q_town at q; unfold q_ro q_rc q_rr at z; omega) (fun o j q z => by unfold q_past at q; unfold q_ro q_rc q_rr at z; omega) (c3.dif (ch := q_ro) E (fun o j q z => by unfold q_ro q_rc q_rr at z; omega)) ?_ (by rw [E' 0 14 (by omega), E' 133 34 (by omega)]; exact c5) (c6.dif (ch := q_ro) E (fun o j q z => by unfold q_ro q_rc q_rr at z; omega)) (c7.dif (ch := q_ro) E (fun o j q z => by unfold q_ro q_rc q_rr at z; omega)) (by rw [E' 0 13 (by omega), E' 133 10 (by omega)]; exact c8) (c9.dif (ch := q_ro) E (fun o j q z => by unfold q_ro q_rc q_rr at z; omega))
        have m1 : h2 78 2 = h1 78 2 := by rw [D2' 78 2 (by omega), pu_ob (by decide)]
        have m2 : ∀ j, h2 86 j = h1 86 j := fun j => by rw [D2' 86 j (by omega), pu_ob (by decide)]
        have m3 : ∀ j, 1 ≤ j → j ≤ 60 → h2 80 j = 0 := fun j j0 j1 => by
          rw [E' 80 j (by omega)]
          exact ro4 j j0 j1
        have nn := (f_wy_ok hI.W.2.1 k.toNat n).1
        by_cases z : f_wy (h 135) k.toNat n = 0
        · obtain ⟨a1, a2⟩ := A1 z
          obtain ⟨b1, b2⟩ := A2 z
          have b1' : h2 133 33 = h 133 33 := by rw [b1, pu_sl (by decide), D1' 133 33 (by omega)]
          have b2' : ∀ j, h2 148 j = h 148 j := fun j => by rw [b2, pu_ob (by decide), D1' 148 j (by omega)]
          refine ⟨by rw [m1, a1, b1', ro1], by rw [m1, a1]; exact ro2, fun j j0 j1 => ?_, m3⟩
          rw [m1, a1] at j1
          rw [m2, a2, b2']
          exact ro3 j j0 j1
        · obtain ⟨a1, a2⟩ := B1 (by omega)
          obtain ⟨b1, b2⟩ := B2 (by omega)
          refine ⟨by rw [m1, a1, b1], by rw [m1, a1]; omega, fun j j0 j1 => ?_, m3⟩
          rw [m1, a1] at j1
          rw [m2, a2 j j0 j1, b2 j j0 j1]
    · refine ⟨-1, h, mm_up h 133 0 0, ?_, ?_, hI.th 0⟩
      · rw [e_X11_rows, if_neg (by omega), if_neg (by omega)]
        by_cases z : k < 1
        · rw [if_pos z]
        · rw [if_neg z, if_pos (by omega)]
      · rw [e_X12_rows, rf_isIn, Option.bind_some, decide_eq_true c]
        show (if (1 : Int) = 0 then _ else _) = _
        rw [if_neg (by decide)]
        dsimp only
        rw [rf_isIn, Option.bind_some, decide_eq_false c2]
        rfl
  · refine ⟨-1, h, mm_up h 133 0 0, ?_, ?_, hI.th 0⟩
    · rw [e_X11_rows]
      by_cases z : n < 1
      · rw [if_pos z]
      · rw [if_neg z, if_pos (by omega)]
    · rw [e_X12_rows, rf_isIn, Option.bind_some, decide_eq_false c]
      rfl
