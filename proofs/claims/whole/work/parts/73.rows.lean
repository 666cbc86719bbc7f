/-! Rows of beats -/
def f_wy (V : Int → Int) : Nat → Int → Int
  | 0, n => if n = 0 then 1 else 0
  | k + 1, n => sp_it (fun c acc => acc + (if n - V (5 + c) < 0 then 0 else f_wy V k (n - V (5 + c)))) (1 + V 1).toNat 0 0
def f_ws (V : Int → Int) (k : Nat) (n c acc : Int) : Int := acc + (if n - V (5 + c) < 0 then 0 else f_wy V k (n - V (5 + c)))
theorem f_wy_S (V : Int → Int) (k : Nat) (n : Int) : f_wy V (k + 1) n = sp_it (f_ws V k n) (1 + V 1).toNat 0 0 := rfl
def f_B : Nat → Int
  | 0 => 1
  | k + 1 => 5 * f_B k
theorem f_ws_ok {V : Int → Int} {k : Nat} {n i acc : Int} (ih : ∀ m, 0 ≤ f_wy V k m ∧ f_wy V k m ≤ f_B k) (hI : 0 ≤ acc ∧ acc ≤ i * f_B k) : 0 ≤ f_ws V k n i acc ∧ f_ws V k n i acc ≤ (i + 1) * f_B k := by
  have q := ih (n - V (5 + i))
  have e : (i + 1) * f_B k = i * f_B k + f_B k := by rw [Int.add_mul, Int.one_mul]
  unfold f_ws
  rw [e]
  by_cases c : n - V (5 + i) < 0
  · rw [if_pos c]; omega
  · rw [if_neg c]; omega
theorem f_wy_ok {V : Int → Int} (h1 : 0 ≤ V 1 ∧ V 1 ≤ 4) : ∀ (k : Nat) (n : Int), 0 ≤ f_wy V k n ∧ f_wy V k n ≤ f_B k
  | 0, n => by
    show 0 ≤ (if n = 0 then (1 : Int) else 0) ∧ (if n = 0 then (1 : Int) else 0) ≤ 1
    split <;> omega
  | k + 1, n => by
    have ih := f_wy_ok h1 k
    have hB : 0 ≤ f_B k := by
      have := ih 0
      omega
    obtain ⟨s', -, hh⟩ := sp_it_rel (σ := Unit) (β := Unit) (R := fun _ _ => ()) (f := f_ws V k n) (I := fun i _ x => 0 ≤ x ∧ x ≤ i * f_B k) (N := 1 + V 1) (fun i s x i0 i1 hI => ⟨(), rfl, f_ws_ok ih hI⟩) (1 + V 1).toNat 0 () 0 (by omega) (by omega) ⟨by omega, by omega⟩
    rw [f_wy_S]
    refine ⟨hh.1, Int.le_trans hh.2 ?_⟩
    show (1 + V 1) * f_B k ≤ 5 * f_B k
    exact Int.mul_le_mul_of_nonneg_right (by omega) hB
theorem f_B_le : ∀ k : Nat, k < 6 → 1 ≤ f_B k ∧ f_B k ≤ 3125 := by decide
def f_lc (V : Int → Int) (k : Nat) (n c : Int) : Bool := decide (0 ≤ n - V (5 + c)) && decide (0 < f_wy V k (n - V (5 + c)))
def f_lb (V : Int → Int) (k : Nat) (n : Int) : Option Int := sp_find (f_lc V k n) (1 + V 1).toNat 0
theorem f_lb_some {V : Int → Int} (h1 : 0 ≤ V 1 ∧ V 1 ≤ 4) {k : Nat} {n : Int} (hp : 0 < f_wy V (k + 1) n) : ∃ c, f_lb V k n = some c ∧ (0 ≤ c ∧ c ≤ V 1) ∧ 0 ≤ n - V (5 + c) ∧ 0 < f_wy V k (n - V (5 + c)) := by
  cases e : f_lb V k n with
  | some c =>
    obtain ⟨a, b, q, -⟩ := sp_find_some e
    unfold f_lc at q
    rw [Bool.and_eq_true] at q
    exact ⟨c, rfl, by omega, of_decide_eq_true q.1, of_decide_eq_true q.2⟩
  | none =>
    have q := sp_find_none.mp e
    exfalso
    obtain ⟨s', -, hh⟩ := sp_it_rel (σ := Unit) (β := Unit) (R := fun _ _ => ()) (f := f_ws V k n) (I := fun i _ x => x = 0) (N := 1 + V 1) (fun i s x i0 i1 hI => ⟨(), rfl, by
      have z := q i i0 (by omega)
      have nn := (f_wy_ok h1 k (n - V (5 + i))).1
      unfold f_ws
      rw [hI]
      by_cases c : n - V (5 + i) < 0
      · rw [if_pos c]; rfl
      · rw [if_neg c]
        unfold f_lc at z
        rw [decide_eq_true (by omega), Bool.true_and] at z
        have := of_decide_eq_false z
        omega⟩) (1 + V 1).toNat 0 () 0 (by omega) (by omega) rfl
    rw [f_wy_S, hh] at hp
    omega
def f_kf (V : Int → Int) (b i : Int) (x : Int × (Int → Int)) : Int × (Int → Int) := (x.1 - V (5 + (f_lb V (b - 1 - i).toNat x.1).getD 0), vu x.2 i ((f_lb V (b - 1 - i).toNat x.1).getD 0))
def kfI (V : Int → Int) (b sec i : Int) (x : Int × (Int → Int)) : Prop := (0 ≤ x.1 ∧ x.1 ≤ sec) ∧ 0 < f_wy V (b - i).toNat x.1
theorem kfI.step {V : Int → Int} (hW : pr_W V) {b sec i : Int} {x : Int × (Int → Int)} (hI : kfI V b sec i x) (ib : i < b) : ∃ c, f_lb V (b - 1 - i).toNat x.1 = some c ∧ (0 ≤ c ∧ c ≤ V 1) ∧ 0 ≤ x.1 - V (5 + c) ∧ kfI V b sec (i + 1) (f_kf V b i x) ∧ f_kf V b i x = (x.1 - V (5 + c), vu x.2 i c) := by
  obtain ⟨⟨a0, a1⟩, p⟩ := hI
  rw [show (b - i).toNat = (b - 1 - i).toNat + 1 by omega] at p
  obtain ⟨c, e, hc, z1, z2⟩ := f_lb_some hW.2.1 p
  have g := hW.2.2.2.2.2.1 c hc.1 hc.2
  have ek : f_kf V b i x = (x.1 - V (5 + c), vu x.2 i c) := by
    unfold f_kf
    rw [e]
    rfl
  refine ⟨c, e, hc, z1, ?_, ek⟩
  rw [ek]
  refine ⟨⟨z1, ?_⟩, ?_⟩
  · show x.1 - V (5 + c) ≤ sec
    omega
  · rw [show (b - (i + 1)).toNat = (b - 1 - i).toNat by omega]
    exact z2
section PC
variable {V : Int → Int} {s : mm_H}
theorem cl_beaters (hP : pr_P s 15 V) (hW : pr_W V) (d : Nat) : mm_M mm_prog (d + 1) 53 [(14, 15)] s = some (1 + V 1, s) := by
  have w1 := hW.2.1
  have ec : s (15 + 1) 0 = V 1 := hP.2.2.1 0 (by decide) (by decide)
  rw [e_X4_beaters, ec, pu_w (by omega) (by omega)]
theorem cl_wom (hP : pr_P s 15 V) (hW : pr_W V) {k : Nat} {n : Int} (n0 : 0 ≤ n) (n1 : n ≤ 60) (hk : (k : Int) + 1 ≤ 5) (row : ∀ j, 0 ≤ j → j ≤ n → s (80 + k) j = f_wy V k j) (d : Nat) : mm_M mm_prog (d + 2) 62 [(15, 78), (14, 15), (0, n), (0, (k : Int) + 1)] s = some (f_wy V (k + 1) n, s) := by
  have w1 := hW.2.1
  have ok := f_wy_ok hW.2.1 k
  have hB := f_B_le k (by omega)
  rw [e_X5_waysWithOneMore, f_wy_S]
  obtain ⟨⟨a, u⟩, r, ea, b1⟩ := sp_it_rel (R := fun i (q : Int × mm_V) => mm_R mm_prog (d + 1) T_X5_waysWithOneMore 6 [(15, 78), (14, 15), (0, n), (0, (k : Int) + 1), (0, q.1), (0, i), q.2] [] s) (f := f_ws V k n) (I := fun i q x => q.1 = x ∧ 0 ≤ x ∧ x ≤ i * f_B k) (N := 1 + V 1) (fun i q x i0 i1 hI => by
    obtain ⟨q, u⟩ := q
    obtain ⟨e, hb⟩ := hI
    dsimp only at e hb ⊢
    subst e
    have g := hW.2.2.2.2.2.1 i i0 (by omega)
    have eg : s (15 + 3) i = V (5 + i) := hP.2.2.2.1 i i0 (by omega)
    have nx := f_ws_ok (V := V) (n := n) ok hb
    have i5 : (i + 1) * f_B k ≤ 5 * f_B k := Int.mul_le_mul_of_nonneg_right (by omega) (by omega)
    have g1 := pu_w (x := n - V (5 + i)) (by omega) (by omega)
    have g2 := pu_w (x := i + 1) (by omega) (by omega)
    have g3 := pu_w (x := (k : Int) + 1 - 1) (by omega) (by omega)
    rw [e_X5_waysWithOneMore_6, cl_beaters hP hW, Option.bind_some]
    simp only [eg, g1, g2, g3]
    rw [if_pos i1, if_pos (show 0 ≤ i ∧ i < 5 by omega)]
    unfold f_ws at nx ⊢
    by_cases c : n - V (5 + i) < 0
    · rw [if_pos c, if_pos c]
      rw [if_pos c] at nx
      exact ⟨(q, (0, n - V (5 + i))), rfl, by omega, nx⟩
    · rw [if_neg c, if_neg c, if_pos (by omega), if_pos (by omega), show (78 : Int) + 1 + 1 + ((k : Int) + 1 - 1) = 80 + k by omega, row _ (by omega) (by omega)]
      rw [if_neg c] at nx
      rw [pu_w (by omega) (by omega)]
      exact ⟨(_, (0, n - V (5 + i))), rfl, rfl, nx⟩) (1 + V 1).toNat 0 (0, (9, 0)) 0 (by omega) (by omega) ⟨rfl, by omega, by omega⟩
  dsimp only at r ea
  rw [r, e_X5_waysWithOneMore_6, cl_beaters hP hW, Option.bind_some]
  dsimp only
  rw [if_neg (by omega), ea]
theorem cl_lb (hP : pr_P s 15 V) (hW : pr_W V) {m : Nat} {rest c : Int} (r0 : 0 ≤ rest) (r1 : rest ≤ 60) (hm : (m : Int) ≤ 4) (row : ∀ j, 0 ≤ j → j ≤ rest → s (80 + m) j = f_wy V m j) (e : f_lb V m rest = some c) (d : Nat) : mm_M mm_prog (d + 2) 64 [(15, 78), (14, 15), (0, rest), (0, (m : Int))] s = some (c, s) := by
  have w1 := hW.2.1
  rw [e_X5_leastBeater]
  have := sp_find_run (R := fun i => mm_R mm_prog (d + 1) T_X5_leastBeater 3 [(15, 78), (14, 15), (0, rest), (0, (m : Int)), (0, i), if i = 0 then (9, 0) else (0, rest - V (5 + (i - 1)))] [] s) (r := fun i => some (i, s)) (c := f_lc V m rest) (N := 1 + V 1) (fun i i0 i1 => by
    have g := hW.2.2.2.2.2.1 i i0 (by omega)
    have eg : s (15 + 3) i = V (5 + i) := hP.2.2.2.1 i i0 (by omega)
    have nn := (f_wy_ok hW.2.1 m (rest - V (5 + i))).1
    have g1 := pu_w (x := rest - V (5 + i)) (by omega) (by omega)
    have g2 := pu_w (x := i + 1) (by omega) (by omega)
    have g3 : s (78 + 1 + 1 + (m : Int)) = s (80 + m) := by rw [show (78 : Int) + 1 + 1 + (m : Int) = 80 + m by omega]
    rw [e_X5_leastBeater_3, cl_beaters hP hW, Option.bind_some]
    simp only [eg, g1, g2, g3]
    rw [if_pos i1, if_pos (show 0 ≤ i ∧ i < 5 by omega), if_neg (show ¬ i + 1 = 0 by omega), show i + 1 - 1 = i by omega]
    unfold f_lc
    by_cases z : rest - V (5 + i) < 0
    · rw [if_pos z, decide_eq_false (by omega)]; rfl
    · rw [if_neg z, if_pos (by omega), if_pos (by omega), decide_eq_true (by omega)]
      have rr := row (rest - V (5 + i)) (by omega) (by omega)
      by_cases z2 : 0 < f_wy V m (rest - V (5 + i))
      · rw [if_pos (by rw [rr]; exact z2), decide_eq_true z2]; rfl
      · rw [if_neg (by rw [rr]; exact z2), decide_eq_false z2]; rfl) (1 + V 1).toNat 0 (by decide) (by omega)
  unfold f_lb at e
  rw [e, if_pos rfl] at this
  exact this
/-- class: the rows' table is right up to row K (and n of row K) -/
def WY (V : Int → Int) (s : mm_H) (sec K n : Int) : Prop := (∀ k, 0 ≤ k → k < K → ∀ j, 0 ≤ j → j ≤ sec → s (80 + k) j = f_wy V k.toNat j) ∧ ∀ j, 0 ≤ j → j < n → s (80 + K) j = f_wy V K.toNat j
/-- what counting rows may change in the class -/
def q_rc (o k : Int) : Prop := (o = 80 ∧ k = 0) ∨ (81 ≤ o ∧ o ≤ 86) ∨ (o = 78 ∧ k = 2)
theorem cl_count {h : mm_H} (hP : pr_P h 15 V) (hW : pr_W V) (z80 : ∀ n, 1 ≤ n → n ≤ 60 → h 80 n = 0) {sec b : Int} (s0 : 1 ≤ sec) (s1 : sec ≤ 60) (b0 : 1 ≤ b) (b1 : b ≤ 5) (d : Nat) : ∃ h', mm_M mm_prog (d + 5) 61 [(15, 78), (14, 15), (0, sec), (0, b)] h = some (f_wy V b.toNat sec, h') ∧ dif q_rc h h' ∧ (f_wy V b.toNat sec = 0 → h' 78 2 = h 78 2 ∧ ∀ j, h' 86 j = h 86 j) ∧ (0 < f_wy V b.toNat sec → h' 78 2 = b ∧ ∀ j, 0 ≤ j → j < b → h' 86 j = (sp_it (f_kf V b) b.toNat 0 (sec, fun _ => 0)).2 j) := by
  have w1 := hW.2.1
  have PO : ∀ s, dif q_rc h s → pr_P s 15 V := fun s D => hP.ob (fun o h0 h1 _ k => D o k (by unfold q_rc; omega))
  rw [e_X5_countFor, show (78 : Int) + 1 + 1 + 0 = 80 from rfl]
  obtain ⟨⟨s1', u1⟩, r1, D1, A1, Y1⟩ := sp_it_rel (R := fun i (q : mm_H × mm_V) => mm_R mm_prog (d + 4) T_X5_countFor 12 [(15, 78), (14, 15), (0, sec), (0, b), (0, i + 1), q.2] [] q.1) (f := fun _ (x : Unit) => x) (I := fun i q _ => dif q_rc h q.1 ∧ (q.1 78 2 = h 78 2 ∧ ∀ j, q.1 86 j = h 86 j) ∧ WY V q.1 sec (i + 1) 0) (N := b) (fun i q x i0 i1 hI => by
    obtain ⟨q, u⟩ := q
    obtain ⟨qD, qA, qY⟩ := hI
    dsimp only at qD qA qY ⊢
    rw [e_X5_countFor_12, if_neg (by omega)]
    obtain ⟨s2, r2, D2, A2, Y2⟩ := sp_it_rel (R := fun n s => mm_R mm_prog (d + 4) T_X5_countFor 21 [(15, 78), (14, 15), (0, sec), (0, b), (0, i + 1), (0, n)] [] s) (f := fun _ (x : Unit) => x) (I := fun n s _ => dif q_rc h s ∧ (s 78 2 = h 78 2 ∧ ∀ j, s 86 j = h 86 j) ∧ WY V s sec (i + 1) n) (N := sec + 1) (fun n s y n0 n1 hJ => by
      obtain ⟨sD, sA, sY⟩ := hJ
      have cw := cl_wom (PO s sD) hW (k := i.toNat) (n := n) n0 (by omega) (by omega) (fun j j0 j1 => by
        have := sY.1 i i0 (by omega) j j0 (by omega)
        rw [show ((i.toNat : Nat) : Int) = i by omega]
        exact this) (d + 2)
      rw [show ((i.toNat : Nat) : Int) = i by omega] at cw
      rw [e_X5_countFor_21, if_neg (by omega), if_pos (by omega), cw, Option.bind_some, if_pos (by omega), pu_w (by omega) (by omega), show (78 : Int) + 1 + 1 + (i + 1) = 80 + (i + 1) by omega]
      dsimp only
      refine ⟨mm_up s (80 + (i + 1)) n (f_wy V (i.toNat + 1) n), rfl, dif.up (ch := q_rc) sD (by unfold q_rc; omega), ⟨by rw [pu_ob (by omega)]; exact sA.1, fun j => by rw [pu_ob (by omega)]; exact sA.2 j⟩, fun k k0 k1 j j0 j1 => ?_, fun j j0 j1 => ?_⟩
      · rw [pu_ob (by omega)]
        exact sY.1 k k0 k1 j j0 j1
      · by_cases e : j = n
        · rw [e, pu_eq, show (i + 1).toNat = i.toNat + 1 by omega]
        · rw [pu_sl e]
          exact sY.2 j j0 (by omega)) (sec + 1).toNat 0 q () (by omega) (by omega) ⟨qD, qA, qY⟩
    rw [r2, e_X5_countFor_21, if_pos (by omega), pu_w (by omega) (by omega)]
    refine ⟨(s2, (0, sec + 1)), rfl, D2, A2, fun k k0 k1 j j0 j1 => ?_, fun j j0 j1 => by omega⟩
    by_cases e : k = i + 1
    · rw [e]
      exact Y2.2 j j0 (by omega)
    · exact Y2.1 k k0 (by omega) j j0 j1) b.toNat 0 (mm_up h 80 0 1, (9, 0)) () (by omega) (by omega) ⟨dif.up (ch := q_rc) (dif.rf q_rc h) (Or.inl ⟨rfl, rfl⟩), ⟨(pu_ob (by decide) : mm_up h 80 0 1 78 2 = h 78 2), fun j => (pu_ob (by decide) : mm_up h 80 0 1 86 j = h 86 j)⟩, fun k k0 k1 j j0 j1 => by
      rw [show k = 0 by omega]
      show mm_up h 80 0 1 80 j = if j = 0 then 1 else 0
      by_cases e : j = 0
      · rw [e, pu_eq]; rfl
      · rw [pu_sl e, if_neg e]
        exact z80 j (by omega) (by omega), fun j j0 j1 => by omega⟩
  dsimp only at r1 D1 A1 Y1
  have yb : s1' (78 + 1 + 1 + b) sec = f_wy V b.toNat sec := by
    rw [show (78 : Int) + 1 + 1 + b = 80 + b by omega]
    exact Y1.1 b (by omega) (by omega) sec (by omega) (by omega)
  have e0 : (1 : Int) = 0 + 1 := rfl
  rw [show mm_R mm_prog (d + 4) T_X5_countFor 12 [(15, 78), (14, 15), (0, sec), (0, b), (0, 1), (9, 0)] [] (mm_up h 80 0 1) = mm_R mm_prog (d + 4) T_X5_countFor 12 [(15, 78), (14, 15), (0, sec), (0, b), (0, b + 1), u1] [] s1' from r1, e_X5_countFor_12, if_pos (by omega), if_pos (by omega), if_pos (by omega), yb]
  have nn := (f_wy_ok hW.2.1 b.toNat sec).1
  by_cases c : 0 < f_wy V b.toNat sec
  · rw [if_pos c, e_X5_keepFirst]
    obtain ⟨⟨s3, x3, u3⟩, r3, D3, E3, K3, F3⟩ := sp_it_rel (R := fun i (q : mm_H × Int × mm_V) => mm_R mm_prog (d + 3) T_X5_keepFirst 6 [(15, 78), (14, 15), (0, sec), (0, b), (0, q.2.1), (0, i), q.2.2] [] q.1) (f := f_kf V b) (I := fun i q x => dif (fun o _ => o = 86) s1' q.1 ∧ q.2.1 = x.1 ∧ kfI V b sec i x ∧ ∀ j, 0 ≤ j → j < i → q.1 86 j = x.2 j) (N := b) (fun i q x i0 i1 hI => by
      obtain ⟨q, xq, u⟩ := q
      obtain ⟨qD, qx, qK, qF⟩ := hI
      dsimp only at qD qx qF ⊢
      subst qx
      have qD' : ∀ o k, ¬ o = 86 → q o k = s1' o k := qD
      have qP : pr_P q 15 V := (PO s1' D1).ob (fun o h0 h1 _ k => qD' o k (by omega))
      obtain ⟨c, e, hc, z1, K', ek⟩ := qK.step hW i1
      have r0 := qK.1
      have lb := cl_lb qP hW (m := (b - 1 - i).toNat) r0.1 (by omega) (by omega) (fun j j0 j1 => by
        rw [show (((b - 1 - i).toNat : Nat) : Int) = b - 1 - i by omega, qD' _ _ (by omega)]
        exact Y1.1 (b - 1 - i) (by omega) (by omega) j j0 (by omega)) e (d + 1)
      rw [show (((b - 1 - i).toNat : Nat) : Int) = b - 1 - i by omega] at lb
      have g := hW.2.2.2.2.2.1 c hc.1 hc.2
      have eg : q (15 + 3) c = V (5 + c) := qP.2.2.2.1 c hc.1 hc.2
      rw [e_X5_keepFirst_6, if_pos i1, pu_w (x := b - 1) (by omega) (by omega), pu_w (x := b - 1 - i) (by omega) (by omega), lb, Option.bind_some]
      dsimp only
      rw [if_pos (by omega), if_pos (by omega), show (78 : Int) + 8 = 86 from rfl, pu_ob (by decide), eg, pu_w (x := x.1 - V (5 + c)) (by omega) (by omega), pu_w (by omega) (by omega)]
      refine ⟨(mm_up q 86 i c, x.1 - V (5 + c), (0, c)), rfl, qD.up rfl, by rw [ek], K', fun j j0 j1 => ?_⟩
      rw [ek]
      dsimp only
      by_cases z : j = i
      · rw [z, pu_eq, vu_eq]
      · rw [pu_sl z, vu_ne z]
        exact qF j j0 (by omega)) b.toNat 0 (s1', sec, (9, 0)) (sec, fun _ => 0) (by omega) (by omega) ⟨dif.rf _ s1', rfl, ⟨⟨by dsimp only; omega, by dsimp only; omega⟩, by rw [Int.sub_zero]; exact c⟩, fun j j0 j1 => by omega⟩
    dsimp only at r3 D3 E3 F3
    have D3' : ∀ o k, ¬ o = 86 → s3 o k = s1' o k := D3
    rw [r3, e_X5_keepFirst_6, if_neg (by omega), Option.bind_some, if_pos (by omega), if_pos (by omega)]
    dsimp only
    rw [show mm_up s3 78 2 b (78 + 1 + 1 + b) sec = f_wy V b.toNat sec by rw [pu_ob (by omega), D3' _ _ (by omega)]; exact yb]
    refine ⟨_, rfl, ?_, fun z => by omega, fun _ => ⟨pu_eq _ _ _ _, fun j j0 j1 => ?_⟩⟩
    · exact dif.up (ch := q_rc) (D1.tr D3 (fun _ _ q => q) (fun o k (q : o = 86) => by unfold q_rc; omega)) (by unfold q_rc; omega)
    · rw [pu_ob (by decide)]
      exact F3 j j0 j1
  · rw [if_neg c, if_pos (by omega), if_pos (by omega)]
    exact ⟨s1', rfl, D1, fun _ => A1, fun z => absurd z c⟩
end PC
