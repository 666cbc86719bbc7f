/-! Deeper runs; a text's beginning; a new town -/
theorem mm_x_dp (P : mm_P) : ∀ (n d : Nat) (c : List mm_E) (pc : Nat) (ls st : List mm_V) (h : mm_H) (o : mm_O), mm_x P n d c pc ls st h = some o → mm_x P n (d + 1) c pc ls st h = some o
  | 0, _, _, _, _, _, _, _, q => by simp [mm_x] at q
  | n + 1, d, c, pc, ls, st, h, o, q => by
    rw [mm_x_S] at q ⊢
    cases h1 : mm_at c pc with
    | none => rw [h1] at q; cases q
    | some e =>
      rw [h1] at q
      simp only at q ⊢
      cases h2 : mm_st e ls st h with
      | none => rw [h2] at q; cases q
      | some z =>
        rw [h2] at q
        rcases z with z | z | z
        · exact q
        · exact mm_x_dp P n d c _ _ _ _ o q
        · simp only [mm_cl] at q ⊢
          cases d with
          | zero => cases q
          | succ d' =>
            simp only at q ⊢
            cases e9 : decide ((mm_en z.2.1).length ≤ (P z.1).2) with
            | false => rw [e9] at q; cases q
            | true =>
              rw [e9] at q
              simp only [cond_true, Option.bind_eq_some_iff] at q ⊢
              obtain ⟨o1, q1, q2⟩ := q
              exact ⟨o1, mm_x_dp P n d' _ _ _ _ _ o1 q1, mm_x_dp P n (d' + 1) c _ _ _ _ o q2⟩
theorem mm_R_dp {P : mm_P} {d : Nat} {c : List mm_E} {pc : Nat} {ls st : List mm_V} {h : mm_H} {o : mm_O} (q : mm_R P d c pc ls st h = some o) : mm_R P (d + 1) c pc ls st h = some o := by
  rw [mm_R_iff] at q ⊢
  obtain ⟨n, q⟩ := q
  exact ⟨n, mm_x_dp P n d c pc ls st h o q⟩
theorem mm_M_dp {P : mm_P} {d q : Nat} {as : List mm_V} {h : mm_H} {o : mm_O} (e : mm_M P d q as h = some o) : mm_M P (d + 1) q as h = some o := by
  cases d with
  | zero => cases e
  | succ d' =>
    simp only [mm_M] at e ⊢
    cases e9 : decide ((mm_en as).length ≤ (P q).2) with
    | false => rw [e9] at e; cases e
    | true =>
      rw [e9] at e
      rw [cond_true] at e ⊢
      exact mm_R_dp e
/-- a text's beginning -/
theorem tx_begin {c r : mm_H} {n most : Int} (hc : c 1 1 = n) (hr : r 133 2 = n) (bn : 0 ≤ n ∧ n ≤ 940) (hb : ∀ i, 0 ≤ i → i < n → (0 ≤ r 134 i ∧ r 134 i ≤ 255) ∧ c 2 i = mm_w8 (r 134 i)) (bm : 0 ≤ most ∧ most ≤ 900) (d d' : Nat) : ∃ c' r' p t, mm_M mm_prog (d + 5) 83 [(18, 1), (0, most)] c = some (0, c') ∧ mm_M mm_prog (d' + 5) 177 [(21, 133), (0, most)] r = some (0, r') ∧ TF c' r' n most p t ∧ 0 ≤ p ∧ (∀ o k, ¬ (o = 1 ∧ 2 ≤ k ∧ k ≤ 9) → c' o k = c o k) ∧ (∀ o k, ¬ (o = 133 ∧ (k = 0 ∨ (2 ≤ k ∧ k ≤ 12))) → r' o k = r o k) ∧ r' 133 2 = 0 := by
  obtain ⟨c1, e1⟩ : ∃ c1, c1 = mm_up (mm_up (mm_up (mm_up c 1 2 most) 1 3 0) 1 8 0) 1 9 0 := ⟨_, rfl⟩
  obtain ⟨r1, u1⟩ : ∃ r1, r1 = mm_up (mm_up (mm_up (mm_up (mm_up (mm_up r 133 0 0) 133 2 0) 133 3 n) 133 4 most) 133 10 0) 133 5 0 := ⟨_, rfl⟩
  have hB : TB c1 r1 n most := by
    refine ⟨?_, ?_, bn, bm, ?_, ?_, fun i i0 i1 => ?_⟩
    · rw [e1, pu_sl (by decide), pu_sl (by decide), pu_sl (by decide), pu_sl (by decide), hc]
    · rw [e1, pu_sl (by decide), pu_sl (by decide), pu_sl (by decide), pu_eq]
    · rw [u1, pu_sl (by decide), pu_sl (by decide), pu_sl (by decide), pu_eq]
    · rw [u1, pu_sl (by decide), pu_sl (by decide), pu_eq]
    · rw [u1, e1, pu_ob (by decide), pu_ob (by decide), pu_ob (by decide), pu_ob (by decide), pu_ob (by decide), pu_ob (by decide), pu_ob (by decide), pu_ob (by decide), pu_ob (by decide), pu_ob (by decide)]
      exact hb i i0 i1
  obtain ⟨c2, r2, p2, t2, f1, f2, f3, f4, f5, f6⟩ := tk_adv (p := 0) hB (by rw [e1, pu_sl (by decide), pu_sl (by decide), pu_eq]) (by rw [u1, pu_eq]) (Int.le_refl _) bn.1 d d'
  refine ⟨c2, r2, p2, t2, ?_, ?_, ⟨f3, ?_, ?_⟩, f3.2.2.1.1, fun o k q => ?_, fun o k q => ?_, ?_⟩
  · rw [e_X8_beginText, ← e1, f1, Option.bind_some]
  · rw [e_X12_begin, e_X12_take, Option.bind_some]
    dsimp only
    rw [pu_sl (show (2 : Int) ≠ 0 by decide), hr, ← u1, f2, Option.bind_some]
  · rw [f5 _ _ (by omega), e1, pu_sl (by decide), pu_eq]
  · rw [f6 _ _ (by omega), u1, pu_sl (by decide), pu_eq]
  · rw [f5 _ _ (by omega), e1, pu_up, if_neg (by omega), pu_up, if_neg (by omega), pu_up, if_neg (by omega), pu_up, if_neg (by omega)]
  · rw [f6 _ _ (by omega), u1, pu_up, if_neg (by omega), pu_up, if_neg (by omega), pu_up, if_neg (by omega), pu_up, if_neg (by omega), pu_up, if_neg (by omega), pu_up, if_neg (by omega)]
  · rw [f6 _ _ (by omega), u1, pu_sl (by decide), pu_sl (by decide), pu_sl (by decide), pu_sl (by decide), pu_eq]
/-- nothing told yet -/
theorem cl_clear {c : mm_H} (d : Nat) : ∃ c', mm_M mm_prog (d + 1) 49 [(14, 4)] c = some (0, c') ∧ c' 4 0 = 8 ∧ c' 4 1 = 0 ∧ c' 7 0 = 4 ∧ (∀ s, 0 ≤ s → s < 4 → c' 5 s = 0) ∧ ∀ o k, ¬ (o = 4 ∨ o = 5 ∨ o = 7) → c' o k = c o k := by
  obtain ⟨g, hg⟩ : ∃ g, g = mm_up (mm_up (mm_up c 4 0 8) 7 0 4) 4 1 0 := ⟨_, rfl⟩
  obtain ⟨s1, r1, x1⟩ := sp_it_rel (R := fun i s => mm_R mm_prog d T_X4_clear 20 [(14, 4), (0, i)] [] s) (f := fun _ (x : Unit) => x) (I := fun i s _ => (∀ q, 0 ≤ q → q < i → s 5 q = 0) ∧ ∀ o k, o ≠ 5 → s o k = g o k) (N := 4) (fun i s y i0 i1 hs => by
    refine ⟨mm_up s 5 i 0, ?_, fun q q0 q1 => ?_, fun o k ho => ?_⟩
    · rw [e_X4_clear_20, if_pos i1, if_pos ⟨i0, i1⟩, pu_w (by omega) (by omega), show (4 : Int) + 1 = 5 from rfl]
    · by_cases z : q = i
      · rw [z, pu_eq]
      · rw [pu_sl z]; exact hs.1 q q0 (by omega)
    · rw [pu_ob ho]; exact hs.2 o k ho) 4 0 g () (by decide) (by decide) ⟨fun q q0 q1 => by omega, fun _ _ _ => rfl⟩
  refine ⟨s1, ?_, ?_, ?_, ?_, fun s s0 s1' => x1.1 s s0 s1', fun o k q => ?_⟩
  · rw [e_X4_clear, show (4 : Int) + 3 = 7 from rfl, ← hg]
    exact r1.trans (by rw [e_X4_clear_20, if_neg (by decide)])
  · rw [x1.2 _ _ (by decide), hg, pu_sl (by decide), pu_ob (by decide), pu_eq]
  · rw [x1.2 _ _ (by decide), hg, pu_eq]
  · rw [x1.2 _ _ (by decide), hg, pu_ob (by decide), pu_eq]
  · rw [x1.2 _ _ (by omega), hg, pu_ob (by omega), pu_ob (by omega), pu_ob (by omega)]
theorem rf_startRead {r : mm_H} (d : Nat) : ∃ r', mm_M mm_prog (d + 1) 178 [(21, 133)] r = some (0, r') ∧ (∀ j, 0 ≤ j → j < 48 → r' 136 j = if j = 0 then 8 else if j = 5 then 4 else 0) ∧ r' 144 0 = 0 ∧ r' 144 1 = 0 ∧ r' 133 25 = 0 ∧ ∀ o k, ¬ (o = 136 ∨ o = 144 ∨ (o = 133 ∧ k = 25)) → r' o k = r o k := by
  obtain ⟨s1, r1, x1⟩ := sp_it_rel (R := fun i s => mm_R mm_prog d T_X12_startRead 2 [(21, 133), (0, i)] [] s) (f := fun _ (x : Unit) => x) (I := fun i s _ => (∀ q, 0 ≤ q → q < i → s 136 q = 0) ∧ ∀ o k, o ≠ 136 → s o k = r o k) (N := 48) (fun i s y i0 i1 hs => by
    refine ⟨mm_up s 136 i 0, ?_, fun q q0 q1 => ?_, fun o k ho => ?_⟩
    · rw [e_X12_startRead_2, if_pos i1, if_pos ⟨i0, i1⟩, pu_w (by omega) (by omega), show (133 : Int) + 3 = 136 from rfl]
    · by_cases z : q = i
      · rw [z, pu_eq]
      · rw [pu_sl z]; exact hs.1 q q0 (by omega)
    · rw [pu_ob ho]; exact hs.2 o k ho) 48 0 r () (by decide) (by decide) ⟨fun q q0 q1 => by omega, fun _ _ _ => rfl⟩
  refine ⟨mm_up (mm_up (mm_up (mm_up (mm_up s1 144 0 0) 144 1 0) 133 25 0) 136 0 8) 136 5 4, ?_, fun j j0 j1 => ?_, ?_, ?_, ?_, fun o k q => ?_⟩
  · rw [e_X12_startRead]
    exact r1.trans (by rw [e_X12_startRead_2, if_neg (by decide)]; rfl)
  · by_cases z : j = 5
    · rw [z, pu_eq]; rfl
    · rw [pu_sl z]
      by_cases y : j = 0
      · rw [y, pu_eq]; rfl
      · rw [pu_sl y, pu_ob (by decide), pu_ob (by decide), pu_ob (by decide), if_neg y, if_neg z]
        exact x1.1 j j0 j1
  · rw [pu_ob (by decide), pu_ob (by decide), pu_ob (by decide), pu_sl (by decide), pu_eq]
  · rw [pu_ob (by decide), pu_ob (by decide), pu_ob (by decide), pu_eq]
  · rw [pu_ob (by decide), pu_ob (by decide), pu_eq]
  · rw [pu_ob (by omega), pu_ob (by omega), pu_up, if_neg (by omega), pu_ob (by omega), pu_ob (by omega)]
    exact x1.2 o k (by omega)
theorem TW_start {c r : mm_H} (c0 : c 4 0 = 8) (c1 : c 4 1 = 0) (c7 : c 7 0 = 4) (c5 : ∀ s, 0 ≤ s → s < 4 → c 5 s = 0) (hr : ∀ j, 0 ≤ j → j < 48 → r 136 j = if j = 0 then 8 else if j = 5 then 4 else 0) (e0 : c 3 1 = 0) (e1 : c 3 2 = 0) (f0 : r 144 0 = 0) (f1 : r 144 1 = 0) (f2 : r 133 25 = 0) : TW c r := by
  have v0 : r 136 0 = 8 := hr 0 (by decide) (by decide)
  have v1 : r 136 1 = 0 := hr 1 (by decide) (by decide)
  have v2 : r 136 2 = 0 := hr 2 (by decide) (by decide)
  have v3 : r 136 3 = 0 := hr 3 (by decide) (by decide)
  have v4 : r 136 4 = 0 := hr 4 (by decide) (by decide)
  have v5 : r 136 5 = 4 := hr 5 (by decide) (by decide)
  have v24 : r 136 24 = 0 := hr 24 (by decide) (by decide)
  have vs : ∀ s, 0 ≤ s → s < 4 → r 136 (1 + s) = 0 := fun s s0 s1 => by
    rw [hr _ (by omega) (by omega), if_neg (by omega), if_neg (by omega)]
  unfold TW NM2 pr_W pr_P
  rw [v0, v1, v2, v3, v4, v24]
  refine ⟨⟨by decide, by decide, by decide, by decide, by decide, fun q q0 q1 => ?_, fun q q0 q1 => by omega, by decide, fun q q0 q1 => by omega, fun q q0 q1 => by omega⟩, ⟨c0, c1, fun s s0 s1 => ?_, fun q q0 q1 => ?_, fun q q0 q1 => by omega, fun q q0 q1 => by omega, fun q q0 q1 => by omega⟩, fun s i s0 s1 i0 i1 => ?_, fun w w0 w1 => ?_, by rw [e0, e1, f0, f1]; exact ⟨rfl, rfl⟩, by rw [f2]; rfl⟩
  · rw [show q = 0 by omega, show (5 : Int) + 0 = 5 from rfl, v5]; decide
  · rw [vs s s0 s1]; exact c5 s s0 s1
  · rw [show q = 0 by omega, show (5 : Int) + 0 = 5 from rfl, v5]; exact c7
  · rw [vs s s0 s1] at i1; omega
  · rw [hr _ (by omega) (by omega), if_neg (by omega), if_neg (by omega)]
/-! the moment at the beginning -/
theorem cp_step2 (h : mm_H) {a i j n : Int} (hn : 0 ≤ n) (hij : i + n < j) : mm_up (mm_cp h a i a j n) a (j + n) (mm_cp h a i a j n a (i + n)) = mm_cp h a i a j (n + 1) := by
  funext o k
  rw [cp_out (o := a) (k := i + n) (by omega)]
  unfold mm_up mm_cp
  by_cases c : o = a ∧ k = j + n
  · rw [if_pos c, if_pos (by omega), c.2]
    congr 1
    omega
  · rw [if_neg c]
    by_cases c2 : o = a ∧ j ≤ k ∧ k < j + n
    · rw [if_pos c2, if_pos (by omega)]
    · rw [if_neg c2, if_neg (by omega)]
def f_new (V : Int → Int) : Int → Int := fun j => if j < 48 then V j else if j = 50 then V 5 else if j = 53 then V 24 else if 54 ≤ j ∧ j < 61 then V (10 + (j - 54)) else if 68 ≤ j ∧ j < 74 then V (31 + (j - 68)) else 0
theorem rf_startSo {r : mm_H} (d : Nat) : ∃ r', mm_M mm_prog (d + 1) 179 [(21, 133)] r = some (0, r') ∧ (∀ j, 0 ≤ j → j < 316 → r' 135 j = f_new (r 135) j) ∧ ∀ o k, o ≠ 135 → r' o k = r o k := by
  obtain ⟨s1, r1, x1⟩ := sp_it_rel (R := fun i s => mm_R mm_prog d T_X12_startSo 3 [(21, 133), (0, 48 + i)] [] s) (f := fun _ (x : Unit) => x) (I := fun i s _ => (∀ q, 48 ≤ q → q < 48 + i → s 135 q = 0) ∧ (∀ q, q < 48 → s 135 q = r 135 q) ∧ ∀ o k, o ≠ 135 → s o k = r o k) (N := 268) (fun i s y i0 i1 hs => by
    refine ⟨mm_up s 135 (48 + i) 0, ?_, fun q q0 q1 => ?_, fun q q0 => ?_, fun o k ho => ?_⟩
    · rw [e_X12_startSo_3, if_pos (by omega), if_pos (by omega), pu_w (by omega) (by omega), show (133 : Int) + 2 = 135 from rfl, show 48 + i + 1 = 48 + (i + 1) by omega]
    · by_cases z : q = 48 + i
      · rw [z, pu_eq]
      · rw [pu_sl z]; exact hs.1 q q0 (by omega)
    · rw [pu_sl (by omega)]; exact hs.2.1 q q0
    · rw [pu_ob ho]; exact hs.2.2 o k ho) 268 0 r () (by decide) (by decide) ⟨fun q q0 q1 => by omega, fun _ _ => rfl, fun _ _ _ => rfl⟩
  obtain ⟨x1a, x1b, x1c⟩ := x1
  obtain ⟨g, hg⟩ : ∃ g, g = mm_up (mm_up s1 135 50 (s1 135 5)) 135 53 (s1 135 24) := ⟨_, rfl⟩
  obtain ⟨s2, r2, x2⟩ := sp_it_rel (R := fun i s => mm_R mm_prog d T_X12_startSo 52 [(21, 133), (0, i)] [] s) (f := fun _ (x : Unit) => x) (I := fun i s _ => s = mm_cp g 135 10 135 54 i) (N := 7) (fun i s y i0 i1 hs => by
    subst hs
    refine ⟨_, ?_, rfl⟩
    rw [e_X12_startSo_52, if_pos i1, pu_w (x := 10 + i) (by omega) (by omega), pu_w (x := 54 + i) (by omega) (by omega), pu_w (x := i + 1) (by omega) (by omega), if_pos (by omega), if_pos (by omega), show (133 : Int) + 2 = 135 from rfl, ← cp_step2 g i0 (by omega)]) 7 0 g () (by decide) (by decide) (cp_0 _ _ _ _ _).symm
  obtain ⟨s3, r3, x3⟩ := sp_it_rel (R := fun i s => mm_R mm_prog d T_X12_startSo 84 [(21, 133), (0, i)] [] s) (f := fun _ (x : Unit) => x) (I := fun i s _ => s = mm_cp s2 135 31 135 68 i) (N := 6) (fun i s y i0 i1 hs => by
    subst hs
    refine ⟨_, ?_, rfl⟩
    rw [e_X12_startSo_84, if_pos i1, pu_w (x := 31 + i) (by omega) (by omega), pu_w (x := 68 + i) (by omega) (by omega), pu_w (x := i + 1) (by omega) (by omega), if_pos (by omega), if_pos (by omega), show (133 : Int) + 2 = 135 from rfl, ← cp_step2 s2 i0 (by omega)]) 6 0 s2 () (by decide) (by decide) (cp_0 _ _ _ _ _).symm
  have gl : ∀ q, q < 48 → g 135 q = r 135 q := fun q hq => by rw [hg, pu_sl (by omega), pu_sl (by omega), x1b q hq]
  have r1' : mm_R mm_prog d T_X12_startSo 3 [(21, 133), (0, 48)] [] r = mm_R mm_prog d T_X12_startSo 3 [(21, 133), (0, 316)] [] s1 := r1
  refine ⟨s3, ?_, fun j j0 j1 => ?_, fun o k ho => ?_⟩
  · rw [e_X12_startSo, r1', e_X12_startSo_3, if_neg (by decide), show (133 : Int) + 2 = 135 from rfl, pu_sl (show (24 : Int) ≠ 50 by decide), ← hg, r2, e_X12_startSo_52, if_neg (by decide), r3, e_X12_startSo_84, if_neg (by decide)]
  · unfold f_new
    rw [x3, x2]
    by_cases a : j < 48
    · rw [if_pos a, cp_out (by omega), cp_out (by omega), gl j a]
    · rw [if_neg a]
      by_cases b : 68 ≤ j ∧ j < 74
      · rw [if_neg (by omega), if_neg (by omega), if_neg (by omega), if_pos b, cp_at (by omega) (by omega), cp_out (by omega), gl _ (by omega)]
      · rw [cp_out (by omega)]
        by_cases e : 54 ≤ j ∧ j < 61
        · rw [if_neg (by omega), if_neg (by omega), if_pos e, cp_at (by omega) (by omega), gl _ (by omega)]
        · rw [cp_out (by omega), if_neg e, if_neg b, hg]
          by_cases f : j = 53
          · rw [if_neg (by omega), if_pos f, f, pu_eq, x1b _ (by decide)]
          · rw [pu_sl f]
            by_cases q : j = 50
            · rw [if_pos q, q, pu_eq, x1b _ (by decide)]
            · rw [pu_sl q, if_neg q, if_neg f, x1a j (by omega) (by omega)]
  · rw [x3, x2, cp_ob ho, cp_ob ho, hg, pu_ob ho, pu_ob ho, x1c o k ho]
theorem W_cg {V x : Int → Int} (hW : pr_W V) (e : ∀ j, 0 ≤ j → j < 48 → x j = V j) : pr_W x := by
  obtain ⟨a0, a1, a2, a3, a4, a5, a6, a7, a8, a9⟩ := hW
  unfold pr_W
  rw [e 0 (by decide) (by decide), e 1 (by decide) (by decide), e 2 (by decide) (by decide), e 3 (by decide) (by decide), e 4 (by decide) (by decide), e 24 (by decide) (by decide)]
  refine ⟨a0, a1, a2, a3, a4, fun q q0 q1 => ?_, fun q q0 q1 => ?_, a7, fun q q0 q1 => ?_, fun q q0 q1 => ?_⟩
  · rw [e _ (by omega) (by omega)]; exact a5 q q0 q1
  · rw [e _ (by omega) (by omega), e _ (by omega) (by omega)]; exact a6 q q0 q1
  · rw [e _ (by omega) (by omega), e _ (by omega) (by omega), e _ (by omega) (by omega)]; exact a8 q q0 q1
  · rw [e _ (by omega) (by omega)]; exact a9 q q0 q1
/-- what a new town's moment is -/
def f_st0 (V x : Int → Int) : Prop := x 48 = 0 ∧ x 49 = 0 ∧ x 50 = V 5 ∧ x 51 = 0 ∧ x 52 = 0 ∧ x 53 = V 24 ∧ (∀ p, 0 ≤ p → p < 7 → x (54 + p) = V (10 + p) ∧ x (61 + p) = 0) ∧ (∀ w, 0 ≤ w → w < 6 → x (68 + w) = V (31 + w)) ∧ x 74 = 0
theorem f_new_st {V x : Int → Int} (h : ∀ j, 0 ≤ j → j < 316 → x j = f_new V j) : f_st0 V x := by
  refine ⟨h 48 (by decide) (by decide), h 49 (by decide) (by decide), h 50 (by decide) (by decide), h 51 (by decide) (by decide), h 52 (by decide) (by decide), h 53 (by decide) (by decide), fun p p0 p1 => ⟨?_, ?_⟩, fun w w0 w1 => ?_, h 74 (by decide) (by decide)⟩
  · rw [h _ (by omega) (by omega)]
    unfold f_new
    rw [if_neg (by omega), if_neg (by omega), if_neg (by omega), if_pos (by omega)]
    congr 1
    omega
  · rw [h _ (by omega) (by omega)]
    unfold f_new
    rw [if_neg (by omega), if_neg (by omega), if_neg (by omega), if_neg (by omega), if_neg (by omega)]
  · rw [h _ (by omega) (by omega)]
    unfold f_new
    rw [if_neg (by omega), if_neg (by omega), if_neg (by omega), if_neg (by omega), if_pos (by omega)]
    congr 1
    omega
theorem f_st0_T {V x : Int → Int} (hW : pr_W V) (e : ∀ j, 0 ≤ j → j < 48 → x j = V j) (h : f_st0 V x) : pr_T x := by
  obtain ⟨s0, s1, s2, s3, s4, s5, s6, s7, -⟩ := h
  obtain ⟨a0, a1, a2, a3, a4, a5, a6, a7, a8, a9⟩ := hW
  have g := a5 0 (by decide) a1.1
  rw [show (5 : Int) + 0 = 5 from rfl] at g
  unfold pr_T pr_S
  rw [s0, s1, s2, s3, s4, s5, e 0 (by decide) (by decide), e 1 (by decide) (by decide), e 2 (by decide) (by decide), e 3 (by decide) (by decide)]
  refine ⟨⟨by decide, ⟨by decide, a1.1⟩, by omega, Or.inl rfl, by decide, a7, fun p p0 p1 => ?_, fun w w0 w1 => ?_⟩, g.1, by decide, fun p p0 p1 => ?_⟩
  · rw [(s6 p p0 (by omega)).1, (s6 p p0 (by omega)).2]
    exact ⟨(a6 p p0 p1).1, by decide, by decide⟩
  · rw [s7 w w0 (by omega)]
    have := (a8 w w0 w1).2.1
    omega
  · rw [(s6 p p0 (by omega)).2]; decide
theorem cl_momBegin {c : mm_H} {V x : Int → Int} (hP : pr_P c 15 V) (hW : pr_W V) (e : ∀ j, 0 ≤ j → j < 48 → x j = V j) (h : f_st0 V x) (d : Nat) : ∃ c', mm_M mm_prog (d + 3) 15 [(12, 25), (14, 15)] c = some (0, c') ∧ pr_M c' 25 x ∧ fr 25 c c' := by
  obtain ⟨s0, s1, s2, s3, s4, s5, s6, s7, -⟩ := h
  have w2 := hW.2.2.1
  have w3 := hW.2.2.2.1
  have w1 := hW.2.1
  obtain ⟨c1, e1⟩ : ∃ c1, c1 = mm_up (mm_up c 25 0 0) 25 1 0 := ⟨_, rfl⟩
  have P1 : pr_P c1 15 V := hP.ob (fun o h0 h1 _ k => by rw [e1, pu_ob (by omega), pu_ob (by omega)])
  have gp := cl_gapOf P1 hW (x := 0) d
  rw [if_pos ⟨Int.le_refl _, w1.1⟩, show (5 : Int) + 0 = 5 from rfl] at gp
  obtain ⟨g, hg⟩ : ∃ g, g = mm_up (mm_up (mm_up (mm_up c1 25 2 (V 5)) 25 3 0) 25 4 0) 25 5 (V 24) := ⟨_, rfl⟩
  obtain ⟨s1', r1, x1⟩ := sp_it_rel (R := fun i s => mm_R mm_prog (d + 2) T_X2_begin 39 [(12, 25), (14, 15), (0, i)] [] s) (f := fun _ (x : Unit) => x) (I := fun i s _ => (∀ q, 0 ≤ q → q < i → s 26 q = g 19 q ∧ s 27 q = 0) ∧ ∀ o k, o ≠ 26 → o ≠ 27 → s o k = g o k) (N := 7) (fun i s y i0 i1 hs => by
    refine ⟨mm_up (mm_up s 26 i (s 19 i)) 27 i 0, ?_, fun q q0 q1 => ?_, fun o k ho ho2 => ?_⟩
    · rw [e_X2_begin_39, if_pos i1, if_pos ⟨i0, i1⟩, if_pos ⟨i0, i1⟩, if_pos ⟨i0, i1⟩, pu_w (by omega) (by omega)]
      rfl
    · by_cases z : q = i
      · rw [z, pu_ob (by decide), pu_eq, pu_eq, hs.2 _ _ (by decide) (by decide)]
        exact ⟨rfl, rfl⟩
      · rw [pu_ob (by decide), pu_sl z, pu_sl z, pu_ob (by decide)]; exact hs.1 q q0 (by omega)
    · rw [pu_ob ho2, pu_ob ho]; exact hs.2 o k ho ho2) 7 0 g () (by decide) (by decide) ⟨fun q q0 q1 => by omega, fun _ _ _ _ => rfl⟩
  obtain ⟨s2', r2, x2⟩ := sp_it_rel (R := fun i s => mm_R mm_prog (d + 2) T_X2_begin 72 [(12, 25), (14, 15), (0, i)] [] s) (f := fun _ (x : Unit) => x) (I := fun i s _ => (∀ q, 0 ≤ q → q < i → s 28 q = s1' 22 q) ∧ ∀ o k, o ≠ 28 → s o k = s1' o k) (N := 6) (fun i s y i0 i1 hs => by
    refine ⟨mm_up s 28 i (s 22 i), ?_, fun q q0 q1 => ?_, fun o k ho => ?_⟩
    · rw [e_X2_begin_72, if_pos i1, if_pos ⟨i0, i1⟩, if_pos ⟨i0, i1⟩, pu_w (by omega) (by omega)]
      rfl
    · by_cases z : q = i
      · rw [z, pu_eq, hs.2 _ _ (by decide)]
      · rw [pu_sl z]; exact hs.1 q q0 (by omega)
    · rw [pu_ob ho]; exact hs.2 o k ho) 6 0 s1' () (by decide) (by decide) ⟨fun q q0 q1 => by omega, fun _ _ _ => rfl⟩
  have out : ∀ o k, ¬ (25 ≤ o ∧ o ≤ 28) → s2' o k = c o k := fun o k q => by
    rw [x2.2 _ _ (by omega), x1.2 _ _ (by omega) (by omega), hg, pu_ob (by omega), pu_ob (by omega), pu_ob (by omega), pu_ob (by omega), e1, pu_ob (by omega), pu_ob (by omega)]
  have gc : ∀ o k, o ≠ 25 → g o k = c o k := fun o k q => by
    rw [hg, pu_ob q, pu_ob q, pu_ob q, pu_ob q, e1, pu_ob q, pu_ob q]
  have g25 : ∀ k, s2' 25 k = g 25 k := fun k => by rw [x2.2 _ _ (by decide), x1.2 _ _ (by decide) (by decide)]
  refine ⟨s2', ?_, ⟨?_, ?_, ?_, ?_, ?_, ?_, fun p p0 p1 => ?_, fun w w0 w1 => ?_⟩, fun o ho k => out o k (by omega)⟩
  · have r1' : mm_R mm_prog (d + 2) T_X2_begin 39 [(12, 25), (14, 15), (0, 0)] [] g = mm_R mm_prog (d + 2) T_X2_begin 39 [(12, 25), (14, 15), (0, 7)] [] s1' := r1
    have r2' : mm_R mm_prog (d + 2) T_X2_begin 72 [(12, 25), (14, 15), (0, 0)] [] s1' = mm_R mm_prog (d + 2) T_X2_begin 72 [(12, 25), (14, 15), (0, 6)] [] s2' := r2
    rw [e_X2_begin, ← e1, gp, Option.bind_some]
    dsimp only
    rw [pu_ob (show (15 : Int) ≠ 25 by decide), pu_ob (show (15 : Int) ≠ 25 by decide), pu_ob (show (15 : Int) ≠ 25 by decide), P1.2.1, ← hg, r1', e_X2_begin_39, if_neg (by decide), r2', e_X2_begin_72, if_neg (by decide)]
  · rw [g25, hg, pu_sl (by decide), pu_sl (by decide), pu_sl (by decide), pu_sl (by decide), e1, pu_sl (by decide), pu_eq, s0]
  · rw [g25, hg, pu_sl (by decide), pu_sl (by decide), pu_sl (by decide), pu_sl (by decide), e1, pu_eq, s1]
  · rw [g25, hg, pu_sl (by decide), pu_sl (by decide), pu_sl (by decide), pu_eq, s2]
  · rw [g25, hg, pu_sl (by decide), pu_sl (by decide), pu_eq, s3]
  · rw [g25, hg, pu_sl (by decide), pu_eq, s4]
  · rw [g25, hg, pu_eq, s5]
  · rw [e 2 (by decide) (by decide)] at p1
    have q := x1.1 p p0 (by omega)
    have q2 := (hP.2.2.2.2.1 p p0 p1).1
    rw [show (25 : Int) + 1 = 26 from rfl, show (25 : Int) + 2 = 27 from rfl, x2.2 _ _ (by decide), x2.2 _ _ (by decide), q.1, q.2, (s6 p p0 (by omega)).1, (s6 p p0 (by omega)).2, gc _ _ (by decide)]
    exact ⟨q2, rfl⟩
  · rw [e 3 (by decide) (by decide)] at w1
    have q2 := (hP.2.2.2.2.2.1 w w0 w1).2.1
    rw [show (25 : Int) + 3 = 28 from rfl, x2.1 w w0 (by omega), x1.2 _ _ (by decide) (by decide), gc _ _ (by decide), s7 w w0 (by omega)]
    exact q2
