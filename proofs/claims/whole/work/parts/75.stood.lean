/-! How long it stood -/
def f_ct (c : Int → Bool) : Nat → Int
  | 0 => 0
  | m + 1 => f_ct c m + sp_b (c m)
theorem sp_b_le (b : Bool) : 0 ≤ sp_b b ∧ sp_b b ≤ 1 := by cases b <;> decide
theorem f_ct_S {c : Int → Bool} {i : Int} (h0 : 0 ≤ i) : f_ct c (i + 1).toNat = f_ct c i.toNat + sp_b (c i) := by
  rw [show (i + 1).toNat = i.toNat + 1 by omega]
  show f_ct c i.toNat + sp_b (c (i.toNat : Int)) = _
  rw [show ((i.toNat : Nat) : Int) = i by omega]
theorem f_ct_b (c : Int → Bool) : ∀ m : Nat, 0 ≤ f_ct c m ∧ f_ct c m ≤ m
  | 0 => ⟨Int.le_refl 0, Int.le_refl 0⟩
  | m + 1 => by
    have ih := f_ct_b c m
    have := sp_b_le (c m)
    show 0 ≤ f_ct c m + sp_b (c m) ∧ f_ct c m + sp_b (c m) ≤ _
    omega
theorem f_ct_mono (c : Int → Bool) {m n : Nat} (h : m ≤ n) : f_ct c m ≤ f_ct c n := by
  induction h with
  | refl => exact Int.le_refl _
  | step _ ih =>
    rename_i k _
    have := sp_b_le (c k)
    show _ ≤ f_ct c k + sp_b (c k)
    omega
/-- those that leave r -/
def f_nr (c : Int → Bool) (e r : Int) (m : Nat) : Int := f_ct (fun x => c x && decide (x % e = r)) m
theorem f_nr_S {c : Int → Bool} {e r i : Int} (h0 : 0 ≤ i) : f_nr c e r (i + 1).toNat = f_nr c e r i.toNat + sp_b (c i && decide (i % e = r)) := f_ct_S h0
theorem f_nr_jump {c : Int → Bool} {e r x : Int} (x0 : 0 ≤ x) (e0 : 0 < e) (hx : x % e = r) : ∀ t : Nat, ((t + 1 : Nat) : Int) ≤ e → f_nr c e r (x + ((t + 1 : Nat) : Int)).toNat = f_nr c e r x.toNat + sp_b (c x)
  | 0, _ => by
    show f_nr c e r (x + 1).toNat = _
    rw [f_nr_S x0, decide_eq_true hx, Bool.and_true]
  | t + 1, ht => by
    have ih := f_nr_jump (c := c) x0 e0 hx t (by omega)
    rw [show x + ((t + 1 + 1 : Nat) : Int) = (x + ((t + 1 : Nat) : Int)) + 1 by omega, f_nr_S (by omega), ih]
    have ne : ¬ (x + ((t + 1 : Nat) : Int)) % e = r := by
      intro q
      rw [← hx] at q
      have := Int.emod_eq_emod_iff_emod_sub_eq_zero.mp q
      rw [show x + ((t + 1 : Nat) : Int) - x = ((t + 1 : Nat) : Int) by omega, Int.emod_eq_of_lt (by omega) (by omega)] at this
      omega
    rw [decide_eq_false ne, Bool.and_false]
    show f_nr c e r x.toNat + sp_b (c x) + 0 = _
    omega
def f_mx (c : Int → Bool) (e : Int) : Int := sp_it (fun r acc => max acc (f_nr c e r 256)) e.toNat 0 0
def isMx (c : Int → Bool) (e : Int) (m : Nat) (n : Int) (x : Int) : Prop := (∀ r, 0 ≤ r → r < n → f_nr c e r m ≤ x) ∧ 0 ≤ x ∧ (x = 0 ∨ ∃ r, 0 ≤ r ∧ r < n ∧ f_nr c e r m = x)
theorem isMx.uniq {c : Int → Bool} {e n x y : Int} {m : Nat} (h1 : isMx c e m n x) (h2 : isMx c e m n y) : x = y := by
  obtain ⟨a1, b1, c1⟩ := h1
  obtain ⟨a2, b2, c2⟩ := h2
  have p1 : x ≤ y := by
    rcases c1 with q | ⟨r, r0, r1, q⟩
    · omega
    · have := a2 r r0 r1
      omega
  have p2 : y ≤ x := by
    rcases c2 with q | ⟨r, r0, r1, q⟩
    · omega
    · have := a1 r r0 r1
      omega
  omega
theorem isMx.step {c : Int → Bool} {e i x : Int} (hI : isMx c e 256 i x) (i0 : 0 ≤ i) : isMx c e 256 (i + 1) (max x (f_nr c e i 256)) := by
  obtain ⟨a, b, q⟩ := hI
  refine ⟨fun r r0 r1 => ?_, by omega, ?_⟩
  · by_cases z : r = i
    · rw [z]; omega
    · have := a r r0 (by omega)
      omega
  · by_cases z : f_nr c e i 256 ≤ x
    · rw [show max x (f_nr c e i 256) = x by omega]
      rcases q with q | ⟨r, r0, r1, q⟩
      · exact Or.inl q
      · exact Or.inr ⟨r, r0, by omega, q⟩
    · exact Or.inr ⟨i, i0, by omega, by omega⟩
theorem f_mx_ok (c : Int → Bool) {e : Int} (e0 : 0 ≤ e) : isMx c e 256 e (f_mx c e) := by
  obtain ⟨s', -, hh⟩ := sp_it_rel (σ := Unit) (β := Unit) (R := fun _ _ => ()) (f := fun r acc => max acc (f_nr c e r 256)) (I := fun i _ x => isMx c e 256 i x) (N := e) (fun i s x i0 i1 hI => ⟨(), rfl, hI.step i0⟩) e.toNat 0 () 0 (by omega) (by omega) ⟨fun r r0 r1 => by omega, by omega, Or.inl rfl⟩
  exact hh
theorem f_mx_le (c : Int → Bool) {e : Int} (e0 : 0 ≤ e) : 0 ≤ f_mx c e ∧ f_mx c e ≤ 256 := by
  obtain ⟨-, b, q⟩ := f_mx_ok c e0
  refine ⟨b, ?_⟩
  rcases q with q | ⟨r, r0, r1, q⟩
  · omega
  · have := (f_ct_b (fun x => c x && decide (x % e = r)) 256).2
    have : f_nr c e r 256 ≤ 256 := this
    omega
/-- by which thing is left least -/
def f_nt (V : Int → Int) (c : Int → Bool) (t : Int) (x : Int × Int) : Int × Int := if f_mx c (V (43 + t)) < x.2 then (t, f_mx c (V (43 + t))) else x
section PC
variable {V : Int → Int} {c : Int → Bool} {s : mm_H}
/-- the class's row of what fits -/
def FT (c : Int → Bool) (s : mm_H) (n : Int) : Prop := ∀ m, 0 ≤ m → m < n → s 77 m = sp_b (c m)
theorem cl_mlb_15 (hF : FT c s 256) {e r most : Int} (e0 : 2 ≤ e) (e1 : e ≤ 60) (d : Nat) : ∀ (n : Nat) (x : Int), 256 - x ≤ n → 0 ≤ x → x < 256 → x % e = r → ∃ u, mm_R mm_prog d T_X1_mostLeftBy 15 [(11, 76), (0, e), (0, most), (0, r), (0, f_nr c e r x.toNat), (0, x)] [] s = mm_R mm_prog d T_X1_mostLeftBy 4 [(11, 76), (0, e), (0, max most (f_nr c e r 256)), (0, mm_w (r + 1)), (0, f_nr c e r 256), u] [] s := by
  intro n
  induction n with
  | zero => intro x h0 h1 h2 _; omega
  | succ n ih =>
    intro x hn x0 x1 hx
    have fx : s (76 + 1) x = sp_b (c x) := hF x x0 x1
    have nb := f_ct_b (fun y => c y && decide (y % e = r)) x.toNat
    have nb' : 0 ≤ f_nr c e r x.toNat ∧ f_nr c e r x.toNat ≤ x.toNat := nb
    rw [e_X1_mostLeftBy_15, if_pos x1, if_pos ⟨x0, x1⟩, fx, pu_w (x := x + e) (by omega) (by omega), pu_w (x := f_nr c e r x.toNat + 1) (by omega) (by omega)]
    have ej : f_nr c e r x.toNat + sp_b (c x) = (bif c x then f_nr c e r x.toNat + 1 else f_nr c e r x.toNat) := by
      cases c x
      · show f_nr c e r x.toNat + 0 = f_nr c e r x.toNat
        omega
      · rfl
    have e2 : (if sp_b (c x) = 0 then mm_R mm_prog d T_X1_mostLeftBy 15 [(11, 76), (0, e), (0, most), (0, r), (0, f_nr c e r x.toNat), (0, x + e)] [] s else mm_R mm_prog d T_X1_mostLeftBy 15 [(11, 76), (0, e), (0, most), (0, r), (0, f_nr c e r x.toNat + 1), (0, x + e)] [] s) = mm_R mm_prog d T_X1_mostLeftBy 15 [(11, 76), (0, e), (0, most), (0, r), (0, f_nr c e r x.toNat + sp_b (c x)), (0, x + e)] [] s := by
      rw [ej]
      cases c x <;> rfl
    rw [e2]
    by_cases z : x + e < 256
    · have j := f_nr_jump (c := c) x0 (by omega) hx (e.toNat - 1) (by omega)
      rw [show ((e.toNat - 1 + 1 : Nat) : Int) = e by omega] at j
      rw [← j]
      exact ih (x + e) (by omega) (by omega) z (by rw [Int.add_emod_right]; exact hx)
    · have j := f_nr_jump (c := c) x0 (by omega) hx (255 - x).toNat (by omega)
      rw [show (x + (((255 - x).toNat + 1 : Nat) : Int)).toNat = 256 by omega] at j
      rw [← j, e_X1_mostLeftBy_15, if_neg z]
      exact ⟨_, rfl⟩
theorem cl_mlb (hF : FT c s 256) {e : Int} (e0 : 2 ≤ e) (e1 : e ≤ 60) (d : Nat) : mm_M mm_prog (d + 1) 14 [(11, 76), (0, e)] s = some (f_mx c e, s) := by
  rw [e_X1_mostLeftBy]
  obtain ⟨⟨a, u4, u5⟩, r, ea⟩ := sp_it_rel (R := fun i (q : Int × mm_V × mm_V) => mm_R mm_prog d T_X1_mostLeftBy 4 [(11, 76), (0, e), (0, q.1), (0, i), q.2.1, q.2.2] [] s) (f := fun r acc => max acc (f_nr c e r 256)) (I := fun i q x => q.1 = x) (N := e) (fun i q x i0 i1 hI => by
    obtain ⟨q, u4, u5⟩ := q
    dsimp only at hI ⊢
    subst hI
    rw [e_X1_mostLeftBy_4, if_pos i1]
    have z0 : f_nr c e i i.toNat = 0 := by
      obtain ⟨s', -, hh⟩ := sp_it_rel (σ := Unit) (β := Unit) (R := fun _ _ => ()) (f := fun _ (x : Unit) => x) (I := fun j _ _ => f_nr c e i j.toNat = 0) (N := i) (fun j s x j0 j1 hI => ⟨(), rfl, by
        rw [f_nr_S j0, hI, decide_eq_false (by rw [Int.emod_eq_of_lt j0 (by omega)]; omega), Bool.and_false]
        rfl⟩) i.toNat 0 () () (by omega) (by omega) rfl
      exact hh
    obtain ⟨u, e9⟩ := cl_mlb_15 (most := q) (r := i) hF e0 e1 d 256 i (by omega) i0 (by omega) (Int.emod_eq_of_lt i0 i1)
    rw [z0] at e9
    rw [e9, pu_w (by omega) (by omega)]
    exact ⟨(_, _, _), rfl, rfl⟩) e.toNat 0 (0, (9, 0), (9, 0)) 0 (by omega) (by omega) rfl
  dsimp only at r ea
  rw [r, e_X1_mostLeftBy_4, if_neg (by omega), ea]
  rfl
theorem cl_ttl (hP : pr_P s 15 V) (hW : pr_W V) (hF : FT c s 256) (d : Nat) : mm_M mm_prog (d + 2) 13 [(11, 76), (14, 15)] s = some ((sp_it (f_nt V c) (V 4).toNat 0 (-1, 257)).1, s) := by
  have w4 := hW.2.2.2.2.1
  have e4 : s (15 + 1) 3 = V 4 := hP.2.2.1 3 (by decide) (by decide)
  rw [e_X1_thingToLookAt]
  obtain ⟨⟨a, b, u5⟩, r, ea, eb⟩ := sp_it_rel (R := fun i (q : Int × Int × mm_V) => mm_R mm_prog (d + 1) T_X1_thingToLookAt 9 [(11, 76), (14, 15), (0, q.1), (0, q.2.1), (0, i), q.2.2] [] s) (f := f_nt V c) (I := fun i q x => q.1 = x.1 ∧ q.2.1 = x.2) (N := V 4) (fun i q x i0 i1 hI => by
    obtain ⟨q, q2, u5⟩ := q
    obtain ⟨h1, h2⟩ := hI
    dsimp only at h1 h2 ⊢
    subst h1 h2
    have g := hW.2.2.2.2.2.2.2.2.2 i i0 i1
    have eg : s (15 + 9) i = V (43 + i) := hP.2.2.2.2.2.2 i i0 i1
    rw [e_X1_thingToLookAt_9, e4, if_pos i1, if_pos (by omega), eg, cl_mlb hF g.1 g.2, Option.bind_some, pu_w (x := i + 1) (by omega) (by omega)]
    dsimp only
    unfold f_nt
    by_cases z : f_mx c (V (43 + i)) < x.2
    · rw [if_pos z, if_pos z]
      exact ⟨(i, f_mx c (V (43 + i)), _), rfl, rfl, rfl⟩
    · rw [if_neg z, if_neg z]
      exact ⟨(x.1, x.2, _), rfl, rfl, rfl⟩) (V 4).toNat 0 (-1, 257, (9, 0)) (-1, 257) (by omega) (by omega) ⟨rfl, rfl⟩
  dsimp only at r ea
  rw [r, e_X1_thingToLookAt_9, e4, if_neg (by omega), ea]
/-- least and greatest so far -/
def kbI (c : Int → Bool) (m : Int) (l g : Int) : Prop := (f_ct c m.toNat = 0 ∧ l = -1) ∨ (0 < f_ct c m.toNat ∧ (0 ≤ l ∧ l < m ∧ c l = true ∧ f_ct c l.toNat = 0) ∧ (0 ≤ g ∧ g < m ∧ c g = true ∧ f_ct c g.toNat + 1 = f_ct c m.toNat))
theorem cl_bounds (hF : FT c s 256) (d : Nat) : ∃ s', mm_M mm_prog (d + 1) 12 [(11, 76)] s = some (0, s') ∧ dif (fun o k => o = 76 ∧ (k = 1 ∨ k = 2)) s s' ∧ kbI c 256 (s' 76 1) (s' 76 2) := by
  rw [e_X1_keepBounds]
  obtain ⟨s1, r, D, K⟩ := sp_it_rel (R := fun i q => mm_R mm_prog d T_X1_keepBounds 7 [(11, 76), (0, i)] [] q) (f := fun _ (x : Unit) => x) (I := fun i q _ => dif (fun o k => o = 76 ∧ (k = 1 ∨ k = 2)) s q ∧ kbI c i (q 76 1) (q 76 2)) (N := 256) (fun i q x i0 i1 hI => by
    obtain ⟨qD, qK⟩ := hI
    have fx : q (76 + 1) i = sp_b (c i) := (qD 77 i (show ¬ ((77 : Int) = 76 ∧ _) from fun z => absurd z.1 (by decide))).trans (hF i i0 i1)
    have nb := f_ct_b c i.toNat
    have cS := f_ct_S (c := c) i0
    rw [e_X1_keepBounds_7, if_pos i1, if_pos ⟨i0, i1⟩, fx, pu_w (by omega) (by omega)]
    cases e : c i with
    | false =>
      rw [e] at cS
      have cS' : f_ct c (i + 1).toNat = f_ct c i.toNat := by rw [cS]; show _ + 0 = _; omega
      refine ⟨q, rfl, qD, ?_⟩
      unfold kbI
      rw [cS']
      rcases qK with z | ⟨z1, z2, z3⟩
      · exact Or.inl z
      · exact Or.inr ⟨z1, ⟨z2.1, by omega, z2.2.2⟩, ⟨z3.1, by omega, z3.2.2⟩⟩
    | true =>
      rw [e] at cS
      have cS' : f_ct c (i + 1).toNat = f_ct c i.toNat + 1 := cS
      show ∃ s', (if (1 : Int) = 0 then _ else _) = _ ∧ _
      rw [if_neg (by decide)]
      rcases qK with ⟨z1, z2⟩ | ⟨z1, z2, z3⟩
      · rw [if_pos z2]
        refine ⟨_, rfl, (qD.up ⟨rfl, Or.inl rfl⟩).up ⟨rfl, Or.inr rfl⟩, ?_⟩
        rw [pu_sl (k' := 1) (by decide), pu_eq, pu_eq]
        unfold kbI
        rw [cS']
        exact Or.inr ⟨by omega, ⟨i0, by omega, e, z1⟩, ⟨i0, by omega, e, rfl⟩⟩
      · rw [if_neg (by omega)]
        refine ⟨_, rfl, qD.up ⟨rfl, Or.inr rfl⟩, ?_⟩
        rw [pu_sl (k' := 1) (by decide), pu_eq]
        unfold kbI
        rw [cS']
        exact Or.inr ⟨by omega, ⟨z2.1, by omega, z2.2.2⟩, ⟨i0, by omega, e, rfl⟩⟩) 256 0 (mm_up s 76 1 (-1)) () (by decide) (by decide) ⟨(dif.rf _ s).up ⟨rfl, Or.inl rfl⟩, Or.inl ⟨rfl, pu_eq _ _ _ _⟩⟩
  refine ⟨s1, ?_, D, K⟩
  rw [r, e_X1_keepBounds_7, if_neg (by decide)]
end PC
/-! The tape's pairs -/
theorem pu_w8r {y : Int} (h0 : 0 ≤ y) (h1 : y ≤ 255) : mm_w8 y % 256 = y := by
  unfold mm_w8
  rw [Int.bmod_def]
  split <;> omega
theorem cl_get {h : mm_H} (hT : TA h) {i : Int} (i0 : 0 ≤ i) (i1 : i < h 1 1) (d : Nat) : mm_M mm_prog (d + 1) 82 [(18, 1), (0, i)] h = some (h 134 i, h) := by
  obtain ⟨t1, t2, t3⟩ := hT
  obtain ⟨a, b⟩ := t3 i i0 i1
  rw [e_X8_get, if_neg (by omega), if_pos i1, if_pos (by omega), if_pos (by omega), show (1 : Int) + 1 = 2 from rfl, pu_255, b, pu_w8r a.1 a.2]
/-- not a thing -/
def f_nth (V T : Int → Int) (j : Int) : Bool := !decide (0 ≤ T (2 * j) ∧ T (2 * j) < V 4)
/-- another rest -/
def f_nrs (V T : Int → Int) (m j : Int) : Bool := !decide (m % V (43 + T (2 * j)) = T (2 * j + 1))
def f_fit (V T : Int → Int) (L m : Int) : Bool := !sp_any (f_nrs V T m) (L / 2)
theorem sp_any_run2 {R : Int → Option mm_O} {h : mm_H} {c : Int → Bool} {N : Int} (hN : 0 ≤ N) (hs : ∀ i, 0 ≤ i → i < N → R i = bif c i then some (0, h) else R (i + 1)) (he : R N = some (1, h)) : R 0 = some (sp_b (!sp_any c N), h) := by
  rw [sp_find_run (r := fun _ => some (0, h)) hs N.toNat 0 (by omega) (by omega)]
  unfold sp_any
  cases sp_find c N.toNat 0 with
  | none => exact he
  | some j => rfl
section PC
variable {V T : Int → Int} {h : mm_H} {L : Int}
theorem cl_pairs (hT : TA h) (hV : pr_P h 15 V) (hL : h 1 1 = L) (d : Nat) : mm_M mm_prog (d + 2) 10 [(18, 1), (14, 15)] h = some (sp_b (decide (2 ≤ L ∧ L ≤ 16 ∧ L % 2 = 0) && !sp_any (f_nth V (h 134)) (L / 2)), h) := by
  have t2 := hT.2.1
  rw [e_X1_arePairs, hL]
  by_cases c1 : L < 2
  · rw [if_pos c1, decide_eq_false (by omega)]; rfl
  rw [if_neg c1]
  by_cases c2 : 16 < L
  · rw [if_pos c2, decide_eq_false (by omega)]; rfl
  rw [if_neg c2, if_neg (by decide), pu_rem (by omega) (by omega) (by decide) (by decide)]
  by_cases c3 : L % 2 = 0
  · rw [if_pos c3, decide_eq_true (by omega), Bool.true_and]
    refine sp_any_run2 (R := fun i => mm_R mm_prog (d + 1) T_X1_arePairs 30 [(18, 1), (14, 15), (0, 2 * i)] [] h) (N := L / 2) (by omega) (fun i i0 i1 => ?_) ?_
    · rw [e_X1_arePairs_30, hL, if_pos (by omega), cl_get hT (by omega) (by omega), Option.bind_some, pu_w (by omega) (by omega), show 2 * i + 2 = 2 * (i + 1) by omega]
      dsimp only
      rw [cl_has hV (by decide) (by decide), Option.bind_some]
      unfold f_nth
      rw [show (1 : Int) + 3 = 4 from rfl]
      cases decide (0 ≤ h 134 (2 * i) ∧ h 134 (2 * i) < V 4) <;> rfl
    · rw [e_X1_arePairs_30, hL, if_neg (by omega)]
  · rw [if_neg c3, decide_eq_false (by omega)]; rfl
theorem cl_rests (hT : TA h) (hV : pr_P h 15 V) (hW : pr_W V) (hL : h 1 1 = L) (l2 : L % 2 = 0) (np : sp_any (f_nth V (h 134)) (L / 2) = false) {m : Int} (m0 : 0 ≤ m) (m1 : m < 256) (d : Nat) : mm_M mm_prog (d + 2) 11 [(18, 1), (14, 15), (0, m)] h = some (sp_b (f_fit V (h 134) L m), h) := by
  have t2 := hT.2.1
  have w4 := hW.2.2.2.2.1
  rw [e_X1_leavesRests]
  have th : ∀ j, 0 ≤ j → j < L / 2 → 0 ≤ h 134 (2 * j) ∧ h 134 (2 * j) < V 4 := fun j j0 j1 => by
    by_cases z : 0 ≤ h 134 (2 * j) ∧ h 134 (2 * j) < V 4
    · exact z
    · have : sp_any (f_nth V (h 134)) (L / 2) = true := sp_any_iff.mpr ⟨j, j0, j1, by unfold f_nth; rw [decide_eq_false z]; rfl⟩
      rw [np] at this
      cases this
  refine sp_any_run2 (R := fun i => mm_R mm_prog (d + 1) T_X1_leavesRests 2 [(18, 1), (14, 15), (0, m), (0, 2 * i), if i = 0 then (9, 0) else (0, h 134 (2 * (i - 1)))] [] h) (N := L / 2) (by omega) (fun i i0 i1 => ?_) ?_
  · obtain ⟨a, b⟩ := th i i0 i1
    have g := hW.2.2.2.2.2.2.2.2.2 (h 134 (2 * i)) a b
    have eg : h (15 + 9) (h 134 (2 * i)) = V (43 + h 134 (2 * i)) := hV.2.2.2.2.2.2 _ a b
    rw [e_X1_leavesRests_2, hL, pu_w (x := 2 * i + 1) (by omega) (by omega), if_pos (by omega), cl_get hT (by omega) (by omega), Option.bind_some, pu_w (x := 2 * i + 2) (by omega) (by omega), show 2 * i + 2 = 2 * (i + 1) by omega]
    dsimp only
    rw [cl_has hV (by decide) (by decide), Option.bind_some, decide_eq_true (show 0 ≤ h 134 (2 * i) ∧ h 134 (2 * i) < V (1 + 3) from ⟨a, b⟩)]
    show (if (1 : Int) = 0 then _ else _) = _
    rw [if_neg (by decide), if_pos (by omega)]
    dsimp only
    rw [eg, cl_rem m0 (by omega) (by omega) (by omega), Option.bind_some]
    dsimp only
    rw [cl_get hT (by omega) (by omega), Option.bind_some, if_neg (show ¬ i + 1 = 0 by omega), show i + 1 - 1 = i by omega]
    dsimp only
    unfold f_nrs
    by_cases z : m % V (43 + h 134 (2 * i)) = h 134 (2 * i + 1)
    · rw [if_pos z, decide_eq_true z]; rfl
    · rw [if_neg z, decide_eq_false z]; rfl
  · rw [e_X1_leavesRests_2, hL, pu_w (by omega) (by omega), if_neg (by omega)]
end PC
