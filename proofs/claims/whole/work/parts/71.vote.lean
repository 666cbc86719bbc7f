/-! A vote -/
theorem pu_y7 : ∀ v : Nat, v < 128 → ∀ p : Nat, p < 7 → (v.testBit p = true → mm_or (v : Int) (mm_shl 1 (p : Int)) = (v : Int)) ∧ (v.testBit p = false → mm_and (v : Int) (mm_xor (mm_shl 1 (p : Int)) (-1)) = (v : Int)) ∧ ∀ q : Nat, q < 7 → ((mm_xor (v : Int) (mm_shl 1 (p : Int))).toNat.testBit q = if q = p then !v.testBit q else v.testBit q) := by decide +kernel
theorem pu_y8 {v p : Int} (hv : 0 ≤ v ∧ v < 128) (hp : 0 ≤ p ∧ p < 7) : (f_bit v p = true → mm_or v (mm_shl 1 p) = v) ∧ (f_bit v p = false → mm_and v (mm_xor (mm_shl 1 p) (-1)) = v) ∧ ∀ q, 0 ≤ q → q < 7 → f_bit (mm_xor v (mm_shl 1 p)) q = if q = p then !f_bit v q else f_bit v q := by
  obtain ⟨a, b, c⟩ := pu_y7 v.toNat (by omega) p.toNat (by omega)
  rw [show ((v.toNat : Nat) : Int) = v by omega, show ((p.toNat : Nat) : Int) = p by omega] at a b c
  refine ⟨a, b, fun q q0 q1 => ?_⟩
  have := c q.toNat (by omega)
  unfold f_bit
  rw [this]
  by_cases e : q = p
  · rw [if_pos e, if_pos (by omega)]
  · rw [if_neg e, if_neg (by omega)]
def f_near (V : Int → Int) (p q : Int) : Bool := decide ((f_pb V p 1 - f_pb V q 1 ≤ 1 ∧ f_pb V q 1 - f_pb V p 1 ≤ 1) ∨ f_pb V p 1 - f_pb V q 1 = V 0 - 1 ∨ f_pb V q 1 - f_pb V p 1 = V 0 - 1)
/-- by how many more are for the cure -/
def f_ld (V : Int → Int) (p set q acc : Int) : Int := if q = p then acc else bif f_near V p q then (bif f_bit set q then acc + 1 else acc - 1) else acc
def f_lead (V : Int → Int) (p set : Int) : Int := sp_it (f_ld V p set) (V 2).toNat 0 0
def f_for (V : Int → Int) (p set : Int) : Bool := if f_lead V p set = 0 then f_bit set p else decide (0 < f_lead V p set)
def f_vb (V : Int → Int) (p set : Int) : Int := bif f_out V p then set else if f_for V p set = f_bit set p then set else mm_xor set (mm_shl 1 p)
def f_rd (V : Int → Int) (set : Int) : Int := sp_it (f_vb V) (V 2).toNat 0 set
theorem f_ld_ok {V : Int → Int} {p set i acc : Int} (hb : -i ≤ acc ∧ acc ≤ i) : -(i + 1) ≤ f_ld V p set i acc ∧ f_ld V p set i acc ≤ i + 1 := by
  unfold f_ld
  by_cases c : i = p
  · rw [if_pos c]; omega
  · rw [if_neg c]
    cases f_near V p i with
    | false => rw [cond_false]; omega
    | true =>
      rw [cond_true]
      cases f_bit set i with
      | true => rw [cond_true]; omega
      | false => rw [cond_false]; omega
theorem f_lead_ok {V : Int → Int} {p set : Int} (h2 : 0 ≤ V 2) : -(V 2) ≤ f_lead V p set ∧ f_lead V p set ≤ V 2 := by
  obtain ⟨s', -, hh⟩ := sp_it_rel (σ := Unit) (β := Unit) (R := fun _ _ => ()) (f := f_ld V p set) (I := fun i _ x => -i ≤ x ∧ x ≤ i) (N := V 2) (fun i s x h0 h1 hI => ⟨(), rfl, f_ld_ok hI⟩) (V 2).toNat 0 () 0 (by omega) (by omega) (by omega)
  exact hh
theorem f_vb_ok {V : Int → Int} {p set : Int} (hs : 0 ≤ set ∧ set < 128) (hp : 0 ≤ p ∧ p < 7) : (0 ≤ f_vb V p set ∧ f_vb V p set < 128) ∧ (f_vb V p set = set ∨ f_vb V p set = mm_xor set (mm_shl 1 p)) := by
  unfold f_vb
  cases f_out V p with
  | true => exact ⟨hs, Or.inl rfl⟩
  | false =>
    rw [cond_false]
    by_cases c : f_for V p set = f_bit set p
    · rw [if_pos c]
      exact ⟨hs, Or.inl rfl⟩
    · rw [if_neg c]
      exact ⟨(pu_x8 hs hp).2.2, Or.inr rfl⟩
section PC
variable {V : Int → Int} {h : mm_H} {m pl : Int}
theorem cl_near (hP : pr_P h pl V) (hM : pr_M h m V) (hW : pr_W V) (hS : pr_S V) {p q : Int} (p0 : 0 ≤ p) (p1 : p < V 2) (q0 : 0 ≤ q) (q1 : q < V 2) (d : Nat) : mm_M mm_prog (d + 4) 45 [(12, m), (14, pl), (0, p), (0, q)] h = some (sp_b (f_near V p q), h) := by
  have a := f_pb_ok hW hS (k := 1) p0 p1
  have b := f_pb_ok hW hS (k := 1) q0 q1
  have w0 := hW.1
  rw [e_X2_willBeNear, cl_placeBehind hP hM hW hS p0 p1 (by decide), Option.bind_some]
  dsimp only
  rw [cl_placeBehind hP hM hW hS q0 q1 (by decide), Option.bind_some]
  simp only [hP.1]
  unfold f_near
  generalize f_pb V p 1 = x at *
  generalize f_pb V q 1 = y at *
  have g1 := pu_w (x := x - y) (by omega) (by omega)
  have g2 := pu_w (x := V 0 - 1) (by omega) (by omega)
  simp only [g1, g2]
  by_cases c : x - y < 0
  · rw [if_pos c, pu_w (by omega) (by omega)]
    by_cases c2 : 1 < -(x - y)
    · rw [if_pos c2]
      by_cases c3 : -(x - y) = V 0 - 1
      · rw [if_pos c3, decide_eq_true (by omega)]; rfl
      · rw [if_neg c3, decide_eq_false (by omega)]; rfl
    · rw [if_neg c2, decide_eq_true (by omega)]; rfl
  · rw [if_neg c, pu_w (by omega) (by omega)]
    by_cases c2 : 1 < x - y
    · rw [if_pos c2]
      by_cases c3 : x - y = V 0 - 1
      · rw [if_pos c3, decide_eq_true (by omega)]; rfl
      · rw [if_neg c3, decide_eq_false (by omega)]; rfl
    · rw [if_neg c2, decide_eq_true (by omega)]; rfl
theorem cl_vb (hP : pr_P h pl V) (hM : pr_M h m V) (hW : pr_W V) (hS : pr_S V) {p set : Int} (p0 : 0 ≤ p) (p1 : p < V 2) (hs : 0 ≤ set ∧ set < 128) (ho : f_out V p = false) (d : Nat) : mm_M mm_prog (d + 6) 44 [(12, m), (14, pl), (0, set), (0, p)] h = some (f_vb V p set, h) := by
  have w2 := hW.2.2.1
  have e2 : h (pl + 1) 1 = V 2 := hP.2.2.1 1 (by decide) (by decide)
  rw [e_X2_votesBehind]
  obtain ⟨a, r, ea, b1⟩ := sp_it_rel (R := fun i (s : Int) => mm_R mm_prog (d + 5) T_X2_votesBehind 6 [(12, m), (14, pl), (0, set), (0, p), (0, s), (0, i)] [] h) (f := f_ld V p set) (I := fun i s x => s = x ∧ -i ≤ x ∧ x ≤ i) (N := V 2) (fun i s x i0 i1 hI => by
    obtain ⟨rfl, hb⟩ := hI
    have ok := f_ld_ok (V := V) (p := p) (set := set) hb
    refine ⟨f_ld V p set i s, ?_, rfl, ok⟩
    rw [e_X2_votesBehind_6, e2, if_pos i1, pu_w (x := i + 1) (by omega) (by omega)]
    unfold f_ld
    by_cases c : i = p
    · rw [if_pos c, if_pos c]
    · rw [if_neg c, if_neg c, cl_near hP hM hW hS p0 p1 i0 i1, Option.bind_some]
      cases f_near V p i with
      | false => rfl
      | true =>
        show (if (1 : Int) = 0 then _ else _) = _
        rw [if_neg (by decide)]
        dsimp only
        rw [cl_hasBit hs.1 (by omega) i0 (by omega), Option.bind_some]
        cases f_bit set i with
        | false =>
          show (if (0 : Int) = 0 then _ else _) = _
          rw [if_pos rfl, pu_w (by omega) (by omega), show s + (-1) = s - 1 by omega]
          rfl
        | true =>
          show (if (1 : Int) = 0 then _ else _) = _
          rw [if_neg (by decide), pu_w (by omega) (by omega)]
          rfl) (V 2).toNat 0 0 0 (by omega) (by omega) ⟨rfl, by omega, by omega⟩
  change a = f_lead V p set at ea
  rw [r, e_X2_votesBehind_6, e2, if_neg (by omega), ea]
  unfold f_vb f_for
  rw [ho, cond_false]
  have x8 := pu_x8 hs (show 0 ≤ p ∧ p < 7 by omega)
  have y8 := pu_y8 hs (show 0 ≤ p ∧ p < 7 by omega)
  by_cases c : 0 < f_lead V p set
  · rw [if_pos c, if_neg (show ¬ f_lead V p set = 0 by omega), decide_eq_true c]
    cases e : f_bit set p with
    | true => rw [if_pos rfl, y8.1 e]
    | false => rw [if_neg (by decide), x8.1 e]
  · rw [if_neg c]
    by_cases c2 : f_lead V p set < 0
    · rw [if_pos c2, if_neg (show ¬ f_lead V p set = 0 by omega), decide_eq_false c]
      cases e : f_bit set p with
      | true => rw [if_neg (by decide), x8.2.1 e]
      | false => rw [if_pos rfl, y8.2.1 e]
    · rw [if_neg c2, if_pos (show f_lead V p set = 0 by omega), if_pos rfl]
theorem cl_round (hP : pr_P h pl V) (hM : pr_M h m V) (hW : pr_W V) (hS : pr_S V) {set : Int} (hs : 0 ≤ set ∧ set < 128) (d : Nat) : mm_M mm_prog (d + 7) 43 [(12, m), (14, pl), (0, set)] h = some (f_rd V set, h) ∧ 0 ≤ f_rd V set ∧ f_rd V set < 128 := by
  have w2 := hW.2.2.1
  have e2 : h (pl + 1) 1 = V 2 := hP.2.2.1 1 (by decide) (by decide)
  rw [e_X2_votesBehindRound]
  obtain ⟨a, r, ea, b1⟩ := sp_it_rel (R := fun i (s : Int) => mm_R mm_prog (d + 6) T_X2_votesBehindRound 5 [(12, m), (14, pl), (0, set), (0, s), (0, i)] [] h) (f := f_vb V) (I := fun i s x => s = x ∧ 0 ≤ x ∧ x < 128) (N := V 2) (fun i s x i0 i1 hI => by
    obtain ⟨rfl, hb⟩ := hI
    refine ⟨f_vb V i s, ?_, rfl, (f_vb_ok hb (by omega)).1⟩
    rw [e_X2_votesBehindRound_5, e2, if_pos i1, cl_isOut hM hS i0 (by omega), Option.bind_some, pu_w (x := i + 1) (by omega) (by omega)]
    cases o : f_out V i with
    | true =>
      have : f_vb V i s = s := by
        unfold f_vb
        rw [o]
        rfl
      rw [this]
      rfl
    | false =>
      show (if (0 : Int) = 0 then _ else _) = _
      rw [if_pos rfl]
      dsimp only
      rw [cl_vb hP hM hW hS i0 i1 hb o, Option.bind_some]) (V 2).toNat 0 set set (by omega) (by omega) ⟨rfl, hs⟩
  refine ⟨?_, b1⟩
  rw [r, e_X2_votesBehindRound_5, e2, if_neg (by omega), ea]
  rfl
end PC
section PR
variable {V : Int → Int} {h : mm_H}
theorem rf_near (hW : pr_W V) (hS : pr_S V) {p q : Int} (p0 : 0 ≤ p) (p1 : p < V 2) (q0 : 0 ≤ q) (q1 : q < V 2) (d : Nat) : mm_M mm_prog (d + 4) 246 [(21, 133), (0, p), (0, q)] (vs h V) = some (sp_b (f_near V p q), vs h V) := by
  have a := f_pb_ok hW hS (k := 1) p0 p1
  have b := f_pb_ok hW hS (k := 1) q0 q1
  have w0 := hW.1
  rw [e_X12_areNear, rf_placeBehind hW hS p0 p1 (by decide), Option.bind_some]
  dsimp only
  rw [rf_placeBehind hW hS q0 q1 (by decide), Option.bind_some]
  dsimp only
  rw [r135]
  unfold f_near
  generalize f_pb V p 1 = x at *
  generalize f_pb V q 1 = y at *
  rw [pu_w (x := x - y) (by omega) (by omega), e_X12_size]
  by_cases c : x - y < 0
  · rw [if_pos c, pu_w (by omega) (by omega), Option.bind_some]
    dsimp only
    have g2 := pu_w (x := V 0 - 1) (by omega) (by omega)
    simp only [vs_at, g2]
    by_cases c2 : -(x - y) < 2
    · rw [if_pos c2, decide_eq_true (by omega)]; rfl
    · rw [if_neg c2]
      by_cases c3 : -(x - y) = V 0 - 1
      · rw [if_pos c3, decide_eq_true (by omega)]; rfl
      · rw [if_neg c3, decide_eq_false (by omega)]; rfl
  · rw [if_neg c, Option.bind_some]
    dsimp only
    have g2 := pu_w (x := V 0 - 1) (by omega) (by omega)
    simp only [vs_at, g2]
    by_cases c2 : x - y < 2
    · rw [if_pos c2, decide_eq_true (by omega)]; rfl
    · rw [if_neg c2]
      by_cases c3 : x - y = V 0 - 1
      · rw [if_pos c3, decide_eq_true (by omega)]; rfl
      · rw [if_neg c3, decide_eq_false (by omega)]; rfl
theorem rf_for (hW : pr_W V) (hS : pr_S V) {p set : Int} (p0 : 0 ≤ p) (p1 : p < V 2) (hs : 0 ≤ set ∧ set < 128) (d : Nat) : mm_M mm_prog (d + 6) 247 [(21, 133), (0, p), (0, set)] (vs h V) = some (sp_b (f_for V p set), vs h V) := by
  have w2 := hW.2.2.1
  rw [e_X12_isFor]
  obtain ⟨a, r, ea, b1⟩ := sp_it_rel (R := fun i (s : Int) => mm_R mm_prog (d + 5) T_X12_isFor 5 [(21, 133), (0, p), (0, set), (0, s), (0, i)] [] (vs h V)) (f := f_ld V p set) (I := fun i s x => s = x ∧ -i ≤ x ∧ x ≤ i) (N := V 2) (fun i s x i0 i1 hI => by
    obtain ⟨rfl, hb⟩ := hI
    have ok := f_ld_ok (V := V) (p := p) (set := set) hb
    refine ⟨f_ld V p set i s, ?_, rfl, ok⟩
    rw [e_X12_isFor_5, r135, vs_at, if_pos i1, pu_w (x := i + 1) (by omega) (by omega)]
    unfold f_ld
    by_cases c : i = p
    · rw [if_pos c, if_pos c]
    · rw [if_neg c, if_neg c, rf_near hW hS p0 p1 i0 i1, Option.bind_some]
      cases f_near V p i with
      | false => rfl
      | true =>
        show (if (1 : Int) = 0 then _ else _) = _
        rw [if_neg (by decide)]
        dsimp only
        rw [rf_hasb hs.1 (by omega) i0 (by omega), Option.bind_some]
        cases f_bit set i with
        | false =>
          show (if (0 : Int) = 0 then _ else _) = _
          rw [if_pos rfl, pu_w (by omega) (by omega), show s + (-1) = s - 1 by omega]
          rfl
        | true =>
          show (if (1 : Int) = 0 then _ else _) = _
          rw [if_neg (by decide), pu_w (by omega) (by omega)]
          rfl) (V 2).toNat 0 0 0 (by omega) (by omega) ⟨rfl, by omega, by omega⟩
  change a = f_lead V p set at ea
  rw [r, e_X12_isFor_5, r135, vs_at, if_neg (by omega), ea]
  unfold f_for
  by_cases c : f_lead V p set = 0
  · rw [if_pos c, if_pos c, rf_hasb hs.1 (by omega) p0 (by omega), Option.bind_some]
    exact if_pos (sp_b01 _)
  · rw [if_neg c, if_neg c]
    by_cases c2 : 0 < f_lead V p set
    · rw [if_pos c2, decide_eq_true c2]; rfl
    · rw [if_neg c2, decide_eq_false c2]; rfl
theorem sp_b_inj {a b : Bool} : (sp_b a = sp_b b) = (a = b) := by cases a <;> cases b <;> simp [sp_b]
/-- whether any changed so far -/
def vtI (set0 i : Int) (any set : Int) : Prop := (0 ≤ set ∧ set < 128) ∧ ((any = 0 ∧ set = set0) ∨ (any = 1 ∧ ∃ q, 0 ≤ q ∧ q < i ∧ f_bit set q ≠ f_bit set0 q)) ∧ ∀ q, i ≤ q → q < 7 → f_bit set q = f_bit set0 q
theorem rf_round (hW : pr_W V) (hS : pr_S V) {set rds : Int} (hs : 0 ≤ set ∧ set < 128) (d : Nat) : ∃ any, mm_R mm_prog (d + 6) T_X12_vote 35 [(21, 133), (0, set), (0, rds), (0, 0), (0, 0)] [] (vs h V) = mm_R mm_prog (d + 6) T_X12_vote 17 [(21, 133), (0, f_rd V set), (0, rds), (0, any), (0, V 2)] [] (vs h V) ∧ ((any = 0 ∧ f_rd V set = set) ∨ (any = 1 ∧ f_rd V set ≠ set)) := by
  have w2 := hW.2.2.1
  obtain ⟨⟨a, any⟩, r, ea, b1⟩ := sp_it_rel (R := fun i (s : Int × Int) => mm_R mm_prog (d + 6) T_X12_vote 35 [(21, 133), (0, s.1), (0, rds), (0, s.2), (0, i)] [] (vs h V)) (f := f_vb V) (I := fun i s x => s.1 = x ∧ vtI set i s.2 x) (N := V 2) (fun i s x i0 i1 hI => by
    obtain ⟨s, any⟩ := s
    obtain ⟨e, hv⟩ := hI
    dsimp only at e hv ⊢
    subst e
    obtain ⟨v1, v2, v3⟩ := hv
    rw [e_X12_vote_35, r135, vs_at, if_pos i1, rf_isOut hS i0 (by omega), Option.bind_some, pu_w (x := i + 1) (by omega) (by omega)]
    have same : f_vb V i s = s → vtI set (i + 1) any (f_vb V i s) := fun e => by
      rw [e]
      refine ⟨v1, ?_, fun q q0 q1 => v3 q (by omega) q1⟩
      rcases v2 with v2 | ⟨v2, q, q0, q1, q2⟩
      · exact Or.inl v2
      · exact Or.inr ⟨v2, q, q0, by omega, q2⟩
    cases o : f_out V i with
    | true =>
      have e : f_vb V i s = s := by
        unfold f_vb
        rw [o]
        rfl
      exact ⟨(s, any), rfl, e.symm, same e⟩
    | false =>
      show ∃ s', (if (0 : Int) = 0 then _ else _) = _ ∧ _
      rw [if_pos rfl]
      dsimp only
      rw [rf_for hW hS i0 i1 v1, Option.bind_some]
      dsimp only
      rw [rf_hasb v1.1 (by omega) i0 (by omega), Option.bind_some]
      dsimp only
      by_cases c : f_for V i s = f_bit s i
      · have e : f_vb V i s = s := by
          unfold f_vb
          rw [o, cond_false, if_pos c]
        rw [if_pos (by rw [c])]
        exact ⟨(s, any), rfl, e.symm, same e⟩
      · have e : f_vb V i s = mm_xor s (mm_shl 1 i) := by
          unfold f_vb
          rw [o, cond_false, if_neg c]
        rw [if_neg (by rw [sp_b_inj]; exact c)]
        have x8 := (pu_x8 v1 (show 0 ≤ i ∧ i < 7 by omega)).2.2
        have y8 := (pu_y8 v1 (show 0 ≤ i ∧ i < 7 by omega)).2.2
        refine ⟨(mm_xor s (mm_shl 1 i), 1), rfl, e.symm, ?_⟩
        rw [e]
        refine ⟨x8, Or.inr ⟨rfl, i, i0, by omega, ?_⟩, fun q q0 q1 => ?_⟩
        · rw [y8 i i0 (by omega), if_pos rfl, v3 i (by omega) (by omega)]
          cases f_bit set i <;> decide
        · rw [y8 q (by omega) q1, if_neg (by omega)]
          exact v3 q (by omega) q1) (V 2).toNat 0 (set, 0) set (by omega) (by omega) ⟨rfl, hs, Or.inl ⟨rfl, rfl⟩, fun _ _ _ => rfl⟩
  dsimp only at r ea b1
  change a = f_rd V set at ea
  change vtI set (V 2) any (f_rd V set) at b1
  refine ⟨any, ?_, ?_⟩
  · rw [r, e_X12_vote_35, r135, vs_at, if_neg (by omega), ea]
  · rcases b1.2.1 with q | ⟨q, k, k0, k1, k2⟩
    · exact Or.inl q
    · exact Or.inr ⟨q, fun e => k2 (by rw [e])⟩
end PR
def f_vt (V : Int → Int) : Nat → Int → Int → Int × Int
  | 0, r, v => (r, f_rd V v)
  | n + 1, r, v => if f_rd V v = v then (r, v) else f_vt V n (r + 1) (f_rd V v)
theorem cl_vote {V : Int → Int} (hW : pr_W V) (hS : pr_S V) (d : Nat) : ∀ (n : Nat) (r : Int) (h : mm_H) (u : mm_V), pr_P h 15 V → pr_M h 25 V → (0 ≤ h 0 14 ∧ h 0 14 < 128) → 1 ≤ r → r + n = 10 → mm_R mm_prog (d + 7) T_X11_vote 16 [(20, 0), (0, r), u] [] h = some ((f_vt V n r (h 0 14)).1, mm_up h 0 14 (f_vt V n r (h 0 14)).2) := by
  intro n
  induction n with
  | zero =>
    intro r h u hP hM hv r1 rn
    obtain ⟨e, -⟩ := cl_round hP hM hW hS hv d
    rw [e_X11_vote_16, if_neg (by omega)]
    simp only [n15, n25]
    rw [e, Option.bind_some, show r = 10 by omega]
    rfl
  | succ n ih =>
    intro r h u hP hM hv r1 rn
    obtain ⟨e, b⟩ := cl_round hP hM hW hS hv d
    rw [e_X11_vote_16, if_pos (by omega)]
    simp only [n15, n25]
    rw [e, Option.bind_some]
    dsimp only
    rw [f_vt]
    by_cases c : f_rd V (h 0 14) = h 0 14
    · rw [if_pos c, if_pos c]
      congr 2
      funext o k
      unfold mm_up
      by_cases z : o = 0 ∧ k = 14
      · rw [if_pos z, z.1, z.2]
      · rw [if_neg z]
    · rw [if_neg c, if_neg c, pu_w (by omega) (by omega), ih (r + 1) _ _ (hP.ob (fun o h0 h1 _ k => pu_ob (by omega))) (hM.ob (fun o h0 h1 k => pu_ob (by omega))) (by rw [pu_eq]; exact b) (by omega) (by omega), pu_eq, up_up]
theorem rf_vote {V : Int → Int} {h : mm_H} (hW : pr_W V) (hS : pr_S V) (d : Nat) : ∀ (n : Nat) (r set : Int) (u : mm_V), (0 ≤ set ∧ set < 128) → (0 ≤ f_rd V set → f_rd V set < 128 → True) → 1 ≤ r → r + n = 10 → (∀ s, 0 ≤ s ∧ s < 128 → 0 ≤ f_rd V s ∧ f_rd V s < 128) → mm_R mm_prog (d + 6) T_X12_vote 17 [(21, 133), (0, set), (0, r - 1), (0, 1), u] [] (vs h V) = some ((f_vt V n r set).1, mm_up (vs h V) 133 34 (f_vt V n r set).2) := by
  intro n
  induction n with
  | zero =>
    intro r set u hs _ r1 rn hb
    obtain ⟨any, e, q⟩ := rf_round (h := h) (rds := r) hW hS hs d
    rw [e_X12_vote_17, if_neg (by decide), if_pos (by omega), pu_w (by omega) (by omega), show r - 1 + 1 = r by omega, e, e_X12_vote_17, if_neg (show ¬ r < 10 by omega)]
    rw [ite_self]
    rfl
  | succ n ih =>
    intro r set u hs _ r1 rn hb
    obtain ⟨any, e, q⟩ := rf_round (h := h) (rds := r) hW hS hs d
    rw [e_X12_vote_17, if_neg (by decide), if_pos (by omega), pu_w (by omega) (by omega), show r - 1 + 1 = r by omega, e, f_vt]
    rcases q with ⟨rfl, q⟩ | ⟨rfl, q⟩
    · rw [e_X12_vote_17, if_pos rfl, if_pos q, q]
    · rw [if_neg q]
      have := ih (r + 1) (f_rd V set) (0, V 2) (hb set hs) (fun _ _ => trivial) (by omega) (by omega) hb
      rw [show r + 1 - 1 = r by omega] at this
      exact this
/-- what a vote may change -/
def q_vo (o k : Int) : Prop := (o = 0 ∧ k = 14) ∨ (o = 133 ∧ (k = 0 ∨ k = 34))
theorem k_vote : Cal 132 248 [] := by
  intro d h hI
  have b53 := hI.S.2.2.2.2.2.1
  have m5 := hI.M.2.2.2.2.2.1
  obtain ⟨g, hg⟩ : ∃ g, g = mm_up h 0 14 (h 135 53) := ⟨_, rfl⟩
  have gP : pr_P g 15 (h 135) := by rw [hg]; exact hI.P.ob (fun o h0 h1 _ k => pu_ob (by omega))
  have gM : pr_M g 25 (h 135) := by rw [hg]; exact hI.M.ob (fun o h0 h1 k => pu_ob (by omega))
  have g14 : g 0 14 = h 135 53 := by rw [hg, pu_eq]
  obtain ⟨x, hx⟩ : ∃ x, x = f_vt (h 135) 9 1 (h 135 53) := ⟨_, rfl⟩
  have ec := cl_vote hI.W hI.S (d + 92) 9 1 g (9, 0) gP gM (by rw [g14]; exact b53) (by decide) (by decide)
  rw [g14, ← hx] at ec
  obtain ⟨h1, e1⟩ : ∃ h1, h1 = mm_up g 0 14 x.2 := ⟨_, rfl⟩
  have er : h1 135 = h 135 := by
    rw [e1, hg]
    exact funext fun k => (pu_ob (by decide)).trans (pu_ob (by decide))
  have hb : ∀ s, 0 ≤ s ∧ s < 128 → 0 ≤ f_rd (h 135) s ∧ f_rd (h 135) s < 128 := fun s hs => (cl_round hI.P hI.M hI.W hI.S hs 0).2
  have ef := rf_vote (h := mm_up h1 133 0 0) hI.W hI.S (d + 93) 9 1 (h 135 53) (9, 0) b53 (fun _ _ => trivial) (by decide) (by decide) hb
  rw [th_vs er, ← hx] at ef
  have E : ∀ o k, ¬ q_vo o k → mm_up (mm_up h1 133 0 0) 133 34 x.2 o k = h o k := fun o k q => by
    unfold q_vo at q
    rw [e1, hg]
    unfold mm_up
    rw [if_neg (by omega), if_neg (by omega), if_neg (by omega), if_neg (by omega)]
  obtain ⟨c1, c2, c3, c4, c5, c6, c7, c8, c9⟩ := (Inv_iff.mp hI).2.2
  refine ⟨x.1, h1, mm_up (mm_up h1 133 0 0) 133 34 x.2, ?_, ?_, ?_⟩
  · rw [e_X11_vote]
    simp only [n25]
    rw [m5, ← hg, ec, e1]
  · rw [e_X12_vote, r135, th_row, er]
    exact ef
  · have E' := E
    unfold q_vo at E'
    refine hI.gen (ch := q_vo) E (fun o k q z => by unfold q_img at q; unfold q_vo at z; omega) (fun o k q z => by unfold q_town at q; unfold q_vo at z; omega) (fun o k q z => by unfold q_past at q; unfold q_vo at z; omega) (c3.dif (ch := q_vo) E (fun o k q z => by unfold q_vo at z; omega)) (c4.dif (ch := q_vo) E (fun o k q z => by unfold q_vo at z; omega)) ?_ (c6.dif (ch := q_vo) E (fun o k q z => by unfold q_vo at z; omega)) (c7.dif (ch := q_vo) E (fun o k q z => by unfold q_vo at z; omega)) (by rw [E' 0 13 (by omega), E' 133 10 (by omega)]; exact c8) (c9.dif (ch := q_vo) E (fun o k q z => by unfold q_vo at z; omega))
    rw [pu_eq, pu_ob (by decide), pu_ob (by decide), e1, pu_eq]
