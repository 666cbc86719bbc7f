/-! Till a work is done, till a place is free -/
/-- the first of n seconds ahead at which it is so, counted from c -/
def f_till (q : (Int → Int) → Bool) : Nat → (Int → Int) → Int → Option Int
  | 0, V, c => bif q V then some c else none
  | n + 1, V, c => bif q V then some c else f_till q n (f_sec V) (c + 1)
def f_dn (w : Int) (V : Int → Int) : Bool := decide (V (68 + w) = 0)
def f_fr (p : Int) (V : Int → Int) : Bool := !f_crowd V p
theorem f_till_ge {q : (Int → Int) → Bool} : ∀ {n : Nat} {V : Int → Int} {c k : Int}, f_till q n V c = some k → c ≤ k ∧ k ≤ c + n
  | 0, V, c, k, h => by
    rw [f_till] at h
    cases e : q V with
    | true => rw [e] at h; cases h; omega
    | false => rw [e] at h; cases h
  | n + 1, V, c, k, h => by
    rw [f_till] at h
    cases e : q V with
    | true => rw [e] at h; cases h; omega
    | false =>
      rw [e, cond_false] at h
      have := f_till_ge h
      omega
theorem f_till_sh {q : (Int → Int) → Bool} : ∀ (n : Nat) (V : Int → Int) (c a : Int), f_till q n V (c + a) = (f_till q n V c).map (· + a)
  | 0, V, c, a => by
    rw [f_till, f_till]
    cases q V <;> rfl
  | n + 1, V, c, a => by
    rw [f_till, f_till]
    cases q V with
    | true => rfl
    | false =>
      rw [cond_false, cond_false, show c + a + 1 = (c + 1) + a by omega]
      exact f_till_sh n (f_sec V) (c + 1) a
/-- nothing is done while all stands -/
theorem f_till_st {w : Int} : ∀ (n : Nat) (V : Int → Int) (c : Int), V 51 = 1 → V (68 + w) ≠ 0 → 0 ≤ w → f_till (f_dn w) n V c = none
  | 0, V, c, h1, h2, _ => by
    rw [f_till]
    unfold f_dn
    rw [decide_eq_false h2]
    rfl
  | n + 1, V, c, h1, h2, h3 => by
    rw [f_till]
    have e : f_dn w V = false := decide_eq_false h2
    rw [e, cond_false]
    have es : f_sec V = vu V 48 (V 48 + 1) := by
      unfold f_sec
      rw [if_neg (by omega)]
    rw [es]
    exact f_till_st n _ (c + 1) (by rw [vu_ne (by omega)]; exact h1) (by rw [vu_ne (by omega)]; exact h2) h3
theorem f_sec_53 {V : Int → Int} (hW : pr_W V) (hT : pr_T V) : f_sec V 53 = V 53 := by
  unfold f_sec
  by_cases c : V 51 = 0
  · rw [if_pos c]
    by_cases c2 : V 50 - 1 = 0
    · obtain ⟨W1, S1, s1⟩ := f_t50 hW hT
      rw [if_pos c2, vu_ne (by omega), (f_beat_at W1 S1 s1).1 53 (by omega), vu_ne (by omega)]
    · rw [if_neg c2, vu_ne (by omega), vu_ne (by omega)]
  · rw [if_neg c, vu_ne (by omega)]
section PC
variable {V : Int → Int} {h : mm_H} {m pl : Int}
theorem cl_tillDone_8 (hP : pr_P h pl V) (hW : pr_W V) {w : Int} (w0 : 0 ≤ w) (w1 : w < V 3) (hj : pl + 9 < m ∨ m + 3 < pl) (d : Nat) {most : Int} (hm : most = 600 - V 48) (hb : 0 ≤ V 48) : ∀ (n : Nat) (i : Int) (s : mm_H) (x : Int → Int), 0 ≤ i → i + n = most → pr_M s m x → fr m h s → scI V i x → ∃ h', mm_R mm_prog (d + 4) T_X2_secondsTillDone 8 [(12, m), (14, pl), (0, w), (0, most), (0, i)] [] s = some ((f_till (f_dn w) n x i).getD (-1), h') ∧ fr m h h'
  | 0, i, s, x, i0, hi, sM, sF, sI => by
    have x3 : x 3 = V 3 := sI.2.1 3 (by omega)
    rw [e_X2_secondsTillDone_8, if_neg (by omega), cl_isDone sM (sI.2.1.W hW) sI.1.1 w0 (by omega), Option.bind_some, f_till]
    unfold f_dn
    cases decide (x (68 + w) = 0) with
    | true => exact ⟨s, by rw [show most = i by omega]; rfl, sF⟩
    | false => exact ⟨s, rfl, sF⟩
  | n + 1, i, s, x, i0, hi, sM, sF, sI => by
    have x3 : x 3 = V 3 := sI.2.1 3 (by omega)
    rw [e_X2_secondsTillDone_8, if_pos (by omega), cl_isDone sM (sI.2.1.W hW) sI.1.1 w0 (by omega), Option.bind_some, f_till]
    have ih := fun s' x' => cl_tillDone_8 hP hW w0 w1 hj d hm hb n (i + 1) s' x' (by omega) (by omega)
    unfold f_dn at ih ⊢
    cases decide (x (68 + w) = 0) with
    | true => exact ⟨s, rfl, sF⟩
    | false =>
      have e48 := sI.2.2
      obtain ⟨s', e, M', F'⟩ := cl_sec (sI.2.1.P hW (hP.fr sF hj)) sM (sI.2.1.W hW) sI.1 (by omega) hj d
      show ∃ h', (if (0 : Int) = 0 then _ else _) = _ ∧ _
      dsimp only
      rw [if_pos rfl, e, Option.bind_some, pu_w (by omega) (by omega)]
      exact ih s' (f_sec x) M' (sF.tr F') (sI.step hW (by omega))
theorem cl_tillDone (hP : pr_P h pl V) (hM : pr_M h m V) (hW : pr_W V) (hT : pr_T V) {w : Int} (w0 : 0 ≤ w) (w1 : w < V 3) (hj : pl + 9 < m ∨ m + 3 < pl) (d : Nat) : ∃ h', mm_M mm_prog (d + 5) 36 [(12, m), (14, pl), (0, w)] h = some ((f_till (f_dn w) (600 - V 48).toNat V 0).getD (-1), h') ∧ fr m h h' := by
  have b := hT.1.1
  rw [e_X2_secondsTillDone, cl_left hM hT.1, Option.bind_some]
  exact cl_tillDone_8 hP hW w0 w1 hj d rfl b.1 (600 - V 48).toNat 0 h V (by omega) (by omega) hM (fr_rf m h) ⟨hT, hd.rf V, by omega⟩
theorem cl_tillFree_8 (hP : pr_P h pl V) (hW : pr_W V) {p : Int} (w0 : 0 ≤ p) (w1 : p < V 2) (ho : f_out V p = true) (hj : pl + 9 < m ∨ m + 3 < pl) (d : Nat) {most : Int} (hm : most = 600 - V 48) (hb : 0 ≤ V 48) : ∀ (n : Nat) (i : Int) (s : mm_H) (x : Int → Int), 0 ≤ i → i + n = most → pr_M s m x → fr m h s → scI V i x → x 53 = V 53 → ∃ h', mm_R mm_prog (d + 4) T_X2_secondsTillFree 8 [(12, m), (14, pl), (0, p), (0, most), (0, i)] [] s = some ((f_till (f_fr p) n x i).getD (-1), h') ∧ fr m h h'
  | 0, i, s, x, i0, hi, sM, sF, sI, s53 => by
    have x2 : x 2 = V 2 := sI.2.1 2 (by omega)
    have b2 := hW.2.2.1
    have xo : f_out x p = true := by
      unfold f_out; rw [s53]; exact ho
    have ep := (sM.2.2.2.2.2.2.1 p w0 (by omega)).1
    rw [e_X2_secondsTillFree_8, if_neg (by omega), if_pos (by omega), ep, cl_walk (sI.2.1.P hW (hP.fr sF hj)) sM (sI.2.1.W hW) sI.1.1, Option.bind_some, f_till, ← f_crowd_walk xo]
    unfold f_fr
    cases f_crowd x p with
    | false => exact ⟨s, by rw [show most = i by omega]; rfl, sF⟩
    | true => exact ⟨s, rfl, sF⟩
  | n + 1, i, s, x, i0, hi, sM, sF, sI, s53 => by
    have x2 : x 2 = V 2 := sI.2.1 2 (by omega)
    have b2 := hW.2.2.1
    have xo : f_out x p = true := by
      unfold f_out; rw [s53]; exact ho
    have ep := (sM.2.2.2.2.2.2.1 p w0 (by omega)).1
    rw [e_X2_secondsTillFree_8, if_pos (by omega), if_pos (by omega), ep, cl_walk (sI.2.1.P hW (hP.fr sF hj)) sM (sI.2.1.W hW) sI.1.1, Option.bind_some, f_till, ← f_crowd_walk xo]
    have ih := fun s' x' => cl_tillFree_8 hP hW w0 w1 ho hj d hm hb n (i + 1) s' x' (by omega) (by omega)
    unfold f_fr at ih ⊢
    cases f_crowd x p with
    | false => exact ⟨s, rfl, sF⟩
    | true =>
      have e48 := sI.2.2
      obtain ⟨s', e, M', F'⟩ := cl_sec (sI.2.1.P hW (hP.fr sF hj)) sM (sI.2.1.W hW) sI.1 (by omega) hj d
      show ∃ h', (if (1 : Int) = 0 then _ else _) = _ ∧ _
      dsimp only
      rw [if_neg (by decide), e, Option.bind_some, pu_w (by omega) (by omega)]
      refine ih s' (f_sec x) M' (sF.tr F') (sI.step hW (by omega)) ?_
      rw [← s53]
      exact f_sec_53 (sI.2.1.W hW) sI.1
theorem cl_tillFree (hP : pr_P h pl V) (hM : pr_M h m V) (hW : pr_W V) (hT : pr_T V) {p : Int} (w0 : 0 ≤ p) (w1 : p < V 2) (ho : f_out V p = true) (hj : pl + 9 < m ∨ m + 3 < pl) (d : Nat) : ∃ h', mm_M mm_prog (d + 5) 37 [(12, m), (14, pl), (0, p)] h = some ((f_till (f_fr p) (600 - V 48).toNat V 0).getD (-1), h') ∧ fr m h h' := by
  have b := hT.1.1
  rw [e_X2_secondsTillFree, cl_left hM hT.1, Option.bind_some]
  exact cl_tillFree_8 hP hW w0 w1 ho hj d rfl b.1 (600 - V 48).toNat 0 h V (by omega) (by omega) hM (fr_rf m h) ⟨hT, hd.rf V, by omega⟩ rfl
end PC
section PR
variable {V : Int → Int} {h : mm_H}
/-- the reference's count of seconds: NEVER, if none -/
def f_nv (o : Option Int) : Int := o.getD 100000
theorem rf_doneBy_20 (hW : pr_W V) {w c : Int} (w0 : 0 ≤ w) (w1 : w < V 3) (d : Nat) (hb : 0 ≤ V 48) : ∀ (n : Nat) (i : Int) (x : Int → Int), 0 ≤ i → V 48 + i + n = 600 → scI V i x → mm_R mm_prog (d + 4) T_X12_doneBy 20 [(21, 133), (0, w), (0, c), (9, 0)] [] (vs (asd h V 26) x) = some (f_nv (f_till (f_dn w) n x i), vs (asd h V 26) V) := by
  have b3 := hW.2.2.2.1
  intro n
  induction n with
  | zero =>
    intro i x i0 hi sI
    have e48 := sI.2.2
    have bl := sI.1.1.2.2.2.2.2.2.2 w w0 (by have := sI.2.1 3 (by omega); omega)
    rw [e_X12_doneBy_20, r135, pu_w (x := 68 + w) (by omega) (by omega), if_pos (by omega)]
    simp only [vs_at]
    rw [if_neg (show ¬ x 48 < 600 by omega)]
    simp only [rf_takeBack sI.2.1, Option.bind_some, vs_at]
    rw [f_till]
    unfold f_dn
    by_cases q : x (68 + w) = 0
    · rw [if_neg (by omega), if_pos (by omega), if_pos q, if_neg (by omega), decide_eq_true q, pu_w (by omega) (by omega), show x 48 - V 48 = i by omega]; rfl
    · rw [if_pos (by omega), if_pos (by omega), if_neg q, if_pos trivial, decide_eq_false q]; rfl
  | succ n ih =>
    intro i x i0 hi sI
    have e48 := sI.2.2
    have bl := sI.1.1.2.2.2.2.2.2.2 w w0 (by have := sI.2.1 3 (by omega); omega)
    have b51 := sI.1.1.2.2.2.1
    rw [e_X12_doneBy_20, r135, pu_w (x := 68 + w) (by omega) (by omega), if_pos (by omega)]
    simp only [vs_at]
    rw [if_pos (show x 48 < 600 by omega)]
    simp only [rf_takeBack sI.2.1, rf_stands sI.1.1, Option.bind_some, vs_at]
    rw [f_till]
    by_cases q : x (68 + w) = 0
    · rw [if_neg (by omega), if_pos (by omega), if_pos q, if_neg (by omega), show f_dn w x = true from decide_eq_true q, pu_w (by omega) (by omega), show x 48 - V 48 = i by omega]; rfl
    · rw [if_pos (by omega), show f_dn w x = false from decide_eq_false q, cond_false]
      by_cases c1 : x 51 = 0
      · rw [if_pos c1, rf_sec (sI.2.1.W hW) sI.1 (by omega), Option.bind_some]
        exact ih (i + 1) (f_sec x) (by omega) (by omega) (sI.step hW (by omega))
      · have es : f_sec x = vu x 48 (x 48 + 1) := by
          unfold f_sec
          rw [if_neg c1]
        rw [if_neg c1, if_pos (by omega), if_neg q, if_pos trivial, es, f_till_st n _ _ (by rw [vu_ne (by omega)]; omega) (by rw [vu_ne (by omega)]; exact q) w0]; rfl
/-- the vector when c beats -/
def f_by (V : Int → Int) (c : Int) : Int → Int := if c = V 49 then V else vu (vu V 49 c) 50 (min (V 50) (V (5 + c)))
theorem f_by_ok (hW : pr_W V) (hT : pr_T V) {c : Int} (c0 : 0 ≤ c) (c1 : c ≤ V 1) : scI V 0 (f_by V c) := by
  unfold f_by
  by_cases e : c = V 49
  · rw [if_pos e]
    exact ⟨hT, hd.rf V, by omega⟩
  · rw [if_neg e]
    have b50 := hT.1.2.2.1
    have t50 := hT.2.1
    have bg2 := hW.2.2.2.2.2.1 c c0 c1
    exact ⟨(hT.v49 hW ⟨c0, c1⟩).v50 (hW.v1 (by omega)) (by omega), ((hd.rf V).v1 (by omega)).v1 (by omega), by rw [vu_ne (by omega), vu_ne (by omega)]; omega⟩
theorem rf_doneBy (hW : pr_W V) (hT : pr_T V) {w c : Int} (w0 : 0 ≤ w) (w1 : w < V 3) (c0 : 0 ≤ c) (c1 : c ≤ V 1) (d : Nat) : mm_M mm_prog (d + 5) 231 [(21, 133), (0, w), (0, c)] (vs h V) = some (f_nv (f_till (f_dn w) (600 - V 48).toNat (f_by V c) 0), vs (asd h V 26) V) := by
  have b := hT.1.1
  have I0 := f_by_ok hW hT c0 c1
  rw [e_X12_doneBy, rf_layAside, Option.bind_some, r135]
  simp only [vs_at]
  unfold f_by at *
  by_cases e : c = V 49
  · rw [if_pos e] at I0 ⊢
    rw [if_pos e]
    exact rf_doneBy_20 hW w0 w1 d b.1 _ 0 V (by omega) (by omega) I0
  · rw [if_neg e] at I0 ⊢
    rw [if_neg e, rf_relieved hW ⟨c0, c1⟩, Option.bind_some]
    exact rf_doneBy_20 hW w0 w1 d b.1 _ 0 _ (by omega) (by omega) I0
end PR
