/-! A beat, a second -/
section
variable {V : Int → Int}
/-- one person's step -/
def f_mv (p : Int) (V : Int → Int) : Int → Int := bif f_out V p then V else vu (vu V (54 + p) ((V (54 + p) + V (17 + p)) % V 0)) (61 + p) (V (61 + p) + V (17 + p))
/-- what holds when those below i have made their steps -/
def mvI (V0 : Int → Int) (i : Int) (V : Int → Int) : Prop := (∀ j, (j < 54 ∨ 68 ≤ j) → V j = V0 j) ∧ (∀ p, i ≤ p → p < V0 2 → V (54 + p) = V0 (54 + p) ∧ V (61 + p) = V0 (61 + p)) ∧ (∀ p, 0 ≤ p → p < i → p < V0 2 → (0 ≤ V (54 + p) ∧ V (54 + p) < V0 0) ∧ 0 ≤ V (61 + p) ∧ V (61 + p) ≤ V0 (61 + p) + 3)
theorem mvI.out {V0 : Int → Int} {i p : Int} (hI : mvI V0 i V) : f_out V p = f_out V0 p := by
  unfold f_out
  rw [hI.1 53 (by omega)]
theorem mvI.W {V0 : Int → Int} {i : Int} (hI : mvI V0 i V) (hW : pr_W V0) : pr_W V := by
  have e : ∀ j, j < 48 → V j = V0 j := fun j hj => hI.1 j (by omega)
  obtain ⟨a, b, c, d, f, g, i, j, l, m⟩ := hW
  unfold pr_W
  rw [e 0 (by omega), e 1 (by omega), e 2 (by omega), e 3 (by omega), e 4 (by omega), e 24 (by omega)]
  refine ⟨a, b, c, d, f, fun s h0 h1 => ?_, fun s h0 h1 => ?_, j, fun s h0 h1 => ?_, fun s h0 h1 => ?_⟩
  · rw [e _ (by omega)]; exact g s h0 h1
  · rw [e _ (by omega), e _ (by omega)]; exact i s h0 h1
  · rw [e _ (by omega), e _ (by omega), e _ (by omega)]; exact l s h0 h1
  · rw [e _ (by omega)]; exact m s h0 h1
/-- all between seconds but the steps -/
theorem mvI.S {V0 : Int → Int} {i : Int} (hI : mvI V0 i V) (hW : pr_W V0) (hS : pr_S V0) (hs : ∀ p, 0 ≤ p → p < V0 2 → V0 (61 + p) ≤ 3 * V0 52) : pr_S V := by
  obtain ⟨a, b, c, d, f, g, k, l⟩ := hS
  have w3 := hW.2.2.2.1
  unfold pr_S
  rw [hI.1 48 (by omega), hI.1 49 (by omega), hI.1 50 (by omega), hI.1 51 (by omega), hI.1 52 (by omega), hI.1 53 (by omega), hI.1 0 (by omega), hI.1 1 (by omega), hI.1 2 (by omega), hI.1 3 (by omega)]
  refine ⟨a, b, c, d, f, g, fun p h0 h1 => ?_, fun w h0 h1 => ?_⟩
  · by_cases e : p < i
    · have q := hI.2.2 p h0 e h1
      have := hs p h0 h1
      exact ⟨q.1, by omega, by omega⟩
    · have q := hI.2.1 p (by omega) h1
      rw [q.1, q.2]
      exact k p h0 h1
  · rw [hI.1 _ (by omega)]
    exact l w h0 h1
theorem mvI.step {V0 : Int → Int} {i : Int} (hW : pr_W V0) (hS : pr_S V0) (h0 : 0 ≤ i) (h1 : i < V0 2) (hI : mvI V0 i V) : mvI V0 (i + 1) (f_mv i V) := by
  have w2 := hW.2.2.1
  have w0 := hW.1
  have q := hI.2.1 i (by omega) h1
  have bs := hS.2.2.2.2.2.2.1 i h0 h1
  have bw := hW.2.2.2.2.2.2.1 i h0 h1
  have e17 : V (17 + i) = V0 (17 + i) := hI.1 _ (by omega)
  have e0 : V 0 = V0 0 := hI.1 _ (by omega)
  have eo : f_out V i = f_out V0 i := hI.out
  unfold f_mv
  cases f_out V i with
  | true =>
    refine ⟨hI.1, fun p h2 h3 => hI.2.1 p (by omega) h3, fun p h2 h3 h4 => ?_⟩
    rw [cond_true]
    by_cases e : p = i
    · rw [e, q.1, q.2]
      exact ⟨bs.1, by omega, by omega⟩
    · exact hI.2.2 p h2 (by omega) h4
  | false =>
    rw [cond_false]
    refine ⟨fun j hj => ?_, fun p h2 h3 => ?_, fun p h2 h3 h4 => ?_⟩
    · rw [vu_ne (by omega), vu_ne (by omega)]
      exact hI.1 j hj
    · rw [vu_ne (by omega), vu_ne (by omega), vu_ne (by omega), vu_ne (by omega)]
      exact hI.2.1 p (by omega) h3
    · by_cases e : p = i
      · rw [e, vu_eq, vu_ne (by omega), vu_eq, q.2, e17, e0]
        exact ⟨⟨Int.emod_nonneg _ (by omega), Int.emod_lt_of_pos _ (by omega)⟩, by omega, by omega⟩
      · rw [vu_ne (by omega), vu_ne (by omega), vu_ne (by omega), vu_ne (by omega)]
        exact hI.2.2 p h2 (by omega) h4
def f_mvs (V : Int → Int) : Int → Int := sp_it f_mv (V 2).toNat 0 V
theorem f_mvs_I (hW : pr_W V) (hS : pr_S V) : mvI V (V 2) (f_mvs V) := by
  have w2 := hW.2.2.1
  obtain ⟨s', -, hh⟩ := sp_it_rel (σ := Unit) (β := Unit) (R := fun _ _ => ()) (f := f_mv) (I := fun i _ x => mvI V i x) (N := V 2) (fun i s x h0 h1 hI => ⟨(), rfl, hI.step hW hS h0 h1⟩) (V 2).toNat 0 () V (by omega) (by omega) ⟨fun _ _ => rfl, fun _ _ _ => ⟨rfl, rfl⟩, fun p h0 h1 => by omega⟩
  exact hh
/-- one work's beat -/
def f_wk (op : Int) (w : Int) (V : Int → Int) : Int → Int := bif f_bit op w && f_walk V (V (25 + w)) then vu V (68 + w) (V (68 + w) - 1) else V
/-- a beat -/
def f_beat (V : Int → Int) : Int → Int :=
  let V1 := sp_it (f_wk (sp_open V)) (V 3).toNat 0 (f_mvs V)
  vu (vu V1 50 (V1 (5 + V1 49))) 52 (V1 52 + 1)
def wkI (V0 : Int → Int) (i : Int) (V : Int → Int) : Prop := (∀ j, (j < 68 ∨ 74 ≤ j) → V j = V0 j) ∧ (∀ w, i ≤ w → w < V0 3 → V (68 + w) = V0 (68 + w)) ∧ (∀ w, 0 ≤ w → w < i → w < V0 3 → 0 ≤ V (68 + w) ∧ V (68 + w) ≤ 30)
theorem wkI.W {V0 : Int → Int} {i : Int} (hI : wkI V0 i V) (hW : pr_W V0) : pr_W V := by
  have e : ∀ j, j < 48 → V j = V0 j := fun j hj => hI.1 j (by omega)
  obtain ⟨a, b, c, d, f, g, i, j, l, m⟩ := hW
  unfold pr_W
  rw [e 0 (by omega), e 1 (by omega), e 2 (by omega), e 3 (by omega), e 4 (by omega), e 24 (by omega)]
  refine ⟨a, b, c, d, f, fun s h0 h1 => ?_, fun s h0 h1 => ?_, j, fun s h0 h1 => ?_, fun s h0 h1 => ?_⟩
  · rw [e _ (by omega)]; exact g s h0 h1
  · rw [e _ (by omega), e _ (by omega)]; exact i s h0 h1
  · rw [e _ (by omega), e _ (by omega), e _ (by omega)]; exact l s h0 h1
  · rw [e _ (by omega)]; exact m s h0 h1
theorem wkI.S {V0 : Int → Int} {i : Int} (hI : wkI V0 i V) (hW : pr_W V0) (hS : pr_S V0) : pr_S V := by
  obtain ⟨a, b, c, d, f, g, k, l⟩ := hS
  have w2 := hW.2.2.1
  unfold pr_S
  rw [hI.1 48 (by omega), hI.1 49 (by omega), hI.1 50 (by omega), hI.1 51 (by omega), hI.1 52 (by omega), hI.1 53 (by omega), hI.1 0 (by omega), hI.1 1 (by omega), hI.1 2 (by omega), hI.1 3 (by omega)]
  refine ⟨a, b, c, d, f, g, fun p h0 h1 => ?_, fun w h0 h1 => ?_⟩
  · rw [hI.1 _ (by omega), hI.1 _ (by omega)]
    exact k p h0 h1
  · by_cases e : w < i
    · exact hI.2.2 w h0 e h1
    · rw [hI.2.1 w (by omega) h1]
      exact l w h0 h1
theorem wkI.walk {V0 : Int → Int} {i x : Int} (hI : wkI V0 i V) (hW : pr_W V0) : f_walk V x = f_walk V0 x := by
  have w2 := hW.2.2.1
  unfold f_walk
  rw [hI.1 2 (by omega)]
  apply sp_any_congr
  intro k h0 h1
  unfold f_out
  rw [hI.1 53 (by omega), hI.1 (54 + k) (by omega)]
theorem wkI.step {V0 : Int → Int} {i op : Int} (hW : pr_W V0) (hS : pr_S V0) (ho : ∀ w, 0 ≤ w → w < V0 3 → f_bit op w = true → V0 (68 + w) ≠ 0) (h0 : 0 ≤ i) (h1 : i < V0 3) (hI : wkI V0 i V) : wkI V0 (i + 1) (f_wk op i V) := by
  have w3 := hW.2.2.2.1
  have q := hI.2.1 i (by omega) h1
  have bs := hS.2.2.2.2.2.2.2 i h0 h1
  unfold f_wk
  cases e9 : (f_bit op i && f_walk V (V (25 + i))) with
  | false =>
    rw [cond_false]
    refine ⟨hI.1, fun p h2 h3 => hI.2.1 p (by omega) h3, fun p h2 h3 h4 => ?_⟩
    by_cases e : p = i
    · rw [e, q]
      exact bs
    · exact hI.2.2 p h2 (by omega) h4
  | true =>
    rw [cond_true]
    rw [Bool.and_eq_true] at e9
    have nz := ho i h0 h1 e9.1
    refine ⟨fun j hj => ?_, fun p h2 h3 => ?_, fun p h2 h3 h4 => ?_⟩
    · rw [vu_ne (by omega)]
      exact hI.1 j hj
    · rw [vu_ne (by omega)]
      exact hI.2.1 p (by omega) h3
    · by_cases e : p = i
      · rw [e, vu_eq, q]
        omega
      · rw [vu_ne (by omega)]
        exact hI.2.2 p h2 (by omega) h4
theorem f_open_nz (hW : pr_W V) {w : Int} (h0 : 0 ≤ w) (hb : f_bit (sp_open V) w = true) : V (68 + w) ≠ 0 := by
  have := ((sp_open_ok hW).2 w h0).mp hb
  have q := this.2
  unfold sp_oC at q
  rw [Bool.and_eq_true] at q
  exact of_decide_eq_true q.1
theorem f_mvs_S (hW : pr_W V) (hS : pr_S V) (hs : ∀ p, 0 ≤ p → p < V 2 → V (61 + p) ≤ 3 * V 52) : pr_W (f_mvs V) ∧ pr_S (f_mvs V) := ⟨(f_mvs_I hW hS).W hW, (f_mvs_I hW hS).S hW hS hs⟩
theorem f_wks_I (hW : pr_W V) (hS : pr_S V) (hs : ∀ p, 0 ≤ p → p < V 2 → V (61 + p) ≤ 3 * V 52) : wkI (f_mvs V) (V 3) (sp_it (f_wk (sp_open V)) (V 3).toNat 0 (f_mvs V)) := by
  have w3 := hW.2.2.2.1
  obtain ⟨mW, mS⟩ := f_mvs_S hW hS hs
  have mI := f_mvs_I hW hS
  have e3 : f_mvs V 3 = V 3 := mI.1 3 (by omega)
  obtain ⟨s', -, hh⟩ := sp_it_rel (σ := Unit) (β := Unit) (R := fun _ _ => ()) (f := f_wk (sp_open V)) (I := fun i _ x => wkI (f_mvs V) i x) (N := V 3) (fun i s x h0 h1 hI => ⟨(), rfl, hI.step mW mS (fun w g0 g1 g2 => by rw [mI.1 _ (by omega)]; exact f_open_nz hW g0 g2) h0 (by omega)⟩) (V 3).toNat 0 () (f_mvs V) (by omega) (by omega) ⟨fun _ _ => rfl, fun _ _ _ => rfl, fun p h0 h1 => by omega⟩
  exact hh
end
