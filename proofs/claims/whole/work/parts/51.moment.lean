/-! Moments: what class and reference do with them -/
def vu (V : Int → Int) (k v : Int) : Int → Int := fun j => if j = k then v else V j
theorem vu_eq (V : Int → Int) (k v : Int) : vu V k v k = v := if_pos rfl
theorem vu_ne {V : Int → Int} {k v j : Int} (h : j ≠ k) : vu V k v j = V j := if_neg h
/-- the heap with the reference's row V -/
def vs (h : mm_H) (V : Int → Int) : mm_H := fun o k => if o = 135 then V k else h o k
theorem vs_at (h : mm_H) (V : Int → Int) (k : Int) : vs h V 135 k = V k := if_pos rfl
theorem vs_row (h : mm_H) (V : Int → Int) : vs h V 135 = V := funext fun k => vs_at h V k
theorem vs_ne {h : mm_H} {V : Int → Int} {o k : Int} (hn : o ≠ 135) : vs h V o k = h o k := if_neg hn
theorem vs_self (h : mm_H) : vs h (h 135) = h := by
  funext o k
  unfold vs
  split
  · rename_i e; rw [e]
  · rfl
theorem vs_up (h : mm_H) (V : Int → Int) (k v : Int) : mm_up (vs h V) 135 k v = vs h (vu V k v) := by
  funext o j
  unfold mm_up vs vu
  by_cases e : o = 135
  · by_cases f : j = k <;> simp [e, f]
  · simp [e]
theorem vs_upo {h : mm_H} {V : Int → Int} {o k v : Int} (hn : o ≠ 135) : mm_up (vs h V) o k v = vs (mm_up h o k v) V := by
  funext o' j
  unfold mm_up vs
  by_cases e : o' = 135
  · have : ¬ (o' = o ∧ j = k) := fun q => hn (q.1 ▸ e)
    simp [e, this]
    intro q; exact absurd q.symm hn
  · simp [e]
/-- all but the four objects of a moment stay -/
def fr (m : Int) (h h' : mm_H) : Prop := ∀ o, (o < m ∨ m + 3 < o) → ∀ k, h' o k = h o k
theorem fr_rf (m : Int) (h : mm_H) : fr m h h := fun _ _ _ => rfl
theorem fr.tr {m : Int} {a b c : mm_H} (h1 : fr m a b) (h2 : fr m b c) : fr m a c := fun o ho k => (h2 o ho k).trans (h1 o ho k)
theorem fr.up {m o k v : Int} {h h' : mm_H} (h1 : fr m h h') (ho : m ≤ o ∧ o ≤ m + 3) : fr m h (mm_up h' o k v) := fun o' ho' k' => by
  rw [pu_ob (by omega)]
  exact h1 o' ho' k'
theorem pr_P.fr {m pl : Int} {h h' : mm_H} {V : Int → Int} (hP : pr_P h pl V) (hf : fr m h h') (hd : pl + 9 < m ∨ m + 3 < pl) : pr_P h' pl V := by
  have e : ∀ o, pl ≤ o → o ≤ pl + 9 → ∀ k, h' o k = h o k := fun o h1 h2 k => hf o (by omega) k
  obtain ⟨a, b, c, d, f, g, i⟩ := hP
  refine ⟨by rw [e _ (by omega) (by omega)]; exact a, by rw [e _ (by omega) (by omega)]; exact b, fun s h0 h1 => by rw [e _ (by omega) (by omega)]; exact c s h0 h1, fun s h0 h1 => by rw [e _ (by omega) (by omega)]; exact d s h0 h1, fun s h0 h1 => ?_, fun s h0 h1 => ?_, fun s h0 h1 => by rw [e _ (by omega) (by omega)]; exact i s h0 h1⟩
  · rw [e _ (by omega) (by omega), e _ (by omega) (by omega)]; exact f s h0 h1
  · rw [e _ (by omega) (by omega), e _ (by omega) (by omega), e _ (by omega) (by omega)]; exact g s h0 h1
/-- the plan's numbers are those of V, whatever is above -/
theorem pr_P.v1 {pl : Int} {h : mm_H} {V : Int → Int} {k v : Int} (hP : pr_P h pl V) (hW : pr_W V) (hk : 48 ≤ k) : pr_P h pl (vu V k v) := by
  obtain ⟨a, b, c, d, f, g, i⟩ := hP
  have w1 := hW.2.1
  have w2 := hW.2.2.1
  have w3 := hW.2.2.2.1
  have w4 := hW.2.2.2.2.1
  have e : ∀ j, j < 48 → vu V k v j = V j := fun j hj => vu_ne (by omega)
  refine ⟨by rw [e _ (by omega)]; exact a, by rw [e _ (by omega)]; exact b, fun s h0 h1 => by rw [e _ (by omega)]; exact c s h0 h1, fun s h0 h1 => ?_, fun s h0 h1 => ?_, fun s h0 h1 => ?_, fun s h0 h1 => ?_⟩
  · rw [e 1 (by omega)] at h1
    rw [e _ (by omega)]; exact d s h0 h1
  · rw [e 2 (by omega)] at h1
    rw [e _ (by omega), e _ (by omega)]; exact f s h0 h1
  · rw [e 3 (by omega)] at h1
    rw [e _ (by omega), e _ (by omega), e _ (by omega)]; exact g s h0 h1
  · rw [e 4 (by omega)] at h1
    rw [e _ (by omega)]; exact i s h0 h1
theorem pr_W.v1 {V : Int → Int} {k v : Int} (hW : pr_W V) (hk : 48 ≤ k) : pr_W (vu V k v) := by
  obtain ⟨a, b, c, d, f, g, i, j, l, m⟩ := hW
  have e : ∀ j, j < 48 → vu V k v j = V j := fun j hj => vu_ne (by omega)
  have e0 := e 0 (by omega)
  have e1 := e 1 (by omega)
  have e2 := e 2 (by omega)
  have e3 := e 3 (by omega)
  have e4 := e 4 (by omega)
  have e24 := e 24 (by omega)
  unfold pr_W
  rw [e0, e1, e2, e3, e4, e24]
  refine ⟨a, b, c, d, f, fun s h0 h1 => ?_, fun s h0 h1 => ?_, j, fun s h0 h1 => ?_, fun s h0 h1 => ?_⟩
  · rw [e _ (by omega)]; exact g s h0 h1
  · rw [e _ (by omega), e _ (by omega)]; exact i s h0 h1
  · rw [e _ (by omega), e _ (by omega), e _ (by omega)]; exact l s h0 h1
  · rw [e _ (by omega)]; exact m s h0 h1
theorem pr_M.u0 {h : mm_H} {m v : Int} {V : Int → Int} (hM : pr_M h m V) : pr_M (mm_up h m 0 v) m (vu V 48 v) := by
  obtain ⟨a0, a1, a2, a3, a4, a5, b, c⟩ := hM
  refine ⟨by rw [pu_eq, vu_eq], by rw [pu_sl (by omega), vu_ne (by omega)]; exact a1, by rw [pu_sl (by omega), vu_ne (by omega)]; exact a2, by rw [pu_sl (by omega), vu_ne (by omega)]; exact a3, by rw [pu_sl (by omega), vu_ne (by omega)]; exact a4, by rw [pu_sl (by omega), vu_ne (by omega)]; exact a5, fun p h0 h1 => ?_, fun p h0 h1 => ?_⟩
  · rw [vu_ne (by omega)] at h1
    rw [pu_ob (by omega), pu_ob (by omega), vu_ne (by omega), vu_ne (by omega)]
    exact b p h0 h1
  · rw [vu_ne (by omega)] at h1
    rw [pu_ob (by omega), vu_ne (by omega)]
    exact c p h0 h1
theorem pr_M.u1 {h : mm_H} {m v : Int} {V : Int → Int} (hM : pr_M h m V) : pr_M (mm_up h m 1 v) m (vu V 49 v) := by
  obtain ⟨a0, a1, a2, a3, a4, a5, b, c⟩ := hM
  refine ⟨by rw [pu_sl (by omega), vu_ne (by omega)]; exact a0, by rw [pu_eq, vu_eq], by rw [pu_sl (by omega), vu_ne (by omega)]; exact a2, by rw [pu_sl (by omega), vu_ne (by omega)]; exact a3, by rw [pu_sl (by omega), vu_ne (by omega)]; exact a4, by rw [pu_sl (by omega), vu_ne (by omega)]; exact a5, fun p h0 h1 => ?_, fun p h0 h1 => ?_⟩
  · rw [vu_ne (by omega)] at h1
    rw [pu_ob (by omega), pu_ob (by omega), vu_ne (by omega), vu_ne (by omega)]
    exact b p h0 h1
  · rw [vu_ne (by omega)] at h1
    rw [pu_ob (by omega), vu_ne (by omega)]
    exact c p h0 h1
theorem pr_M.u2 {h : mm_H} {m v : Int} {V : Int → Int} (hM : pr_M h m V) : pr_M (mm_up h m 2 v) m (vu V 50 v) := by
  obtain ⟨a0, a1, a2, a3, a4, a5, b, c⟩ := hM
  refine ⟨by rw [pu_sl (by omega), vu_ne (by omega)]; exact a0, by rw [pu_sl (by omega), vu_ne (by omega)]; exact a1, by rw [pu_eq, vu_eq], by rw [pu_sl (by omega), vu_ne (by omega)]; exact a3, by rw [pu_sl (by omega), vu_ne (by omega)]; exact a4, by rw [pu_sl (by omega), vu_ne (by omega)]; exact a5, fun p h0 h1 => ?_, fun p h0 h1 => ?_⟩
  · rw [vu_ne (by omega)] at h1
    rw [pu_ob (by omega), pu_ob (by omega), vu_ne (by omega), vu_ne (by omega)]
    exact b p h0 h1
  · rw [vu_ne (by omega)] at h1
    rw [pu_ob (by omega), vu_ne (by omega)]
    exact c p h0 h1
theorem pr_M.u3 {h : mm_H} {m v : Int} {V : Int → Int} (hM : pr_M h m V) : pr_M (mm_up h m 3 v) m (vu V 51 v) := by
  obtain ⟨a0, a1, a2, a3, a4, a5, b, c⟩ := hM
  refine ⟨by rw [pu_sl (by omega), vu_ne (by omega)]; exact a0, by rw [pu_sl (by omega), vu_ne (by omega)]; exact a1, by rw [pu_sl (by omega), vu_ne (by omega)]; exact a2, by rw [pu_eq, vu_eq], by rw [pu_sl (by omega), vu_ne (by omega)]; exact a4, by rw [pu_sl (by omega), vu_ne (by omega)]; exact a5, fun p h0 h1 => ?_, fun p h0 h1 => ?_⟩
  · rw [vu_ne (by omega)] at h1
    rw [pu_ob (by omega), pu_ob (by omega), vu_ne (by omega), vu_ne (by omega)]
    exact b p h0 h1
  · rw [vu_ne (by omega)] at h1
    rw [pu_ob (by omega), vu_ne (by omega)]
    exact c p h0 h1
theorem pr_M.u4 {h : mm_H} {m v : Int} {V : Int → Int} (hM : pr_M h m V) : pr_M (mm_up h m 4 v) m (vu V 52 v) := by
  obtain ⟨a0, a1, a2, a3, a4, a5, b, c⟩ := hM
  refine ⟨by rw [pu_sl (by omega), vu_ne (by omega)]; exact a0, by rw [pu_sl (by omega), vu_ne (by omega)]; exact a1, by rw [pu_sl (by omega), vu_ne (by omega)]; exact a2, by rw [pu_sl (by omega), vu_ne (by omega)]; exact a3, by rw [pu_eq, vu_eq], by rw [pu_sl (by omega), vu_ne (by omega)]; exact a5, fun p h0 h1 => ?_, fun p h0 h1 => ?_⟩
  · rw [vu_ne (by omega)] at h1
    rw [pu_ob (by omega), pu_ob (by omega), vu_ne (by omega), vu_ne (by omega)]
    exact b p h0 h1
  · rw [vu_ne (by omega)] at h1
    rw [pu_ob (by omega), vu_ne (by omega)]
    exact c p h0 h1
theorem pr_M.u5 {h : mm_H} {m v : Int} {V : Int → Int} (hM : pr_M h m V) : pr_M (mm_up h m 5 v) m (vu V 53 v) := by
  obtain ⟨a0, a1, a2, a3, a4, a5, b, c⟩ := hM
  refine ⟨by rw [pu_sl (by omega), vu_ne (by omega)]; exact a0, by rw [pu_sl (by omega), vu_ne (by omega)]; exact a1, by rw [pu_sl (by omega), vu_ne (by omega)]; exact a2, by rw [pu_sl (by omega), vu_ne (by omega)]; exact a3, by rw [pu_sl (by omega), vu_ne (by omega)]; exact a4, by rw [pu_eq, vu_eq], fun p h0 h1 => ?_, fun p h0 h1 => ?_⟩
  · rw [vu_ne (by omega)] at h1
    rw [pu_ob (by omega), pu_ob (by omega), vu_ne (by omega), vu_ne (by omega)]
    exact b p h0 h1
  · rw [vu_ne (by omega)] at h1
    rw [pu_ob (by omega), vu_ne (by omega)]
    exact c p h0 h1
theorem pr_M.up {h : mm_H} {m v i : Int} {V : Int → Int} (hM : pr_M h m V) (hW : pr_W V) (hi : 0 ≤ i ∧ i < 7) : pr_M (mm_up h (m + 1) i v) m (vu V (54 + i) v) := by
  obtain ⟨a0, a1, a2, a3, a4, a5, b, c⟩ := hM
  have w2 := hW.2.2.1
  have w3 := hW.2.2.2.1
  refine ⟨by rw [pu_ob (by omega), vu_ne (by omega)]; exact a0, by rw [pu_ob (by omega), vu_ne (by omega)]; exact a1, by rw [pu_ob (by omega), vu_ne (by omega)]; exact a2, by rw [pu_ob (by omega), vu_ne (by omega)]; exact a3, by rw [pu_ob (by omega), vu_ne (by omega)]; exact a4, by rw [pu_ob (by omega), vu_ne (by omega)]; exact a5, fun p h0 h1 => ?_, fun p h0 h1 => ?_⟩
  · rw [vu_ne (by omega)] at h1
    rw [pu_ob (o' := m + 2) (by omega), vu_ne (j := 61 + p) (by omega)]
    refine ⟨?_, (b p h0 h1).2⟩
    by_cases e : p = i
    · rw [e, pu_eq, vu_eq]
    · rw [pu_sl e, vu_ne (by omega)]
      exact (b p h0 h1).1
  · rw [vu_ne (by omega)] at h1
    rw [pu_ob (by omega), vu_ne (by omega)]
    exact c p h0 h1
theorem pr_M.us {h : mm_H} {m v i : Int} {V : Int → Int} (hM : pr_M h m V) (hW : pr_W V) (hi : 0 ≤ i ∧ i < 7) : pr_M (mm_up h (m + 2) i v) m (vu V (61 + i) v) := by
  obtain ⟨a0, a1, a2, a3, a4, a5, b, c⟩ := hM
  have w2 := hW.2.2.1
  have w3 := hW.2.2.2.1
  refine ⟨by rw [pu_ob (by omega), vu_ne (by omega)]; exact a0, by rw [pu_ob (by omega), vu_ne (by omega)]; exact a1, by rw [pu_ob (by omega), vu_ne (by omega)]; exact a2, by rw [pu_ob (by omega), vu_ne (by omega)]; exact a3, by rw [pu_ob (by omega), vu_ne (by omega)]; exact a4, by rw [pu_ob (by omega), vu_ne (by omega)]; exact a5, fun p h0 h1 => ?_, fun p h0 h1 => ?_⟩
  · rw [vu_ne (by omega)] at h1
    rw [pu_ob (o' := m + 1) (by omega), vu_ne (j := 54 + p) (by omega)]
    refine ⟨(b p h0 h1).1, ?_⟩
    by_cases e : p = i
    · rw [e, pu_eq, vu_eq]
    · rw [pu_sl e, vu_ne (by omega)]
      exact (b p h0 h1).2
  · rw [vu_ne (by omega)] at h1
    rw [pu_ob (by omega), vu_ne (by omega)]
    exact c p h0 h1
theorem pr_M.ul {h : mm_H} {m v i : Int} {V : Int → Int} (hM : pr_M h m V) (hW : pr_W V) (hi : 0 ≤ i ∧ i < 6) : pr_M (mm_up h (m + 3) i v) m (vu V (68 + i) v) := by
  obtain ⟨a0, a1, a2, a3, a4, a5, b, c⟩ := hM
  have w2 := hW.2.2.1
  have w3 := hW.2.2.2.1
  refine ⟨by rw [pu_ob (by omega), vu_ne (by omega)]; exact a0, by rw [pu_ob (by omega), vu_ne (by omega)]; exact a1, by rw [pu_ob (by omega), vu_ne (by omega)]; exact a2, by rw [pu_ob (by omega), vu_ne (by omega)]; exact a3, by rw [pu_ob (by omega), vu_ne (by omega)]; exact a4, by rw [pu_ob (by omega), vu_ne (by omega)]; exact a5, fun p h0 h1 => ?_, fun p h0 h1 => ?_⟩
  · rw [vu_ne (by omega)] at h1
    rw [pu_ob (by omega), pu_ob (by omega), vu_ne (by omega), vu_ne (by omega)]
    exact b p h0 h1
  · rw [vu_ne (by omega)] at h1
    by_cases e : p = i
    · rw [e, pu_eq, vu_eq]
    · rw [pu_sl e, vu_ne (by omega)]
      exact c p h0 h1
