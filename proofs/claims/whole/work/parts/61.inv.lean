/-! What holds between calls -/
/-- a name's letters, as one number -/
def f_enc (b s : Int) (L : List Int) : Int := L.foldl (fun a c => a * b + (c - s)) 0
def nmr (key word : Int) : Prop := ∃ L : List Int, L ≠ [] ∧ L.length ≤ 7 ∧ (∀ c ∈ L, 97 ≤ c ∧ c ≤ 122) ∧ key = f_enc 256 0 L ∧ word = f_enc 27 96 L
/-- where the reference keeps the names of a sort -/
def f_nb (s : Int) : Int := if s = 0 then 0 else if s = 1 then 4 else if s = 2 then 11 else 17
def NM (h : mm_H) (pl nb no : Int) (V : Int → Int) : Prop := ∀ s i, 0 ≤ s → s < 4 → 0 ≤ i → i < V (1 + s) → nmr (h (pl + 2) (7 * s + i)) (h nb (no + f_nb s + i))
/-- a one of a sentence that is no joining word, as the class keeps it -/
def f_leaf (w x y r : Int) : Int × Int × Int := if w = 68 then (17, 17, 0) else if w = 69 then (31, 31, 0) else if w = 70 then (29, 29, x) else if w = 71 then (30, 30, x) else (w - 40, r - 55, y)
def f_post (N : Int → Int) : Nat → Int → List (Int × Int × Int)
  | 0, _ => []
  | n + 1, k => if N (4 * k) = 1 then f_post N n (N (4 * k + 1)) ++ [(28, 28, 0)] else if N (4 * k) = 2 then f_post N n (N (4 * k + 1)) ++ f_post N n (N (4 * k + 2)) ++ [(27, 27, 0)] else if N (4 * k) = 3 then f_post N n (N (4 * k + 1)) ++ f_post N n (N (4 * k + 2)) ++ [(26, 26, 0)] else [f_leaf (N (4 * k)) (N (4 * k + 1)) (N (4 * k + 2)) (N (4 * k + 3))]
def f_lv (N : Int → Int) : Nat → Int → Int
  | 0, _ => 0
  | n + 1, k => if N (4 * k) = 1 then f_lv N n (N (4 * k + 1)) else if N (4 * k) = 2 ∨ N (4 * k) = 3 then f_lv N n (N (4 * k + 1)) + f_lv N n (N (4 * k + 2)) else 1
def f_lok (c2 c3 w x y r : Int) : Prop := w = 68 ∨ w = 69 ∨ (w = 70 ∧ 0 ≤ x ∧ x < c3) ∨ (w = 71 ∧ 0 ≤ x ∧ x < c2) ∨ ((72 ≤ w ∧ w ≤ 75) ∧ (60 ≤ r ∧ r ≤ 62) ∧ 0 ≤ y ∧ y ≤ 999)
def f_wf (N : Int → Int) (c2 c3 : Int) : Nat → Int → Prop
  | 0, _ => False
  | n + 1, k => (0 ≤ k ∧ k < 60) ∧ ((N (4 * k) = 1 ∧ f_wf N c2 c3 n (N (4 * k + 1))) ∨ ((N (4 * k) = 2 ∨ N (4 * k) = 3) ∧ f_wf N c2 c3 n (N (4 * k + 1)) ∧ f_wf N c2 c3 n (N (4 * k + 2))) ∨ f_lok c2 c3 (N (4 * k)) (N (4 * k + 1)) (N (4 * k + 2)) (N (4 * k + 3)))
def f_nod (V : Int → Int) : Int → Int := fun j => if 0 ≤ j then V (76 + j) else 0
def SE (h : mm_H) (se : Int) (V : Int → Int) : Prop := (V 74 = 0 ∧ h se 4 = 0) ∨ (V 74 = 1 ∧ (1 ≤ h se 4 ∧ h se 4 ≤ 20) ∧ f_wf (f_nod V) (V 2) (V 3) 60 (V 75) ∧ f_lv (f_nod V) 60 (V 75) ≤ 20 ∧ h se 3 = (f_post (f_nod V) 60 (V 75)).length ∧ h se 3 ≤ 40 ∧ ∀ i : Nat, i < (f_post (f_nod V) 60 (V 75)).length → (f_post (f_nod V) 60 (V 75))[i]? = some (h (se + 1) i, h (se + 2) i, h (se + 3) i))
def SC (h : mm_H) (sc nb no : Int) (V : Int → Int) : Prop := pr_W V ∧ pr_T V ∧ pr_P h (sc + 1) V ∧ pr_M h (sc + 11) V ∧ NM h (sc + 1) nb no V ∧ SE h (sc + 15) V
/-- the vector of a moment kept -/
def f_snap (h : mm_H) (V : Int → Int) (i : Int) : Int → Int := fun j => if 48 ≤ j ∧ j < 74 then h 138 (26 * i + (j - 48)) else V j
def PA (h : mm_H) (V : Int → Int) : Prop := (0 ≤ h 34 1 ∧ h 34 1 < 8) ∧ (0 ≤ h 34 2 ∧ h 34 2 ≤ 8) ∧ h 133 24 = h 34 2 ∧ ∀ i, 0 ≤ i → i < h 34 2 → pr_T (f_snap h V i) ∧ pr_M h (36 + 4 * ((h 34 1 + 9 + i - h 34 2) % 8)) (f_snap h V i)
/-- the reference's row of an image -/
def f_img (h : mm_H) (k : Int) : Int → Int := fun j => h 137 (316 * k + j)
def IM (h : mm_H) (k : Int) : Prop := h 143 k = h (95 + 19 * k) 3 ∧ (h (95 + 19 * k) 3 = 0 ∨ (h (95 + 19 * k) 3 = 1 ∧ SC h (95 + 19 * k) 142 (22 * k) (f_img h k)))
def CU (h : mm_H) : Prop := h 76 1 = h 133 28 ∧ h 76 2 = h 133 29 ∧ h 76 3 = h 133 30
def RO (h : mm_H) : Prop := h 78 2 = h 133 33 ∧ (0 ≤ h 78 2 ∧ h 78 2 ≤ 5) ∧ (∀ i, 0 ≤ i → i < h 78 2 → h 86 i = h 148 i) ∧ ∀ n, 1 ≤ n → n ≤ 60 → h 80 n = 0
def TG (h : mm_H) : Prop := h 0 12 = h 133 36 ∧ (0 ≤ h 0 12 ∧ h 0 12 ≤ 21) ∧ ∀ i, 0 ≤ i → i < h 0 12 → h 94 i = h 149 i
def BO (h : mm_H) : Prop := h 87 3 = h 133 41 ∧ (h 87 3 = 0 ∨ (h 87 3 = 1 ∧ h 87 4 = h 151 0 ∧ h 87 5 = h 151 1 ∧ h 87 6 = h 151 2 ∧ h 87 7 = h 151 3))
def TA (h : mm_H) : Prop := h 1 1 = h 133 2 ∧ (0 ≤ h 1 1 ∧ h 1 1 ≤ 940) ∧ ∀ i, 0 ≤ i → i < h 1 1 → (0 ≤ h 134 i ∧ h 134 i ≤ 255) ∧ h 2 i = mm_w8 (h 134 i)
def Inv (h : mm_H) : Prop := SC h 14 140 0 (h 135) ∧ PA h (h 135) ∧ IM h 0 ∧ IM h 1 ∧ CU h ∧ RO h ∧ h 0 14 = h 133 34 ∧ TG h ∧ BO h ∧ h 0 13 = h 133 10 ∧ TA h
/-- all but some places stay -/
def dif (ch : Int → Int → Prop) (h h' : mm_H) : Prop := ∀ o k, ¬ ch o k → h' o k = h o k
theorem dif.rf (ch : Int → Int → Prop) (h : mm_H) : dif ch h h := fun _ _ _ => rfl
theorem dif.tr {c1 c2 ch : Int → Int → Prop} {a b c : mm_H} (h1 : dif c1 a b) (h2 : dif c2 b c) (w1 : ∀ o k, c1 o k → ch o k) (w2 : ∀ o k, c2 o k → ch o k) : dif ch a c := fun o k hn => (h2 o k (fun q => hn (w2 o k q))).trans (h1 o k (fun q => hn (w1 o k q)))
theorem dif.up {ch : Int → Int → Prop} {a b : mm_H} {o k v : Int} (h1 : dif ch a b) (hc : ch o k) : dif ch a (mm_up b o k v) := fun o' k' hn => by
  unfold mm_up
  rw [if_neg (fun q => hn (by rw [q.1, q.2]; exact hc))]
  exact h1 o' k' hn
theorem fr.dif {m : Int} {a b : mm_H} (h1 : fr m a b) : dif (fun o _ => m ≤ o ∧ o ≤ m + 3) a b := fun o k hn => h1 o (by omega) k
theorem vs_dif (h : mm_H) (V : Int → Int) : dif (fun o _ => o = 135) h (vs h V) := fun o k hn => vs_ne hn
theorem pr_P.ob {h h' : mm_H} {pl : Int} {V : Int → Int} (hP : pr_P h pl V) (e : ∀ o, pl ≤ o → o ≤ pl + 9 → o ≠ pl + 2 → ∀ k, h' o k = h o k) : pr_P h' pl V := by
  obtain ⟨a, b, c, d, f, g, i⟩ := hP
  refine ⟨by rw [e _ (by omega) (by omega) (by omega)]; exact a, by rw [e _ (by omega) (by omega) (by omega)]; exact b, fun s h0 h1 => by rw [e _ (by omega) (by omega) (by omega)]; exact c s h0 h1, fun s h0 h1 => by rw [e _ (by omega) (by omega) (by omega)]; exact d s h0 h1, fun s h0 h1 => ?_, fun s h0 h1 => ?_, fun s h0 h1 => by rw [e _ (by omega) (by omega) (by omega)]; exact i s h0 h1⟩
  · rw [e _ (by omega) (by omega) (by omega), e _ (by omega) (by omega) (by omega)]; exact f s h0 h1
  · rw [e _ (by omega) (by omega) (by omega), e _ (by omega) (by omega) (by omega), e _ (by omega) (by omega) (by omega)]; exact g s h0 h1
theorem pr_M.ob {h h' : mm_H} {m : Int} {V : Int → Int} (hM : pr_M h m V) (e : ∀ o, m ≤ o → o ≤ m + 3 → ∀ k, h' o k = h o k) : pr_M h' m V := by
  obtain ⟨a0, a1, a2, a3, a4, a5, b, c⟩ := hM
  have em := e m (by omega) (by omega)
  refine ⟨by rw [em]; exact a0, by rw [em]; exact a1, by rw [em]; exact a2, by rw [em]; exact a3, by rw [em]; exact a4, by rw [em]; exact a5, fun p h0 h1 => ?_, fun p h0 h1 => ?_⟩
  · rw [e _ (by omega) (by omega), e _ (by omega) (by omega)]; exact b p h0 h1
  · rw [e _ (by omega) (by omega)]; exact c p h0 h1
/-- a moment's place in the class says the same of another vector that is the same there -/
theorem pr_M.cg {h : mm_H} {m : Int} {V x : Int → Int} (hM : pr_M h m V) (hW : pr_W V) (e : ∀ j, (j < 5 ∨ (48 ≤ j ∧ j < 74)) → x j = V j) : pr_M h m x := by
  obtain ⟨a0, a1, a2, a3, a4, a5, b, c⟩ := hM
  have w2 := hW.2.2.1
  have w3 := hW.2.2.2.1
  refine ⟨by rw [e _ (by omega)]; exact a0, by rw [e _ (by omega)]; exact a1, by rw [e _ (by omega)]; exact a2, by rw [e _ (by omega)]; exact a3, by rw [e _ (by omega)]; exact a4, by rw [e _ (by omega)]; exact a5, fun p h0 h1 => ?_, fun p h0 h1 => ?_⟩
  · rw [e 2 (by omega)] at h1
    rw [e _ (by omega), e _ (by omega)]; exact b p h0 h1
  · rw [e 3 (by omega)] at h1
    rw [e _ (by omega)]; exact c p h0 h1
theorem pr_T.cg {V x : Int → Int} (hT : pr_T V) (hW : pr_W V) (e : ∀ j, (j < 5 ∨ (48 ≤ j ∧ j < 74)) → x j = V j) : pr_T x := by
  obtain ⟨⟨a, b, c, d, f, g, k, l⟩, t1, t2, t3⟩ := hT
  have w2 := hW.2.2.1
  have w3 := hW.2.2.2.1
  unfold pr_T pr_S
  rw [e 48 (by omega), e 49 (by omega), e 50 (by omega), e 51 (by omega), e 52 (by omega), e 53 (by omega), e 0 (by omega), e 1 (by omega), e 2 (by omega), e 3 (by omega)]
  refine ⟨⟨a, b, c, d, f, g, fun p h0 h1 => ?_, fun p h0 h1 => ?_⟩, t1, t2, fun p h0 h1 => ?_⟩
  · rw [e _ (by omega), e _ (by omega)]; exact k p h0 h1
  · rw [e _ (by omega)]; exact l p h0 h1
  · rw [e _ (by omega)]; exact t3 p h0 h1
theorem NM.ob {h h' : mm_H} {pl nb no : Int} {V : Int → Int} (hN : NM h pl nb no V) (e1 : ∀ k, h' (pl + 2) k = h (pl + 2) k) (e2 : ∀ k, h' nb k = h nb k) : NM h' pl nb no V := fun s i s0 s1 i0 i1 => by
  rw [e1, e2]
  exact hN s i s0 s1 i0 i1
theorem NM.cg {h : mm_H} {pl nb no : Int} {V x : Int → Int} (hN : NM h pl nb no V) (e : ∀ j, j < 5 → x j = V j) : NM h pl nb no x := fun s i s0 s1 i0 i1 => by
  rw [e (1 + s) (by omega)] at i1
  exact hN s i s0 s1 i0 i1
theorem SE.ob {h h' : mm_H} {se : Int} {V : Int → Int} (hE : SE h se V) (e : ∀ o, se ≤ o → o ≤ se + 3 → ∀ k, h' o k = h o k) : SE h' se V := by
  have es := e se (by omega) (by omega)
  have e1 := e (se + 1) (by omega) (by omega)
  have e2 := e (se + 2) (by omega) (by omega)
  have e3 := e (se + 3) (by omega) (by omega)
  unfold SE
  simp only [es, e1, e2, e3]
  exact hE
theorem SE.cg {h : mm_H} {se : Int} {V x : Int → Int} (hE : SE h se V) (e : ∀ j, (j = 2 ∨ j = 3 ∨ 74 ≤ j) → x j = V j) : SE h se x := by
  have hn : f_nod x = f_nod V := by
    funext j
    unfold f_nod
    by_cases c : 0 ≤ j
    · rw [if_pos c, if_pos c, e _ (by omega)]
    · rw [if_neg c, if_neg c]
  unfold SE
  rw [e 74 (by omega), e 75 (by omega), e 2 (by omega), e 3 (by omega), hn]
  exact hE
theorem SC.ob {h h' : mm_H} {sc nb no : Int} {V : Int → Int} (hC : SC h sc nb no V) (e1 : ∀ o, sc + 1 ≤ o → o ≤ sc + 18 → ∀ k, h' o k = h o k) (e2 : ∀ k, h' nb k = h nb k) : SC h' sc nb no V := by
  obtain ⟨a, b, c, d, f, g⟩ := hC
  exact ⟨a, b, c.ob (fun o h0 h1 _ => e1 o (by omega) (by omega)), d.ob (fun o h0 h1 => e1 o (by omega) (by omega)), f.ob (e1 _ (by omega) (by omega)) e2, g.ob (fun o h0 h1 => e1 o (by omega) (by omega))⟩
theorem SC.hd {h : mm_H} {sc nb no : Int} {V x : Int → Int} (hC : SC h sc nb no V) (hh : hd V x) {h' : mm_H} (hT : pr_T x) (hM : pr_M h' (sc + 11) x) (e1 : ∀ o, sc + 1 ≤ o → o ≤ sc + 18 → (o < sc + 11 ∨ sc + 14 < o) → ∀ k, h' o k = h o k) (e2 : ∀ k, h' nb k = h nb k) : SC h' sc nb no x := by
  obtain ⟨a, b, c, d, f, g⟩ := hC
  exact ⟨hh.W a, hT, hh.P a (c.ob (fun o h0 h1 _ => e1 o (by omega) (by omega) (by omega))), hM, (f.ob (e1 _ (by omega) (by omega) (by omega)) e2).cg (fun j hj => hh j (by omega)), (g.ob (fun o h0 h1 => e1 o (by omega) (by omega) (by omega))).cg (fun j hj => hh j (by omega))⟩
theorem SC.dif {h h' : mm_H} {ch : Int → Int → Prop} (hC : SC h 14 140 0 (h 135)) (hf : dif ch h h') (w : ∀ o k, ((15 ≤ o ∧ o ≤ 32) ∨ o = 135 ∨ o = 140) → ¬ ch o k) : SC h' 14 140 0 (h' 135) := by
  have e : h' 135 = h 135 := funext fun k => hf 135 k (w 135 k (by omega))
  rw [e]
  exact hC.ob (fun o h0 h1 k => hf o k (w o k (by omega))) (fun k => hf 140 k (w 140 k (by omega)))
theorem PA.dif {h h' : mm_H} {V V' : Int → Int} {ch : Int → Int → Prop} (hA : PA h V) (hW : pr_W V) (hh : hd V V') (hf : dif ch h h') (w : ∀ o k, ((o = 34 ∧ (k = 1 ∨ k = 2)) ∨ (36 ≤ o ∧ o ≤ 67) ∨ o = 138 ∨ (o = 133 ∧ k = 24)) → ¬ ch o k) : PA h' V' := by
  obtain ⟨a, b, c, d⟩ := hA
  have e1 : h' 34 1 = h 34 1 := hf _ _ (w _ _ (by omega))
  have e2 : h' 34 2 = h 34 2 := hf _ _ (w _ _ (by omega))
  have e3 : h' 133 24 = h 133 24 := hf _ _ (w _ _ (by omega))
  unfold PA
  rw [e1, e2, e3]
  refine ⟨a, b, c, fun i i0 i1 => ?_⟩
  have es : ∀ j, (j < 5 ∨ (48 ≤ j ∧ j < 74)) → f_snap h' V' i j = f_snap h V i j := by
    intro j hj
    unfold f_snap
    by_cases q : 48 ≤ j ∧ j < 74
    · rw [if_pos q, if_pos q, hf _ _ (w _ _ (by omega))]
    · rw [if_neg q, if_neg q, hh j (by omega)]
  have W9 : pr_W (f_snap h V i) := hd.W (V := V) (fun j hj => if_neg (by omega)) hW
  refine ⟨(d i i0 i1).1.cg W9 es, ((d i i0 i1).2.ob (fun o h0 h1 k => hf o k (w o k (by omega)))).cg W9 es⟩
theorem f_wf_cg {N N' : Int → Int} {c2 c3 : Int} (e : ∀ j, 0 ≤ j → j < 240 → N' j = N j) : ∀ (n : Nat) (k : Int), f_wf N c2 c3 n k → f_wf N' c2 c3 n k ∧ f_post N' n k = f_post N n k ∧ f_lv N' n k = f_lv N n k
  | 0, _, h => h.elim
  | n + 1, k, h => by
    obtain ⟨hk, hh⟩ := h
    have e0 := e (4 * k) (by omega) (by omega)
    have e1 := e (4 * k + 1) (by omega) (by omega)
    have e2 := e (4 * k + 2) (by omega) (by omega)
    have e3 := e (4 * k + 3) (by omega) (by omega)
    unfold f_wf f_post f_lv
    rw [e0, e1, e2, e3]
    rcases hh with ⟨q, w⟩ | ⟨q, w1, w2⟩ | q
    · obtain ⟨a, b, c⟩ := f_wf_cg e n _ w
      rw [if_pos q, if_pos q, if_pos q, if_pos q, b, c]
      exact ⟨⟨hk, Or.inl ⟨q, a⟩⟩, rfl, rfl⟩
    · obtain ⟨a, b, c⟩ := f_wf_cg e n _ w1
      obtain ⟨a2, b2, c2⟩ := f_wf_cg e n _ w2
      rw [b, c, b2, c2]
      exact ⟨⟨hk, Or.inr (Or.inl ⟨q, a, a2⟩)⟩, rfl, rfl⟩
    · have n1 : N (4 * k) ≠ 1 := by unfold f_lok at q; omega
      have n2 : N (4 * k) ≠ 2 := by unfold f_lok at q; omega
      have n3 : N (4 * k) ≠ 3 := by unfold f_lok at q; omega
      rw [if_neg n1, if_neg n1, if_neg n2, if_neg n2, if_neg n3, if_neg n3, if_neg n1, if_neg n1, if_neg (by omega), if_neg (by omega)]
      exact ⟨⟨hk, Or.inr (Or.inr q)⟩, rfl, rfl⟩
theorem SE.cg2 {h : mm_H} {se : Int} {V x : Int → Int} (hE : SE h se V) (e : ∀ j, 0 ≤ j → j < 316 → x j = V j) : SE h se x := by
  unfold SE
  rw [e 74 (by omega) (by omega), e 75 (by omega) (by omega), e 2 (by omega) (by omega), e 3 (by omega) (by omega)]
  rcases hE with q | ⟨a, b, c, d, f, g, i⟩
  · exact Or.inl q
  · have en : ∀ j, 0 ≤ j → j < 240 → f_nod x j = f_nod V j := fun j h0 h1 => by
      unfold f_nod
      rw [if_pos h0, if_pos h0, e _ (by omega) (by omega)]
    obtain ⟨q1, q2, q3⟩ := f_wf_cg en 60 (V 75) c
    rw [q2, q3]
    exact Or.inr ⟨a, b, q1, d, f, g, i⟩
theorem SC.cg2 {h : mm_H} {sc nb no : Int} {V x : Int → Int} (hC : SC h sc nb no V) (e : ∀ j, 0 ≤ j → j < 316 → x j = V j) : SC h sc nb no x := by
  obtain ⟨a, b, c, d, f, g⟩ := hC
  have W : pr_W x := by
    obtain ⟨a, b, c, d, f, g, i, j, l, m⟩ := a
    unfold pr_W
    rw [e 0 (by omega) (by omega), e 1 (by omega) (by omega), e 2 (by omega) (by omega), e 3 (by omega) (by omega), e 4 (by omega) (by omega), e 24 (by omega) (by omega)]
    refine ⟨a, b, c, d, f, fun s h0 h1 => ?_, fun s h0 h1 => ?_, j, fun s h0 h1 => ?_, fun s h0 h1 => ?_⟩
    · rw [e _ (by omega) (by omega)]; exact g s h0 h1
    · rw [e _ (by omega) (by omega), e _ (by omega) (by omega)]; exact i s h0 h1
    · rw [e _ (by omega) (by omega), e _ (by omega) (by omega), e _ (by omega) (by omega)]; exact l s h0 h1
    · rw [e _ (by omega) (by omega)]; exact m s h0 h1
  obtain ⟨y, hy⟩ : ∃ y : Int → Int, (∀ j, 0 ≤ j → y j = V j) ∧ (∀ j, j < 0 → y j = x j) := ⟨fun j => if 0 ≤ j then V j else x j, fun j h0 => if_pos h0, fun j h0 => if_neg (by omega)⟩
  have w1 := a.2.1
  have w2 := a.2.2.1
  have w3 := a.2.2.2.1
  have w4 := a.2.2.2.2.1
  refine ⟨W, ?_, ?_, ?_, fun s i s0 s1 i0 i1 => ?_, g.cg2 e⟩
  · obtain ⟨⟨a1, b1, c1, d1, f1, g1, k1, l1⟩, t1, t2, t3⟩ := b
    unfold pr_T pr_S
    rw [e 48 (by omega) (by omega), e 49 (by omega) (by omega), e 50 (by omega) (by omega), e 51 (by omega) (by omega), e 52 (by omega) (by omega), e 53 (by omega) (by omega), e 0 (by omega) (by omega), e 1 (by omega) (by omega), e 2 (by omega) (by omega), e 3 (by omega) (by omega)]
    refine ⟨⟨a1, b1, c1, d1, f1, g1, fun p h0 h1 => ?_, fun p h0 h1 => ?_⟩, t1, t2, fun p h0 h1 => ?_⟩
    · rw [e _ (by omega) (by omega), e _ (by omega) (by omega)]; exact k1 p h0 h1
    · rw [e _ (by omega) (by omega)]; exact l1 p h0 h1
    · rw [e _ (by omega) (by omega)]; exact t3 p h0 h1
  · obtain ⟨a1, b1, c1, d1, f1, g1, i1⟩ := c
    refine ⟨by rw [e _ (by omega) (by omega)]; exact a1, by rw [e _ (by omega) (by omega)]; exact b1, fun s h0 h1 => by rw [e _ (by omega) (by omega)]; exact c1 s h0 h1, fun s h0 h1 => ?_, fun s h0 h1 => ?_, fun s h0 h1 => ?_, fun s h0 h1 => ?_⟩
    · rw [e 1 (by omega) (by omega)] at h1
      rw [e _ (by omega) (by omega)]; exact d1 s h0 h1
    · rw [e 2 (by omega) (by omega)] at h1
      rw [e _ (by omega) (by omega), e _ (by omega) (by omega)]; exact f1 s h0 h1
    · rw [e 3 (by omega) (by omega)] at h1
      rw [e _ (by omega) (by omega), e _ (by omega) (by omega), e _ (by omega) (by omega)]; exact g1 s h0 h1
    · rw [e 4 (by omega) (by omega)] at h1
      rw [e _ (by omega) (by omega)]; exact i1 s h0 h1
  · obtain ⟨a0, a1, a2, a3, a4, a5, b1, c1⟩ := d
    refine ⟨by rw [e _ (by omega) (by omega)]; exact a0, by rw [e _ (by omega) (by omega)]; exact a1, by rw [e _ (by omega) (by omega)]; exact a2, by rw [e _ (by omega) (by omega)]; exact a3, by rw [e _ (by omega) (by omega)]; exact a4, by rw [e _ (by omega) (by omega)]; exact a5, fun p h0 h1 => ?_, fun p h0 h1 => ?_⟩
    · rw [e 2 (by omega) (by omega)] at h1
      rw [e _ (by omega) (by omega), e _ (by omega) (by omega)]; exact b1 p h0 h1
    · rw [e 3 (by omega) (by omega)] at h1
      rw [e _ (by omega) (by omega)]; exact c1 p h0 h1
  · rw [e (1 + s) (by omega) (by omega)] at i1
    exact f s i s0 s1 i0 i1
/-- how many of a sort there can be -/
theorem pr_W.most {V : Int → Int} (hW : pr_W V) {s i : Int} (s0 : 0 ≤ s) (s1 : s < 4) (i0 : 0 ≤ i) (i1 : i < V (1 + s)) : i < 7 ∧ 0 ≤ f_nb s + i ∧ f_nb s + i < 22 := by
  obtain ⟨-, a1, a2, a3, a4, -⟩ := hW
  unfold f_nb
  have : s = 0 ∨ s = 1 ∨ s = 2 ∨ s = 3 := by omega
  rcases this with rfl | rfl | rfl | rfl
  · rw [if_pos rfl]
    rw [show (1 : Int) + 0 = 1 from rfl] at i1
    omega
  · rw [if_neg (by decide), if_pos rfl]
    rw [show (1 : Int) + 1 = 2 from rfl] at i1
    omega
  · rw [if_neg (by decide), if_neg (by decide), if_pos rfl]
    rw [show (1 : Int) + 2 = 3 from rfl] at i1
    omega
  · rw [if_neg (by decide), if_neg (by decide), if_neg (by decide)]
    rw [show (1 : Int) + 3 = 4 from rfl] at i1
    omega
theorem IM.dif {h h' : mm_H} {k : Int} (hk : 0 ≤ k ∧ k < 2) {ch : Int → Int → Prop} (hI : IM h k) (hf : dif ch h h') (w : ∀ o j, ((95 + 19 * k ≤ o ∧ o ≤ 113 + 19 * k) ∨ (o = 137 ∧ 316 * k ≤ j ∧ j < 316 * k + 316) ∨ (o = 142 ∧ 22 * k ≤ j ∧ j < 22 * k + 22) ∨ (o = 143 ∧ j = k)) → ¬ ch o j) : IM h' k := by
  obtain ⟨a, b⟩ := hI
  have e1 : h' 143 k = h 143 k := hf _ _ (w _ _ (by omega))
  have e2 : h' (95 + 19 * k) 3 = h (95 + 19 * k) 3 := hf _ _ (w _ _ (by omega))
  unfold IM
  rw [e1, e2]
  refine ⟨a, ?_⟩
  rcases b with b | ⟨b, c⟩
  · exact Or.inl b
  · refine Or.inr ⟨b, ?_⟩
    have c2 := c.cg2 (x := f_img h' k) (fun j h0 h1 => hf _ _ (w _ _ (by omega)))
    obtain ⟨q1, q2, q3, q4, q5, q6⟩ := c2
    refine ⟨q1, q2, q3.ob (fun o h0 h1 _ j => hf _ _ (w _ _ (by omega))), q4.ob (fun o h0 h1 j => hf _ _ (w _ _ (by omega))), fun s i s0 s1 i0 i1 => ?_, q6.ob (fun o h0 h1 j => hf _ _ (w _ _ (by omega)))⟩
    have m := q1.most s0 s1 i0 i1
    rw [hf _ _ (w _ _ (by omega)), hf 142 _ (w _ _ (by omega))]
    exact q5 s i s0 s1 i0 i1
def q_img (o : Int) : Prop := (95 ≤ o ∧ o ≤ 132) ∨ o = 137 ∨ o = 142 ∨ o = 143
def q_rest (o k : Int) : Prop := q_img o ∨ ((o = 76 ∧ 1 ≤ k ∧ k ≤ 3) ∨ (o = 133 ∧ 28 ≤ k ∧ k ≤ 30)) ∨ ((o = 78 ∧ k = 2) ∨ o = 86 ∨ o = 80 ∨ (o = 133 ∧ k = 33) ∨ o = 148) ∨ ((o = 0 ∧ k = 14) ∨ (o = 133 ∧ k = 34)) ∨ ((o = 0 ∧ k = 12) ∨ o = 94 ∨ (o = 133 ∧ k = 36) ∨ o = 149) ∨ ((o = 87 ∧ 3 ≤ k ∧ k ≤ 7) ∨ (o = 133 ∧ k = 41) ∨ o = 151) ∨ ((o = 0 ∧ k = 13) ∨ (o = 133 ∧ k = 10)) ∨ ((o = 1 ∧ k = 1) ∨ o = 2 ∨ (o = 133 ∧ k = 2) ∨ o = 134)
def Rst (h : mm_H) : Prop := IM h 0 ∧ IM h 1 ∧ CU h ∧ RO h ∧ h 0 14 = h 133 34 ∧ TG h ∧ BO h ∧ h 0 13 = h 133 10 ∧ TA h
theorem CU.dif {h h' : mm_H} {ch : Int → Int → Prop} (hC : CU h) (hf : dif ch h h') (w : ∀ o k, ((o = 76 ∧ 1 ≤ k ∧ k ≤ 3) ∨ (o = 133 ∧ 28 ≤ k ∧ k ≤ 30)) → ¬ ch o k) : CU h' := by
  have e : ∀ o k, ((o = 76 ∧ 1 ≤ k ∧ k ≤ 3) ∨ (o = 133 ∧ 28 ≤ k ∧ k ≤ 30)) → h' o k = h o k := fun o k q => hf o k (w o k q)
  unfold CU
  rw [e 76 1 (by omega), e 76 2 (by omega), e 76 3 (by omega), e 133 28 (by omega), e 133 29 (by omega), e 133 30 (by omega)]
  exact hC
theorem RO.dif {h h' : mm_H} {ch : Int → Int → Prop} (hC : RO h) (hf : dif ch h h') (w : ∀ o k, ((o = 78 ∧ k = 2) ∨ o = 86 ∨ o = 80 ∨ (o = 133 ∧ k = 33) ∨ o = 148) → ¬ ch o k) : RO h' := by
  have e : ∀ o k, ((o = 78 ∧ k = 2) ∨ o = 86 ∨ o = 80 ∨ (o = 133 ∧ k = 33) ∨ o = 148) → h' o k = h o k := fun o k q => hf o k (w o k q)
  unfold RO
  rw [e 78 2 (by omega), e 133 33 (by omega)]
  exact ⟨hC.1, hC.2.1, fun i i0 i1 => by rw [e 86 i (by omega), e 148 i (by omega)]; exact hC.2.2.1 i i0 i1, fun n n0 n1 => by rw [e 80 n (by omega)]; exact hC.2.2.2 n n0 n1⟩
theorem TG.dif {h h' : mm_H} {ch : Int → Int → Prop} (hC : TG h) (hf : dif ch h h') (w : ∀ o k, ((o = 0 ∧ k = 12) ∨ o = 94 ∨ (o = 133 ∧ k = 36) ∨ o = 149) → ¬ ch o k) : TG h' := by
  have e : ∀ o k, ((o = 0 ∧ k = 12) ∨ o = 94 ∨ (o = 133 ∧ k = 36) ∨ o = 149) → h' o k = h o k := fun o k q => hf o k (w o k q)
  unfold TG
  rw [e 0 12 (by omega), e 133 36 (by omega)]
  exact ⟨hC.1, hC.2.1, fun i i0 i1 => by rw [e 94 i (by omega), e 149 i (by omega)]; exact hC.2.2 i i0 i1⟩
theorem BO.dif {h h' : mm_H} {ch : Int → Int → Prop} (hC : BO h) (hf : dif ch h h') (w : ∀ o k, ((o = 87 ∧ 3 ≤ k ∧ k ≤ 7) ∨ (o = 133 ∧ k = 41) ∨ o = 151) → ¬ ch o k) : BO h' := by
  have e : ∀ o k, ((o = 87 ∧ 3 ≤ k ∧ k ≤ 7) ∨ (o = 133 ∧ k = 41) ∨ o = 151) → h' o k = h o k := fun o k q => hf o k (w o k q)
  unfold BO
  rw [e 87 3 (by omega), e 87 4 (by omega), e 87 5 (by omega), e 87 6 (by omega), e 87 7 (by omega), e 133 41 (by omega), e 151 0 (by omega), e 151 1 (by omega), e 151 2 (by omega), e 151 3 (by omega)]
  exact hC
theorem TA.dif {h h' : mm_H} {ch : Int → Int → Prop} (hC : TA h) (hf : dif ch h h') (w : ∀ o k, ((o = 1 ∧ k = 1) ∨ o = 2 ∨ (o = 133 ∧ k = 2) ∨ o = 134) → ¬ ch o k) : TA h' := by
  have e : ∀ o k, ((o = 1 ∧ k = 1) ∨ o = 2 ∨ (o = 133 ∧ k = 2) ∨ o = 134) → h' o k = h o k := fun o k q => hf o k (w o k q)
  unfold TA
  rw [e 1 1 (by omega), e 133 2 (by omega)]
  exact ⟨hC.1, hC.2.1, fun i i0 i1 => by rw [e 2 i (by omega), e 134 i (by omega)]; exact hC.2.2 i i0 i1⟩
theorem Rst.dif {h h' : mm_H} {ch : Int → Int → Prop} (hR : Rst h) (hf : dif ch h h') (w : ∀ o k, q_rest o k → ¬ ch o k) : Rst h' := by
  obtain ⟨a, b, c, d, f, g, i, j, l⟩ := hR
  have e : ∀ o k, q_rest o k → h' o k = h o k := fun o k q => hf o k (w o k q)
  have wi : ∀ o k, q_img o → ¬ ch o k := fun o k q => w o k (Or.inl q)
  refine ⟨a.dif (by decide) hf (fun o k q => wi o k (by unfold q_img; omega)), b.dif (by decide) hf (fun o k q => wi o k (by unfold q_img; omega)), c.dif hf (fun o k q => w o k (Or.inr (Or.inl q))), d.dif hf (fun o k q => w o k (Or.inr (Or.inr (Or.inl q)))), ?_, g.dif hf (fun o k q => w o k (Or.inr (Or.inr (Or.inr (Or.inr (Or.inl q)))))), i.dif hf (fun o k q => w o k (Or.inr (Or.inr (Or.inr (Or.inr (Or.inr (Or.inl q))))))), ?_, l.dif hf (fun o k q => w o k (Or.inr (Or.inr (Or.inr (Or.inr (Or.inr (Or.inr (Or.inr q))))))))⟩
  · rw [e 0 14 (Or.inr (Or.inr (Or.inr (Or.inl (Or.inl ⟨rfl, rfl⟩))))), e 133 34 (Or.inr (Or.inr (Or.inr (Or.inl (Or.inr ⟨rfl, rfl⟩)))))]; exact f
  · rw [e 0 13 (Or.inr (Or.inr (Or.inr (Or.inr (Or.inr (Or.inr (Or.inl (Or.inl ⟨rfl, rfl⟩)))))))), e 133 10 (Or.inr (Or.inr (Or.inr (Or.inr (Or.inr (Or.inr (Or.inl (Or.inr ⟨rfl, rfl⟩))))))))]; exact j
theorem Inv_iff {h : mm_H} : Inv h ↔ SC h 14 140 0 (h 135) ∧ PA h (h 135) ∧ Rst h := Iff.rfl
/-- what of the town and its past lies where -/
def q_town (o k : Int) : Prop := (15 ≤ o ∧ o ≤ 32) ∨ o = 135 ∨ o = 140
def q_past (o k : Int) : Prop := (o = 34 ∧ (k = 1 ∨ k = 2)) ∨ (36 ≤ o ∧ o ≤ 67) ∨ o = 138 ∨ (o = 133 ∧ k = 24)
/-- a call that changes nothing of this -/
theorem Inv.dif {h h' : mm_H} {ch : Int → Int → Prop} (hI : Inv h) (hf : dif ch h h') (w : ∀ o k, q_rest o k → ¬ ch o k) (w2 : ∀ o k, q_town o k → ¬ ch o k) (w3 : ∀ o k, q_past o k → ¬ ch o k) : Inv h' := by
  obtain ⟨a, b, c⟩ := Inv_iff.mp hI
  have e : h' 135 = h 135 := funext fun k => hf 135 k (w2 135 k (Or.inr (Or.inl rfl)))
  exact Inv_iff.mpr ⟨a.dif hf w2, by rw [e]; exact b.dif a.1 (hd.rf _) hf w3, Rst.dif c hf w⟩
