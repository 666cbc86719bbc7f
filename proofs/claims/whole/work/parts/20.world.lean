/-! The small machine's heap and values, as the machine's own: g 0 the addresses of the objects by their numbers, g 1 those of the Words, g 2 those of the texts, g 3 those of Word.ALL and MOST_OF_SORT; cy the array classes by what they hold -/
def mm_i32 (x : Int) : Prop := -2147483648 ≤ x ∧ x < 2147483648
def mm_i64 (x : Int) : Prop := -9223372036854775808 ≤ x ∧ x < 9223372036854775808
def mm_wv (g : Nat → Nat → Nat) (i : Int) : Option Nat := if 0 ≤ i ∧ i < 36 then some (g 1 i.toNat) else none
def mm_val (g : Nat → Nat → Nat) (v : mm_V) : Value := match v.1 with
  | 0 => .int (Int32.ofInt v.2)
  | 1 => .long (Int64.ofInt v.2)
  | 2 => va_rf (mm_wv g v.2)
  | 3 => .ref (g 2 v.2.toNat)
  | 4 => .ref (g 3 0)
  | 5 => .ref (g 3 1)
  | 6 => .null
  | _ => .ref (g 0 v.2.toNat)
def mm_vok (v : mm_V) : Prop := match v.1 with
  | 0 => mm_i32 v.2
  | 1 => mm_i64 v.2
  | 2 => True
  | 3 => 0 ≤ v.2 ∧ v.2 < 4
  | 4 => True
  | 5 => True
  | 6 => True
  | 7 => False
  | 8 => False
  | 9 => False
  | t => 0 ≤ v.2 ∧ v.2 < 153 ∧ mm_kd v.2.toNat = t
def mm_fv (g : Nat → Nat → Nat) (h : mm_H) (o k : Nat) (c : Nat × Nat × Nat) : Value := match c.1 with
  | 1 => .long (Int64.ofInt (h o k))
  | 2 => va_rf (mm_wv g (h o k))
  | 3 => .ref (g 0 (o + c.2.2))
  | _ => .int (Int32.ofInt (h o k))
def mm_ar (g : Nat → Nat → Nat) (h : mm_H) (o c : Nat) : (Nat → Int32) ⊕ (Nat → Int64) ⊕ (Nat → UInt32) ⊕ (Nat → UInt64) ⊕ (Nat → Option Nat) := match c with
  | 1 => .inr (.inl fun i => Int64.ofInt (h o i))
  | 2 => .inr (.inr (.inr (.inr fun i => mm_wv g (h o i))))
  | 5 => .inr (.inr (.inr (.inr fun i => some (g 0 (o + 1 + 4 * i)))))
  | 6 => .inr (.inr (.inr (.inr fun i => some (g 0 (o + 62 + 19 * i)))))
  | 7 => .inr (.inr (.inr (.inr fun i => some (g 0 (o + 1 + i)))))
  | _ => .inl fun i => Int32.ofInt (h o i)
def mm_ce (g : Nat → Nat → Nat) (cy : Nat → ClassId) (h : mm_H) (o : Nat) : va_E :=
  if mm_kd o < 22 then .inr (mm_kd o - 10, (List.range (mm_fn (mm_kd o))).map fun k => mm_fv g h o k (mm_fcd (mm_kd o) k))
  else .inl (cy (mm_ak (mm_kd o)).1, (mm_ak (mm_kd o)).2, mm_ar g h o (mm_ak (mm_kd o)).1)
def mm_ws (g : Nat → Nat → Nat) (cy : Nat → ClassId) (h : mm_H) : va_W := (List.range 153).map fun o => (g 0 o, mm_ce g cy h o)
theorem mm_ws_get {g : Nat → Nat → Nat} {cy : Nat → ClassId} {h : mm_H} {o : Nat} (ho : o < 153) : (mm_ws g cy h)[o]? = some (g 0 o, mm_ce g cy h o) := by
  simp [mm_ws, ho]
theorem mm_ws_ge {g : Nat → Nat → Nat} {cy : Nat → ClassId} {h : mm_H} {o : Nat} (ho : ¬ o < 153) : (mm_ws g cy h)[o]? = none := by
  simp [mm_ws]; omega
theorem mm_ws_set {g : Nat → Nat → Nat} {cy : Nat → ClassId} {h h' : mm_H} {o : Nat} (ho : o < 153) {e : va_E} (he : mm_ce g cy h' o = e) (hn : ∀ o', o' ≠ o → mm_ce g cy h' o' = mm_ce g cy h o') : (mm_ws g cy h).set o (g 0 o, e) = mm_ws g cy h' := by
  apply List.ext_getElem?
  intro j
  rw [List.getElem?_set]
  by_cases hj : o = j
  · subst hj
    rw [if_pos rfl, mm_ws_get ho, he]
    simp [mm_ws, ho]
  · rw [if_neg hj]
    by_cases h2 : j < 153
    · rw [mm_ws_get h2, mm_ws_get h2, hn j (Ne.symm hj)]
    · rw [mm_ws_ge h2, mm_ws_ge h2]
theorem mm_ce_congr {g : Nat → Nat → Nat} {cy : Nat → ClassId} {h h' : mm_H} {o : Nat} (hh : ∀ k, h' (o : Int) k = h (o : Int) k) : mm_ce g cy h' o = mm_ce g cy h o := by
  have e : h' (o : Int) = h (o : Int) := funext hh
  unfold mm_ce mm_fv mm_ar
  simp only [e]
theorem mm_up_ne {h : mm_H} {o o' k k' v : Int} (hn : o' ≠ o) : mm_up h o k v o' k' = h o' k' := by
  unfold mm_up
  rw [if_neg (fun q => hn q.1)]
theorem mm_up_ne2 {h : mm_H} {o o' k k' v : Int} (hn : k' ≠ k) : mm_up h o k v o' k' = h o' k' := by
  unfold mm_up
  rw [if_neg (fun q => hn q.2)]
theorem mm_up_eq {h : mm_H} {o k v : Int} : mm_up h o k v o k = v := by
  unfold mm_up
  rw [if_pos ⟨rfl, rfl⟩]
theorem mm_ce_up {g : Nat → Nat → Nat} {cy : Nat → ClassId} {h : mm_H} {o o' : Nat} {k v : Int} (hn : o' ≠ o) : mm_ce g cy (mm_up h o k v) o' = mm_ce g cy h o' :=
  mm_ce_congr (fun _ => mm_up_ne (by omega))
/-- the cell of an object -/
theorem mm_ce_obj {g : Nat → Nat → Nat} {cy : Nat → ClassId} {h : mm_H} {o t : Nat} (ho : mm_kd o = t) (ht : t < 22) : mm_ce g cy h o = .inr (t - 10, (List.range (mm_fn t)).map fun k => mm_fv g h o k (mm_fcd t k)) := by
  unfold mm_ce
  rw [ho, if_pos ht]
theorem mm_ce_arr {g : Nat → Nat → Nat} {cy : Nat → ClassId} {h : mm_H} {o t : Nat} (ho : mm_kd o = t) (ht : ¬ t < 22) : mm_ce g cy h o = .inl (cy (mm_ak t).1, (mm_ak t).2, mm_ar g h o (mm_ak t).1) := by
  unfold mm_ce
  rw [ho, if_neg ht]
theorem mm_fl_set {f f' : Nat → Value} {n k : Nat} {v : Value} (hv : f' k = v) (hn : ∀ j, j ≠ k → f' j = f j) : ((List.range n).map f).set k v = (List.range n).map f' := by
  apply List.ext_getElem?
  intro j
  rw [List.getElem?_set]
  by_cases hj : k = j
  · subst hj
    by_cases h2 : k < n
    · simp [h2, hv]
    · simp [h2]
  · rw [if_neg hj]
    by_cases h2 : j < n
    · simp [h2, hn j (Ne.symm hj)]
    · simp [h2]
/-- a field is written -/
theorem mm_ce_put {g : Nat → Nat → Nat} {cy : Nat → ClassId} {h : mm_H} {o t k : Nat} {x : Int} {v : Value} (ho : mm_kd o = t) (ht : t < 22) (hc : ∀ h' : mm_H, h' (o : Int) (k : Int) = x → mm_fv g h' o k (mm_fcd t k) = v) :
    mm_ce g cy (mm_up h o k x) o = .inr (t - 10, ((List.range (mm_fn t)).map fun k => mm_fv g h o k (mm_fcd t k)).set k v) := by
  rw [mm_ce_obj ho ht]
  refine congrArg (fun l => Sum.inr (t - 10, l)) (mm_fl_set (f := fun k => mm_fv g h o k (mm_fcd t k)) (f' := fun j => mm_fv g (mm_up h o k x) o j (mm_fcd t j)) (hc _ mm_up_eq) ?_).symm
  intro j hj
  have e : mm_up h o k x (o : Int) (j : Int) = h o j := mm_up_ne2 (by omega)
  unfold mm_fv
  simp only [e]
def mm_A (g : Nat → Nat → Nat) : Nat → Prop := fun q => ∃ o, o < 153 ∧ q = g 0 o
def mm_inj (g : Nat → Nat → Nat) : Prop := (∀ i j, i < 153 → j < 153 → g 0 i = g 0 j → i = j) ∧ ∀ i j, i < 36 → j < 36 → g 1 i = g 1 j → i = j
theorem mm_D {g : Nat → Nat → Nat} (hg : mm_inj g) (cy : Nat → ClassId) (h : mm_H) : va_D (mm_A g) (mm_ws g cy h) := by
  have key : ∀ (i : Nat) (p : Nat × va_E), (mm_ws g cy h)[i]? = some p → i < 153 ∧ p.1 = g 0 i := by
    intro i p hp
    by_cases hi : i < 153
    · rw [mm_ws_get hi] at hp
      cases hp
      exact ⟨hi, rfl⟩
    · rw [mm_ws_ge hi] at hp
      cases hp
  refine ⟨fun i j p q hp hq e => ?_, fun k q hq => ⟨k, (key k q hq).1, (key k q hq).2⟩⟩
  obtain ⟨h1, e1⟩ := key i p hp
  obtain ⟨h2, e2⟩ := key j q hq
  exact hg.1 i j h1 h2 (by rw [← e1, ← e2, e])
/-- numbers are numbers of their length -/
def mm_cd (o : Nat) (k : Int) : Nat := if mm_kd o < 22 then (mm_fcd (mm_kd o) k.toNat).1 else (mm_ak (mm_kd o)).1
def mm_rg (h : mm_H) : Prop := ∀ (o : Nat) (k : Int), o < 153 → 0 ≤ k → ((mm_kd o < 22 → (mm_cd o k = 0 ∨ mm_cd o k = 5) → mm_i32 (h o k)) ∧ (¬ mm_kd o < 22 → (mm_cd o k = 0 ∨ mm_cd o k = 3 ∨ mm_cd o k = 4) → mm_i32 (h o k))) ∧ (mm_cd o k = 1 → mm_i64 (h o k))
theorem mm_rg_up {h : mm_H} {o : Nat} {k x : Int} (hr : mm_rg h) (hx : (((mm_kd o < 22 → (mm_cd o k = 0 ∨ mm_cd o k = 5) → mm_i32 x) ∧ (¬ mm_kd o < 22 → (mm_cd o k = 0 ∨ mm_cd o k = 3 ∨ mm_cd o k = 4) → mm_i32 x)) ∧ (mm_cd o k = 1 → mm_i64 x))) : mm_rg (mm_up h o k x) := by
  intro o' k' ho hk
  by_cases e : (o' : Int) = (o : Int) ∧ k' = k
  · obtain ⟨e1, e2⟩ := e
    have e3 : o' = o := by omega
    subst e3; subst e2
    rw [mm_up_eq]
    exact hx
  · have e4 : mm_up h o k x (o' : Int) k' = h o' k' := by
      unfold mm_up
      rw [if_neg e]
    rw [e4]
    exact hr o' k' ho hk
/-- the locals -/
def mm_lr (g : Nat → Nat → Nat) (ls : List mm_V) (L : Array Slot) : Prop := L.size = ls.length ∧ lv_wf L ∧ ∀ (i : Nat) (v : mm_V), ls[i]? = some v → v.1 ≠ 9 → mm_vok v ∧ L[i]? = some (.val (mm_val g v))
def mm_ll (g : Nat → Nat → Nat) (ls : List mm_V) : List (Nat × Value) := (List.range ls.length).filterMap fun i => match ls[i]? with
  | none => none
  | some v => if v.1 = 9 then none else some (i, mm_val g v)
theorem mm_ll_mem {g : Nat → Nat → Nat} {ls : List mm_V} {q : Nat × Value} : q ∈ mm_ll g ls ↔ ∃ v, ls[q.1]? = some v ∧ v.1 ≠ 9 ∧ q.2 = mm_val g v := by
  unfold mm_ll
  rw [List.mem_filterMap]
  constructor
  · rintro ⟨i, hi, hq⟩
    cases h : ls[i]? with
    | none => rw [h] at hq; cases hq
    | some v =>
      rw [h] at hq
      simp only at hq
      split at hq
      · cases hq
      · cases hq
        exact ⟨v, h, by assumption, rfl⟩
  · rintro ⟨v, h1, h2, h3⟩
    have hlt : q.1 < ls.length := (List.getElem?_eq_some_iff.mp h1).1
    refine ⟨q.1, List.mem_range.mpr hlt, ?_⟩
    rw [h1]
    simp only [if_neg h2]
    rw [← h3]
theorem mm_lr_has {g : Nat → Nat → Nat} {ls : List mm_V} {L : Array Slot} (h : mm_lr g ls L) : lv_has L ls.length (mm_ll g ls) := by
  refine ⟨h.1, h.2.1, fun q hq => ?_⟩
  obtain ⟨v, h1, h2, h3⟩ := mm_ll_mem.mp hq
  rw [h3]
  exact (h.2.2 q.1 v h1 h2).2
theorem mm_cat {g : Nat → Nat → Nat} {v : mm_V} : (mm_val g v).category = if v.1 = 1 then 2 else 1 := by
  obtain ⟨t, x⟩ := v
  unfold mm_val
  split
  case h_3 => 
    simp only at *
    subst_vars
    cases mm_wv g x <;> rfl
  all_goals simp_all [Value.category]
/-- a value of one word is stored -/
theorem mm_lr_set {g : Nat → Nat → Nat} {ls : List mm_V} {L L' : Array Slot} {i : Nat} {v : mm_V} (h : mm_lr g ls L) (hv : mm_vok v) (hp : mm_pv ls i = true) (h' : lv_has L' ls.length ((i, mm_val g v) :: (mm_ll g ls).filter (fun q => !(q.1 == i) && !(q.1 + 1 == i && q.2.category == 2)))) : mm_lr g (ls.set i v) L' := by
  refine ⟨by rw [h'.1, List.length_set], h'.2.1, fun j u hj hu => ?_⟩
  rw [List.getElem?_set] at hj
  by_cases e : i = j
  · subst e
    rw [if_pos rfl] at hj
    split at hj
    · cases hj
      exact ⟨hv, h'.2.2 _ List.mem_cons_self⟩
    · cases hj
  · rw [if_neg e] at hj
    refine ⟨(h.2.2 j u hj hu).1, h'.2.2 (j, mm_val g u) (List.mem_cons_of_mem _ (List.mem_filter.mpr ⟨mm_ll_mem.mpr ⟨u, hj, hu, rfl⟩, ?_⟩))⟩
    have n1 : (j == i) = false := by simpa using (Ne.symm e)
    simp only [n1, Bool.not_false, Bool.true_and, Bool.not_eq_true', Bool.and_eq_false_iff]
    by_cases e2 : j + 1 = i
    · right
      subst e2
      unfold mm_pv at hp
      simp only [hj] at hp
      rw [mm_cat]
      have : ¬ u.1 = 1 := by simpa using hp
      rw [if_neg this]
      rfl
    · left
      simpa using e2
theorem mm_lr_set2 {g : Nat → Nat → Nat} {ls : List mm_V} {L L' : Array Slot} {i : Nat} {v : mm_V} (h : mm_lr g ls L) (hv : mm_vok v) (hp : mm_pv ls i = true) (hi : i + 1 < ls.length) (h' : lv_has L' ls.length ((i, mm_val g v) :: (mm_ll g ls).filter (fun q => !(q.1 == i) && (!(q.1 == i + 1) && !(q.1 + 1 == i && q.2.category == 2))))) : mm_lr g ((ls.set i v).set (i + 1) (9, 0)) L' := by
  refine ⟨by rw [h'.1, List.length_set, List.length_set], h'.2.1, fun j u hj hu => ?_⟩
  rw [List.getElem?_set] at hj
  by_cases e0 : i + 1 = j
  · subst e0
    rw [if_pos rfl] at hj
    split at hj
    · cases hj
      exact absurd rfl hu
    · cases hj
  rw [if_neg e0, List.getElem?_set] at hj
  by_cases e : i = j
  · subst e
    rw [if_pos rfl] at hj
    split at hj
    · cases hj
      exact ⟨hv, h'.2.2 _ List.mem_cons_self⟩
    · cases hj
  · rw [if_neg e] at hj
    refine ⟨(h.2.2 j u hj hu).1, h'.2.2 (j, mm_val g u) (List.mem_cons_of_mem _ (List.mem_filter.mpr ⟨mm_ll_mem.mpr ⟨u, hj, hu, rfl⟩, ?_⟩))⟩
    have n1 : (j == i) = false := by simpa using (Ne.symm e)
    have n2 : (j == i + 1) = false := by simpa using (Ne.symm e0)
    simp only [n1, n2, Bool.not_false, Bool.true_and, Bool.not_eq_true', Bool.and_eq_false_iff]
    by_cases e2 : j + 1 = i
    · right
      subst e2
      unfold mm_pv at hp
      simp only [hj] at hp
      rw [mm_cat]
      have : ¬ u.1 = 1 := by simpa using hp
      rw [if_neg this]
      rfl
    · left
      simpa using e2
theorem mm_en_sl {g : Nat → Nat → Nat} : ∀ (as : List mm_V), (lg_sl (as.map (mm_val g))).length = (mm_en as).length
  | [] => rfl
  | v :: r => by
    have ih := mm_en_sl (g := g) r
    have e : lg_sl ((v :: r).map (mm_val g)) = (if (mm_val g v).category = 2 then [.val (mm_val g v), .second] else [.val (mm_val g v)]) ++ lg_sl (r.map (mm_val g)) := rfl
    rw [e, List.length_append, ih, mm_cat]
    by_cases h1 : v.1 = 1
    · have b : (v.1 == 1) = true := by simpa using h1
      simp [mm_en, h1, b]
      omega
    · have b : (v.1 == 1) = false := by simpa using h1
      simp [mm_en, h1, b]
      omega
theorem mm_en_in {g : Nat → Nat → Nat} : ∀ (as : List mm_V) (base i : Nat) (v : mm_V), (mm_en as)[i]? = some v → v.1 ≠ 9 → v ∈ as ∧ (base + i, mm_val g v) ∈ lv_args base (as.map (mm_val g))
  | [], _, _, _, h, _ => by simp [mm_en] at h
  | u :: r, base, i, v, h, hv => by
    by_cases h1 : u.1 = 1
    · have b : (u.1 == 1) = true := by simpa using h1
      have c : (mm_val g u).category = 2 := by rw [mm_cat, if_pos h1]
      simp only [mm_en, b, cond_true] at h
      simp only [List.map_cons, lv_args, c, if_true]
      match i, h with
      | 0, h =>
        simp at h
        subst h
        exact ⟨List.mem_cons_self, List.mem_cons_self⟩
      | 1, h =>
        simp at h
        subst h
        exact absurd rfl hv
      | i + 2, h =>
        have h2 : (mm_en r)[i]? = some v := by simpa using h
        obtain ⟨m1, m2⟩ := mm_en_in (g := g) r (base + 2) i v h2 hv
        exact ⟨List.mem_cons_of_mem _ m1, List.mem_cons_of_mem _ (by rw [show base + (i + 2) = base + 2 + i by omega]; exact m2)⟩
    · have b : (u.1 == 1) = false := by simpa using h1
      have c : ¬ (mm_val g u).category = 2 := by rw [mm_cat, if_neg h1]; decide
      simp only [mm_en, b, cond_false] at h
      simp only [List.map_cons, lv_args, c, if_false]
      match i, h with
      | 0, h =>
        simp at h
        subst h
        exact ⟨List.mem_cons_self, List.mem_cons_self⟩
      | i + 1, h =>
        have h2 : (mm_en r)[i]? = some v := by simpa using h
        obtain ⟨m1, m2⟩ := mm_en_in (g := g) r (base + 1) i v h2 hv
        exact ⟨List.mem_cons_of_mem _ m1, List.mem_cons_of_mem _ (by rw [show base + (i + 1) = base + 1 + i by omega]; exact m2)⟩
/-- the locals at a method's entry -/
theorem mm_lr_entry {g : Nat → Nat → Nat} {as : List mm_V} {n : Nat} (hn : (mm_en as).length ≤ n) (hv : ∀ v ∈ as, mm_vok v) : mm_lr g (mm_fr n as) ((lg_sl (as.map (mm_val g)) ++ List.replicate (n - (lg_sl (as.map (mm_val g))).length) Slot.unset).toArray) := by
  have hl := lv_entry (as.map (mm_val g)) (n := n) (by rw [mm_en_sl]; exact hn)
  refine ⟨?_, hl.2.1, fun i v hi h9 => ?_⟩
  · rw [hl.1]
    simp [mm_fr]
    omega
  · unfold mm_fr at hi
    rw [List.getElem?_append] at hi
    split at hi
    · obtain ⟨m1, m2⟩ := mm_en_in (g := g) as 0 i v hi h9
      rw [Nat.zero_add] at m2
      exact ⟨hv v m1, hl.2.2 _ m2⟩
    · rw [List.getElem?_replicate] at hi
      split at hi
      · cases hi
        exact absurd rfl h9
      · cases hi
