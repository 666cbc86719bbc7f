/-! A step keeps numbers numbers of their length, and references references of their kind -/
theorem mm_t1_some {α : Type} {st : List mm_V} {t : Nat} {k : Int → List mm_V → Option α} {z : α} (h : mm_t1 st t none k = some z) : ∃ x r, st = (t, x) :: r ∧ k x r = some z := by
  unfold mm_t1 at h
  cases st with
  | nil => cases h
  | cons v r =>
    obtain ⟨a, b⟩ := v
    simp only at h
    cases e : a == t with
    | true => rw [e] at h; have : a = t := by simpa using e
              subst this; exact ⟨b, r, rfl, h⟩
    | false => rw [e] at h; cases h
theorem mm_an_some {α : Type} {st : List mm_V} {k : mm_V → List mm_V → Option α} {z : α} (h : mm_an st none k = some z) : ∃ v r, st = v :: r ∧ v.1 ≠ 1 ∧ v.1 ≠ 9 ∧ k v r = some z := by
  unfold mm_an at h
  cases st with
  | nil => cases h
  | cons v r =>
    simp only at h
    cases e : (v.1 == 1 || v.1 == 9) with
    | true => rw [e] at h; cases h
    | false =>
      rw [e] at h
      simp only [Bool.or_eq_false_iff, beq_eq_false_iff_ne] at e
      exact ⟨v, r, rfl, e.1, e.2, h⟩
theorem mm_nl_some {α : Type} {st : List mm_V} {k : Option α} {z : α} (h : mm_nl st none k = some z) : st = [] ∧ k = some z := by
  unfold mm_nl at h
  cases st with
  | nil => exact ⟨rfl, h⟩
  | cons v r => cases h
theorem mm_ld_some {α : Type} {ls : List mm_V} {i t : Nat} {k : Int → Option α} {z : α} (h : mm_ld ls i t none k = some z) : ∃ x, ls[i]? = some (t, x) ∧ k x = some z := by
  unfold mm_ld at h
  cases e : ls[i]? with
  | none => rw [e] at h; cases h
  | some v =>
    obtain ⟨a, b⟩ := v
    rw [e] at h
    simp only at h
    cases e2 : a == t with
    | true => rw [e2] at h; have : a = t := by simpa using e2
              subst this; exact ⟨b, rfl, h⟩
    | false => rw [e2] at h; cases h
theorem mm_la_some {α : Type} {ls : List mm_V} {i : Nat} {k : mm_V → Option α} {z : α} (h : mm_la ls i none k = some z) : ∃ v, ls[i]? = some v ∧ v.1 ≠ 0 ∧ v.1 ≠ 1 ∧ v.1 ≠ 9 ∧ k v = some z := by
  unfold mm_la at h
  cases e : ls[i]? with
  | none => rw [e] at h; cases h
  | some v =>
    rw [e] at h
    simp only at h
    cases e2 : (v.1 == 0 || v.1 == 1 || v.1 == 9) with
    | true => rw [e2] at h; cases h
    | false =>
      rw [e2] at h
      simp only [Bool.or_eq_false_iff, beq_eq_false_iff_ne] at e2
      exact ⟨v, rfl, e2.1.1, e2.1.2, e2.2, h⟩
theorem mm_s1_some {α : Type} {ls : List mm_V} {i : Nat} {v : mm_V} {k : List mm_V → Option α} {z : α} (h : mm_s1 ls i v none k = some z) : i < ls.length ∧ mm_pv ls i = true ∧ k (ls.set i v) = some z := by
  unfold mm_s1 at h
  cases e : (decide (i < ls.length) && mm_pv ls i) with
  | true =>
    rw [e] at h
    simp only [Bool.and_eq_true, decide_eq_true_eq] at e
    exact ⟨e.1, e.2, h⟩
  | false => rw [e] at h; cases h
theorem mm_s2_some {α : Type} {ls : List mm_V} {i : Nat} {v : mm_V} {k : List mm_V → Option α} {z : α} (h : mm_s2 ls i v none k = some z) : i + 1 < ls.length ∧ mm_pv ls i = true ∧ k ((ls.set i v).set (i + 1) (9, 0)) = some z := by
  unfold mm_s2 at h
  cases e : (decide (i + 1 < ls.length) && mm_pv ls i) with
  | true =>
    rw [e] at h
    simp only [Bool.and_eq_true, decide_eq_true_eq] at e
    exact ⟨e.1, e.2, h⟩
  | false => rw [e] at h; cases h
theorem mm_ck_some {α : Type} {st : List mm_V} {k : Option α} {z : α} (h : mm_ck st none k = some z) : mm_wd st ≤ 8 ∧ k = some z := by
  unfold mm_ck at h
  cases e : decide (mm_wd st ≤ 8) with
  | true => rw [e] at h; exact ⟨by simpa using e, h⟩
  | false => rw [e] at h; cases h
theorem mm_bf_some {α : Type} {b : Bool} {k : Option α} {z : α} (h : (bif b then k else none) = some z) : b = true ∧ k = some z := by
  cases b with
  | true => exact ⟨rfl, h⟩
  | false => cases h
theorem mm_if_some {α : Type} {c : Prop} [Decidable c] {k : Option α} {z : α} (h : (if c then k else none) = some z) : c ∧ k = some z := by
  split at h
  · exact ⟨by assumption, h⟩
  · cases h
theorem mm_ifn_some {α : Type} {c : Prop} [Decidable c] {k : Option α} {z : α} (h : (if c then none else k) = some z) : ¬ c ∧ k = some z := by
  split at h
  · cases h
  · exact ⟨by assumption, h⟩
theorem mm_sw_some {α : Type} {x : Int} {pc : Nat} {K : Nat → Option α} {d : Int} {z : α} : ∀ {os : List Int} {lo : Int}, mm_sw x pc K d lo os = some z → (∃ (j : Nat) (o : Int), os[j]? = some o ∧ x = lo + j ∧ K (mm_tg pc o) = some z) ∨ ((∀ j : Nat, j < os.length → x ≠ lo + j) ∧ K (mm_tg pc d) = some z)
  | [], lo, h => Or.inr ⟨fun j hj => absurd hj (Nat.not_lt_zero j), h⟩
  | o :: os, lo, h => by
    have h : (if x = lo then K (mm_tg pc o) else mm_sw x pc K d (lo + 1) os) = some z := h
    split at h
    · exact Or.inl ⟨0, o, rfl, by simpa using ‹x = lo›, h⟩
    · rcases mm_sw_some h with ⟨j, o', h1, h2, h3⟩ | ⟨h1, h2⟩
      · exact Or.inl ⟨j + 1, o', h1, by omega, h3⟩
      · refine Or.inr ⟨fun j hj => ?_, h2⟩
        cases j with
        | zero => simpa using ‹¬ x = lo›
        | succ j =>
          have := h1 j (by simpa using hj)
          omega
theorem mm_lk_some {α : Type} {x : Int} {pc : Nat} {K : Nat → Option α} {d : Int} {z : α} : ∀ {os : List (Int × Int)}, mm_lk x pc K d os = some z → K (mm_tg pc (Op.lookupswitch.offset os d x)) = some z ∧ (Op.lookupswitch.offset os d x = d ∨ ∃ p ∈ os, Op.lookupswitch.offset os d x = p.2)
  | [], h => ⟨h, Or.inl rfl⟩
  | o :: os, h => by
    have h : (if x = o.1 then K (mm_tg pc o.2) else mm_lk x pc K d os) = some z := h
    obtain ⟨a, b⟩ := o
    rw [Op.lookupswitch.offset_cons]
    by_cases e : x = a
    · rw [if_pos e] at h
      rw [if_pos (by first | exact e | exact e.symm)]
      exact ⟨h, Or.inr ⟨(a, b), List.mem_cons_self, rfl⟩⟩
    · rw [if_neg e] at h
      rw [if_neg (by first | exact e | exact fun q => e q.symm)]
      obtain ⟨h1, h2⟩ := mm_lk_some h
      refine ⟨h1, ?_⟩
      rcases h2 with h2 | ⟨p, hp, h2⟩
      · exact Or.inl h2
      · exact Or.inr ⟨p, List.mem_cons_of_mem _ hp, h2⟩
theorem mm_w_ok (x : Int) : mm_i32 (mm_w x) := by
  unfold mm_w mm_i32
  have h1 := Int.le_bmod (x := x) (m := 4294967296) (by decide)
  have h2 := Int.bmod_lt (x := x) (m := 4294967296) (by decide)
  omega
theorem mm_wl_ok (x : Int) : mm_i64 (mm_wl x) := by
  unfold mm_wl mm_i64
  have h1 := Int.le_bmod (x := x) (m := 18446744073709551616) (by decide)
  have h2 := Int.bmod_lt (x := x) (m := 18446744073709551616) (by decide)
  omega
theorem mm_w8_ok (x : Int) : -128 ≤ mm_w8 x ∧ mm_w8 x < 128 := by
  unfold mm_w8
  have h1 := Int.le_bmod (x := x) (m := 256) (by decide)
  have h2 := Int.bmod_lt (x := x) (m := 256) (by decide)
  omega
theorem mm_t32 (x : Int32) : mm_i32 x.toInt := ⟨Int32.le_toInt x, Int32.toInt_lt x⟩
theorem mm_t64 (x : Int64) : mm_i64 x.toInt := ⟨Int64.le_toInt x, Int64.toInt_lt x⟩
theorem mm_keys_ok : ∀ x ∈ mm_keys, 0 ≤ x ∧ x < 9223372036854775808 := by decide +kernel
theorem mm_key_ok (i : Int) : mm_i64 (mm_key i) := by
  unfold mm_key
  rw [List.getD_eq_getElem?_getD]
  cases e : mm_keys[i.toNat]? with
  | none => exact ⟨by decide, by decide⟩
  | some v =>
    have := mm_keys_ok v (List.mem_of_getElem? e)
    exact ⟨by simp only [Option.getD_some]; omega, by simp only [Option.getD_some]; omega⟩
def mm_vl (ls st : List mm_V) (h : mm_H) : Prop := (∀ (i : Nat) (v : mm_V), ls[i]? = some v → v.1 ≠ 9 → mm_vok v) ∧ (∀ v ∈ st, mm_vok v) ∧ mm_rg h
theorem mm_vl.push {ls st : List mm_V} {h : mm_H} {v : mm_V} (a : mm_vl ls st h) (b : mm_vok v) : mm_vl ls (v :: st) h := ⟨a.1, List.forall_mem_cons.mpr ⟨b, a.2.1⟩, a.2.2⟩
theorem mm_vl.pop {ls st : List mm_V} {h : mm_H} {v : mm_V} (a : mm_vl ls (v :: st) h) : mm_vok v ∧ mm_vl ls st h := ⟨(List.forall_mem_cons.mp a.2.1).1, a.1, (List.forall_mem_cons.mp a.2.1).2, a.2.2⟩
theorem mm_vl.set {ls st : List mm_V} {h : mm_H} {i : Nat} {v : mm_V} (a : mm_vl ls st h) (b : v.1 ≠ 9 → mm_vok v) : mm_vl (ls.set i v) st h := by
  refine ⟨fun j u hj hu => ?_, a.2⟩
  rw [List.getElem?_set] at hj
  by_cases e : i = j
  · subst e
    rw [if_pos rfl] at hj
    split at hj
    · cases hj
      exact b hu
    · cases hj
  · rw [if_neg e] at hj
    exact a.1 j u hj hu
theorem mm_vl.heap {ls st : List mm_V} {h h' : mm_H} (a : mm_vl ls st h) (b : mm_rg h') : mm_vl ls st h' := ⟨a.1, a.2.1, b⟩
/-- of a step's end -/
def mm_zok (q : Nat) (ls : List mm_V) (z : mm_O ⊕ ((Nat × List mm_V × List mm_V × mm_H) ⊕ (Nat × List mm_V × Nat × Nat × List mm_V × List mm_V × mm_H))) : Prop := match z with
  | .inl o => mm_ro (mm_rt q) o
  | .inr (.inl s) => mm_vl s.2.1 s.2.2.1 s.2.2.2 ∧ s.2.1.length = ls.length
  | .inr (.inr s) => s.1 < 286 ∧ (∀ v ∈ s.2.1, mm_vok v) ∧ s.2.2.1 = mm_rt s.1 ∧ mm_vl s.2.2.2.2.1 s.2.2.2.2.2.1 s.2.2.2.2.2.2 ∧ s.2.2.2.2.1 = ls
theorem mm_ref {v : mm_V} (h : mm_vok v) (h1 : 10 ≤ v.1) : 0 ≤ v.2 ∧ v.2 < 153 ∧ mm_kd v.2.toNat = v.1 := by
  obtain ⟨t, x⟩ := v
  unfold mm_vok at h
  split at h <;> simp_all
theorem mm_ref' {t : Nat} {x : Int} (h1 : 10 ≤ t) (h : 0 ≤ x ∧ x < 153 ∧ mm_kd x.toNat = t) : mm_vok (t, x) := by
  unfold mm_vok
  split <;> simp_all
theorem mm_elem {α : Type} [BEq α] [LawfulBEq α] {a : α} {l : List α} (h : l.elem a = true) : a ∈ l := List.mem_of_elem_eq_true h
theorem mm_rdi {h : mm_H} (hr : mm_rg h) {o : Int} {t k : Nat} (h0 : 0 ≤ o ∧ o < 153 ∧ mm_kd o.toNat = t) (ht : t < 22) (hc : (mm_fcd t k).1 = 0 ∨ (mm_fcd t k).1 = 5) : mm_i32 (h o k) := by
  obtain ⟨a, b, c⟩ := h0
  have h1 := ((hr o.toNat (k : Int) (by omega) (by omega)).1).1
  rw [show ((o.toNat : Nat) : Int) = o by omega] at h1
  exact h1 (by rw [c]; exact ht) (by unfold mm_cd; rw [c, if_pos ht]; simpa using hc)
theorem mm_rdl {h : mm_H} (hr : mm_rg h) {o : Int} {t k : Nat} (h0 : 0 ≤ o ∧ o < 153 ∧ mm_kd o.toNat = t) (ht : t < 22) (hc : (mm_fcd t k).1 = 1) : mm_i64 (h o k) := by
  obtain ⟨a, b, c⟩ := h0
  have h1 := (hr o.toNat (k : Int) (by omega) (by omega)).2
  rw [show ((o.toNat : Nat) : Int) = o by omega] at h1
  exact h1 (by unfold mm_cd; rw [c, if_pos ht]; simpa using hc)
theorem mm_rai {h : mm_H} (hr : mm_rg h) {o i : Int} {t : Nat} (h0 : 0 ≤ o ∧ o < 153 ∧ mm_kd o.toNat = t) (ht : ¬ t < 22) (hi : 0 ≤ i) (hc : (mm_ak t).1 = 0 ∨ (mm_ak t).1 = 3 ∨ (mm_ak t).1 = 4) : mm_i32 (h o i) := by
  obtain ⟨a, b, c⟩ := h0
  have h1 := ((hr o.toNat i (by omega) hi).1).2
  rw [show ((o.toNat : Nat) : Int) = o by omega] at h1
  exact h1 (by rw [c]; exact ht) (by unfold mm_cd; rw [c, if_neg ht]; exact hc)
theorem mm_ral {h : mm_H} (hr : mm_rg h) {o i : Int} {t : Nat} (h0 : 0 ≤ o ∧ o < 153 ∧ mm_kd o.toNat = t) (ht : ¬ t < 22) (hi : 0 ≤ i) (hc : (mm_ak t).1 = 1) : mm_i64 (h o i) := by
  obtain ⟨a, b, c⟩ := h0
  have h1 := (hr o.toNat i (by omega) hi).2
  rw [show ((o.toNat : Nat) : Int) = o by omega] at h1
  exact h1 (by unfold mm_cd; rw [c, if_neg ht]; exact hc)
theorem mm_ak_ge {t n : Nat} (h : (mm_ak t).1 = n) (hn : n ≠ 9) : ¬ t < 22 := by
  intro q
  unfold mm_ak at h
  rw [if_pos q] at h
  exact hn h.symm
/-- a field is written -/
theorem mm_wrf {h : mm_H} (hr : mm_rg h) {o x : Int} {t k : Nat} (h0 : 0 ≤ o ∧ o < 153 ∧ mm_kd o.toNat = t) (ht : t < 22) (hc : ((mm_fcd t k).1 = 0 ∨ (mm_fcd t k).1 = 5) → mm_i32 x) (hl : (mm_fcd t k).1 = 1 → mm_i64 x) : mm_rg (mm_up h o k x) := by
  obtain ⟨a, b, c⟩ := h0
  have e : o = ((o.toNat : Nat) : Int) := by omega
  rw [e]
  have e2 : mm_cd o.toNat (k : Int) = (mm_fcd t k).1 := by unfold mm_cd; rw [c, if_pos ht]; simp
  refine mm_rg_up hr ⟨⟨fun _ q => hc (by rw [← e2]; exact q), fun q => absurd (by rw [c]; exact ht) q⟩, fun q => hl (by rw [← e2]; exact q)⟩
theorem mm_wra {h : mm_H} (hr : mm_rg h) {o i x : Int} {t : Nat} (h0 : 0 ≤ o ∧ o < 153 ∧ mm_kd o.toNat = t) (ht : ¬ t < 22) (hc : ((mm_ak t).1 = 0 ∨ (mm_ak t).1 = 3 ∨ (mm_ak t).1 = 4) → mm_i32 x) (hl : (mm_ak t).1 = 1 → mm_i64 x) : mm_rg (mm_up h o i x) := by
  obtain ⟨a, b, c⟩ := h0
  have e : o = ((o.toNat : Nat) : Int) := by omega
  rw [e]
  have e2 : mm_cd o.toNat i = (mm_ak t).1 := by unfold mm_cd; rw [c, if_neg ht]
  refine mm_rg_up hr ⟨⟨fun q => absurd (by rw [← c]; exact q) ht, fun _ q => hc (by rw [← e2]; exact q)⟩, fun q => hl (by rw [← e2]; exact q)⟩
theorem mm_wrc {h : mm_H} (hr : mm_rg h) {a b i j n : Int} {t u : Nat} (ha : 0 ≤ a ∧ a < 153 ∧ mm_kd a.toNat = t) (hb : 0 ≤ b ∧ b < 153 ∧ mm_kd b.toNat = u) (ht : (mm_ak t).1 = 0 ∨ (mm_ak t).1 = 1) (hu : (mm_ak u).1 = (mm_ak t).1) (hi : 0 ≤ i) : mm_rg (mm_cp h a i b j n) := by
  have t2 : ¬ t < 22 := by
    rcases ht with q | q
    · exact mm_ak_ge q (by decide)
    · exact mm_ak_ge q (by decide)
  have u2 : ¬ u < 22 := by
    rcases ht with q | q
    · exact mm_ak_ge (hu.trans q) (by decide)
    · exact mm_ak_ge (hu.trans q) (by decide)
  intro o k ho hk
  have cu : mm_cd b.toNat k = (mm_ak u).1 := by unfold mm_cd; rw [hb.2.2, if_neg u2]
  unfold mm_cp
  by_cases e : (o : Int) = b ∧ j ≤ k ∧ k < j + n
  · rw [if_pos e]
    have eo : o = b.toNat := by omega
    subst eo
    refine ⟨⟨fun q => absurd (by rw [← hb.2.2]; exact q) u2, fun _ q => ?_⟩, fun q => ?_⟩
    · refine mm_rai hr ha t2 (by omega) ?_
      rw [cu, hu] at q
      exact q
    · refine mm_ral hr ha t2 (by omega) ?_
      rw [cu, hu] at q
      exact q
  · rw [if_neg e]
    exact hr o k ho hk
