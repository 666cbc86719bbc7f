/-! The kept kinds, instruction by instruction -/
theorem mm_mk1 {q : Nat} {ls : List mm_V} {s : Nat × List mm_V × List mm_V × mm_H} (h : mm_vl s.2.1 s.2.2.1 s.2.2.2) (hl : s.2.1.length = ls.length) {z : mm_O ⊕ ((Nat × List mm_V × List mm_V × mm_H) ⊕ (Nat × List mm_V × Nat × Nat × List mm_V × List mm_V × mm_H))} (hz : some (Sum.inr (Sum.inl s)) = some z) : mm_zok q ls z := by
  cases hz
  exact ⟨h, hl⟩
theorem mm_mk0 {q : Nat} {ls : List mm_V} {o : mm_O} (h : mm_ro (mm_rt q) o) {z : mm_O ⊕ ((Nat × List mm_V × List mm_V × mm_H) ⊕ (Nat × List mm_V × Nat × Nat × List mm_V × List mm_V × mm_H))} (hz : some (Sum.inl o) = some z) : mm_zok q ls z := by
  cases hz
  exact h
theorem mm_i0 {x : Int} (h : mm_i32 x) : mm_vok (0, x) := h
theorem mm_i2 (x : Int) : mm_vok (2, x) := trivial
theorem mm_lcmp_ok (x y : Int) : mm_i32 (mm_lcmp x y) := by
  unfold mm_lcmp mm_i32
  split
  · decide
  · split <;> decide
theorem mm_i1 {x : Int} (h : mm_i64 x) : mm_vok (1, x) := h
theorem mm_ofi {x : Int} (h : mm_i32 x) : mm_i64 x := ⟨by have := h.1; omega, by have := h.2; omega⟩
theorem mm_sm {x : Int} {a b : Int} (h1 : a ≤ x) (h2 : x < b) (ha : -2147483648 ≤ a) (hb : b ≤ 2147483648) : mm_i32 x := ⟨by omega, by omega⟩
theorem mm_txt_ok (s : Int) : ∀ x ∈ mm_txt s, 0 ≤ x ∧ x < 128 := by
  intro x hx
  unfold mm_txt at hx
  split at hx
  · revert x; decide
  · split at hx
    · revert x; decide
    · split at hx
      · revert x; decide
      · revert x; decide
theorem mm_txt_len (s : Int) : (mm_txt s).length ≤ 8 := by
  unfold mm_txt
  split
  · decide
  · split
    · decide
    · split <;> decide
theorem mm_mos_ok (i : Int) : 4 ≤ mm_mos i ∧ mm_mos i ≤ 7 := by
  unfold mm_mos
  split
  · decide
  · split
    · decide
    · split <;> decide
set_option maxHeartbeats 8000000 in
set_option maxRecDepth 100000 in
theorem mm_pres {q : Nat} {e : mm_E} (hc : mm_chk (mm_xq q) q e = true) (h2 : mm_ck2 e = true) {ls st : List mm_V} {h : mm_H} {z : mm_O ⊕ ((Nat × List mm_V × List mm_V × mm_H) ⊕ (Nat × List mm_V × Nat × Nat × List mm_V × List mm_V × mm_H))} (hv : mm_vl ls st h) (hs : mm_st e ls st h = some z) : mm_zok q ls z := by
  obtain ⟨pc, ins, len, aux, val⟩ := e
  cases ins
  case iconst n =>
    simp only [mm_st, mm_F] at hs
    simp only [mm_ck2, Bool.and_eq_true, decide_eq_true_eq] at h2
    exact mm_mk1 (hv.push (mm_i0 (by constructor <;> omega))) rfl hs
  case bipush n =>
    simp only [mm_st, mm_F] at hs
    simp only [mm_ck2, Bool.and_eq_true, decide_eq_true_eq] at h2
    exact mm_mk1 (hv.push (mm_i0 (by constructor <;> omega))) rfl hs
  case sipush n =>
    simp only [mm_st, mm_F] at hs
    simp only [mm_ck2, Bool.and_eq_true, decide_eq_true_eq] at h2
    exact mm_mk1 (hv.push (mm_i0 (by constructor <;> omega))) rfl hs
  case lconst n =>
    simp only [mm_st, mm_F] at hs
    exact mm_mk1 (hv.push (mm_i1 (by have := n.isLt; constructor <;> omega))) rfl hs
  case ldc i =>
    simp only [mm_st, mm_F] at hs
    simp only [mm_chk, Bool.and_eq_true, Bool.or_eq_true, beq_iff_eq] at hc
    obtain ⟨e1, hm⟩ := hc
    rw [e1] at hs
    exact mm_mk1 (hv.push (mm_i0 (mm_pk_ok _ (mm_elem hm)).2)) rfl hs
  case ldc_w i =>
    simp only [mm_st, mm_F] at hs
    simp only [mm_chk, Bool.and_eq_true, Bool.or_eq_true, beq_iff_eq] at hc
    rcases hc with ⟨e1, hm⟩ | ⟨e1, hm⟩
    · rw [e1] at hs
      exact mm_mk1 (hv.push (mm_i0 (mm_pk_ok _ (mm_elem hm)).2)) rfl hs
    · rw [e1] at hs
      refine mm_mk1 (hv.push ?_) rfl hs
      have hm := mm_elem hm
      have : ∀ z ∈ mm_ps, 0 ≤ z.2.2 ∧ z.2.2 < 4 := by decide
      exact this _ hm
  case ldc2_w i =>
    simp only [mm_st, mm_F] at hs
    simp only [mm_chk] at hc
    exact mm_mk1 (hv.push (mm_i1 (mm_pl_ok _ (mm_elem hc)).2)) rfl hs
  case iload_n i =>
    simp only [mm_st, mm_F] at hs
    obtain ⟨x, e1, hs⟩ := mm_ld_some hs
    exact mm_mk1 (hv.push (hv.1 _ _ e1 (by simp))) rfl hs
  case iload i =>
    simp only [mm_st, mm_F] at hs
    obtain ⟨x, e1, hs⟩ := mm_ld_some hs
    exact mm_mk1 (hv.push (hv.1 _ _ e1 (by simp))) rfl hs
  case lload_n i =>
    simp only [mm_st, mm_F] at hs
    obtain ⟨x, e1, hs⟩ := mm_ld_some hs
    exact mm_mk1 (hv.push (hv.1 _ _ e1 (by simp))) rfl hs
  case lload i =>
    simp only [mm_st, mm_F] at hs
    obtain ⟨x, e1, hs⟩ := mm_ld_some hs
    exact mm_mk1 (hv.push (hv.1 _ _ e1 (by simp))) rfl hs
  case aload_n i =>
    simp only [mm_st, mm_F] at hs
    obtain ⟨v, e1, -, -, e4, hs⟩ := mm_la_some hs
    exact mm_mk1 (hv.push (hv.1 _ _ e1 e4)) rfl hs
  case aload i =>
    simp only [mm_st, mm_F] at hs
    obtain ⟨v, e1, -, -, e4, hs⟩ := mm_la_some hs
    exact mm_mk1 (hv.push (hv.1 _ _ e1 e4)) rfl hs
  case istore_n i =>
    simp only [mm_st, mm_F] at hs
    obtain ⟨x, r, rfl, ht⟩ := mm_t1_some hs; clear hs; have hs := ht; clear ht
    obtain ⟨-, -, hs⟩ := mm_s1_some hs
    exact mm_mk1 (hv.pop.2.set fun _ => hv.pop.1) (List.length_set ..) hs
  case istore i =>
    simp only [mm_st, mm_F] at hs
    obtain ⟨x, r, rfl, ht⟩ := mm_t1_some hs; clear hs; have hs := ht; clear ht
    obtain ⟨-, -, hs⟩ := mm_s1_some hs
    exact mm_mk1 (hv.pop.2.set fun _ => hv.pop.1) (List.length_set ..) hs
  case lstore_n i =>
    simp only [mm_st, mm_F] at hs
    obtain ⟨x, r, rfl, ht⟩ := mm_t1_some hs; clear hs; have hs := ht; clear ht
    obtain ⟨-, -, hs⟩ := mm_s2_some hs
    exact mm_mk1 ((hv.pop.2.set fun _ => hv.pop.1).set fun w => absurd rfl w) (by simp) hs
  case lstore i =>
    simp only [mm_st, mm_F] at hs
    obtain ⟨x, r, rfl, ht⟩ := mm_t1_some hs; clear hs; have hs := ht; clear ht
    obtain ⟨-, -, hs⟩ := mm_s2_some hs
    exact mm_mk1 ((hv.pop.2.set fun _ => hv.pop.1).set fun w => absurd rfl w) (by simp) hs
  case astore_n i =>
    simp only [mm_st, mm_F] at hs
    obtain ⟨v, r, rfl, -, -, ht⟩ := mm_an_some hs; clear hs; have hs := ht; clear ht
    rw [show (bif v.1 == 0 then (none : mm_S) else _) = bif !(v.1 == 0) then _ else none by cases v.1 == 0 <;> rfl] at hs
    obtain ⟨-, hs⟩ := mm_bf_some hs
    obtain ⟨-, -, hs⟩ := mm_s1_some hs
    exact mm_mk1 (hv.pop.2.set fun _ => hv.pop.1) (List.length_set ..) hs
  case astore i =>
    simp only [mm_st, mm_F] at hs
    obtain ⟨v, r, rfl, -, -, ht⟩ := mm_an_some hs; clear hs; have hs := ht; clear ht
    rw [show (bif v.1 == 0 then (none : mm_S) else _) = bif !(v.1 == 0) then _ else none by cases v.1 == 0 <;> rfl] at hs
    obtain ⟨-, hs⟩ := mm_bf_some hs
    obtain ⟨-, -, hs⟩ := mm_s1_some hs
    exact mm_mk1 (hv.pop.2.set fun _ => hv.pop.1) (List.length_set ..) hs
  case iinc i n =>
    simp only [mm_st, mm_F] at hs
    obtain ⟨x, e1, hs⟩ := mm_ld_some hs
    obtain ⟨-, -, hs⟩ := mm_s1_some hs
    exact mm_mk1 (hv.set fun _ => mm_i0 (mm_w_ok _)) (List.length_set ..) hs
  case iadd =>
    simp only [mm_st, mm_F] at hs
    obtain ⟨y, r, rfl, ht⟩ := mm_t1_some hs; clear hs; have hs := ht; clear ht
    obtain ⟨x, r, rfl, ht⟩ := mm_t1_some hs; clear hs; have hs := ht; clear ht
    exact mm_mk1 (hv.pop.2.pop.2.push (mm_i0 (mm_w_ok _))) rfl hs
  case isub =>
    simp only [mm_st, mm_F] at hs
    obtain ⟨y, r, rfl, ht⟩ := mm_t1_some hs; clear hs; have hs := ht; clear ht
    obtain ⟨x, r, rfl, ht⟩ := mm_t1_some hs; clear hs; have hs := ht; clear ht
    exact mm_mk1 (hv.pop.2.pop.2.push (mm_i0 (mm_w_ok _))) rfl hs
  case imul =>
    simp only [mm_st, mm_F] at hs
    obtain ⟨y, r, rfl, ht⟩ := mm_t1_some hs; clear hs; have hs := ht; clear ht
    obtain ⟨x, r, rfl, ht⟩ := mm_t1_some hs; clear hs; have hs := ht; clear ht
    exact mm_mk1 (hv.pop.2.pop.2.push (mm_i0 (mm_w_ok _))) rfl hs
  case idiv =>
    simp only [mm_st, mm_F] at hs
    obtain ⟨y, r, rfl, ht⟩ := mm_t1_some hs; clear hs; have hs := ht; clear ht
    obtain ⟨x, r, rfl, ht⟩ := mm_t1_some hs; clear hs; have hs := ht; clear ht
    obtain ⟨-, hs⟩ := mm_ifn_some hs
    exact mm_mk1 (hv.pop.2.pop.2.push (mm_i0 (mm_t32 _))) rfl hs
  case irem =>
    simp only [mm_st, mm_F] at hs
    obtain ⟨y, r, rfl, ht⟩ := mm_t1_some hs; clear hs; have hs := ht; clear ht
    obtain ⟨x, r, rfl, ht⟩ := mm_t1_some hs; clear hs; have hs := ht; clear ht
    obtain ⟨-, hs⟩ := mm_ifn_some hs
    exact mm_mk1 (hv.pop.2.pop.2.push (mm_i0 (mm_t32 _))) rfl hs
  case ineg =>
    simp only [mm_st, mm_F] at hs
    obtain ⟨x, r, rfl, ht⟩ := mm_t1_some hs; clear hs; have hs := ht; clear ht
    exact mm_mk1 (hv.pop.2.push (mm_i0 (mm_w_ok _))) rfl hs
  case iand =>
    simp only [mm_st, mm_F] at hs
    obtain ⟨y, r, rfl, ht⟩ := mm_t1_some hs; clear hs; have hs := ht; clear ht
    obtain ⟨x, r, rfl, ht⟩ := mm_t1_some hs; clear hs; have hs := ht; clear ht
    exact mm_mk1 (hv.pop.2.pop.2.push (mm_i0 (mm_t32 _))) rfl hs
  case ior =>
    simp only [mm_st, mm_F] at hs
    obtain ⟨y, r, rfl, ht⟩ := mm_t1_some hs; clear hs; have hs := ht; clear ht
    obtain ⟨x, r, rfl, ht⟩ := mm_t1_some hs; clear hs; have hs := ht; clear ht
    exact mm_mk1 (hv.pop.2.pop.2.push (mm_i0 (mm_t32 _))) rfl hs
  case ixor =>
    simp only [mm_st, mm_F] at hs
    obtain ⟨y, r, rfl, ht⟩ := mm_t1_some hs; clear hs; have hs := ht; clear ht
    obtain ⟨x, r, rfl, ht⟩ := mm_t1_some hs; clear hs; have hs := ht; clear ht
    exact mm_mk1 (hv.pop.2.pop.2.push (mm_i0 (mm_t32 _))) rfl hs
  case ishl =>
    simp only [mm_st, mm_F] at hs
    obtain ⟨y, r, rfl, ht⟩ := mm_t1_some hs; clear hs; have hs := ht; clear ht
    obtain ⟨x, r, rfl, ht⟩ := mm_t1_some hs; clear hs; have hs := ht; clear ht
    exact mm_mk1 (hv.pop.2.pop.2.push (mm_i0 (mm_t32 _))) rfl hs
  case ishr =>
    simp only [mm_st, mm_F] at hs
    obtain ⟨y, r, rfl, ht⟩ := mm_t1_some hs; clear hs; have hs := ht; clear ht
    obtain ⟨x, r, rfl, ht⟩ := mm_t1_some hs; clear hs; have hs := ht; clear ht
    exact mm_mk1 (hv.pop.2.pop.2.push (mm_i0 (mm_t32 _))) rfl hs
  case iushr =>
    simp only [mm_st, mm_F] at hs
    obtain ⟨y, r, rfl, ht⟩ := mm_t1_some hs; clear hs; have hs := ht; clear ht
    obtain ⟨x, r, rfl, ht⟩ := mm_t1_some hs; clear hs; have hs := ht; clear ht
    exact mm_mk1 (hv.pop.2.pop.2.push (mm_i0 (mm_t32 _))) rfl hs
  case ladd =>
    simp only [mm_st, mm_F] at hs
    obtain ⟨y, r, rfl, ht⟩ := mm_t1_some hs; clear hs; have hs := ht; clear ht
    obtain ⟨x, r, rfl, ht⟩ := mm_t1_some hs; clear hs; have hs := ht; clear ht
    exact mm_mk1 (hv.pop.2.pop.2.push (mm_i1 (mm_wl_ok _))) rfl hs
  case lsub =>
    simp only [mm_st, mm_F] at hs
    obtain ⟨y, r, rfl, ht⟩ := mm_t1_some hs; clear hs; have hs := ht; clear ht
    obtain ⟨x, r, rfl, ht⟩ := mm_t1_some hs; clear hs; have hs := ht; clear ht
    exact mm_mk1 (hv.pop.2.pop.2.push (mm_i1 (mm_wl_ok _))) rfl hs
  case lmul =>
    simp only [mm_st, mm_F] at hs
    obtain ⟨y, r, rfl, ht⟩ := mm_t1_some hs; clear hs; have hs := ht; clear ht
    obtain ⟨x, r, rfl, ht⟩ := mm_t1_some hs; clear hs; have hs := ht; clear ht
    exact mm_mk1 (hv.pop.2.pop.2.push (mm_i1 (mm_wl_ok _))) rfl hs
  case ldiv =>
    simp only [mm_st, mm_F] at hs
    obtain ⟨y, r, rfl, ht⟩ := mm_t1_some hs; clear hs; have hs := ht; clear ht
    obtain ⟨x, r, rfl, ht⟩ := mm_t1_some hs; clear hs; have hs := ht; clear ht
    obtain ⟨-, hs⟩ := mm_ifn_some hs
    exact mm_mk1 (hv.pop.2.pop.2.push (mm_i1 (mm_t64 _))) rfl hs
  case lrem =>
    simp only [mm_st, mm_F] at hs
    obtain ⟨y, r, rfl, ht⟩ := mm_t1_some hs; clear hs; have hs := ht; clear ht
    obtain ⟨x, r, rfl, ht⟩ := mm_t1_some hs; clear hs; have hs := ht; clear ht
    obtain ⟨-, hs⟩ := mm_ifn_some hs
    exact mm_mk1 (hv.pop.2.pop.2.push (mm_i1 (mm_t64 _))) rfl hs
  case lor =>
    simp only [mm_st, mm_F] at hs
    obtain ⟨y, r, rfl, ht⟩ := mm_t1_some hs; clear hs; have hs := ht; clear ht
    obtain ⟨x, r, rfl, ht⟩ := mm_t1_some hs; clear hs; have hs := ht; clear ht
    exact mm_mk1 (hv.pop.2.pop.2.push (mm_i1 (mm_t64 _))) rfl hs
  case lshl =>
    simp only [mm_st, mm_F] at hs
    obtain ⟨y, r, rfl, ht⟩ := mm_t1_some hs; clear hs; have hs := ht; clear ht
    obtain ⟨x, r, rfl, ht⟩ := mm_t1_some hs; clear hs; have hs := ht; clear ht
    exact mm_mk1 (hv.pop.2.pop.2.push (mm_i1 (mm_t64 _))) rfl hs
  case lushr =>
    simp only [mm_st, mm_F] at hs
    obtain ⟨y, r, rfl, ht⟩ := mm_t1_some hs; clear hs; have hs := ht; clear ht
    obtain ⟨x, r, rfl, ht⟩ := mm_t1_some hs; clear hs; have hs := ht; clear ht
    exact mm_mk1 (hv.pop.2.pop.2.push (mm_i1 (mm_t64 _))) rfl hs
  case lcmp =>
    simp only [mm_st, mm_F] at hs
    obtain ⟨y, r, rfl, ht⟩ := mm_t1_some hs; clear hs; have hs := ht; clear ht
    obtain ⟨x, r, rfl, ht⟩ := mm_t1_some hs; clear hs; have hs := ht; clear ht
    exact mm_mk1 (hv.pop.2.pop.2.push (mm_i0 (mm_lcmp_ok _ _))) rfl hs
  case i2l =>
    simp only [mm_st, mm_F] at hs
    obtain ⟨x, r, rfl, ht⟩ := mm_t1_some hs; clear hs; have hs := ht; clear ht
    exact mm_mk1 (hv.pop.2.push (mm_i1 (mm_ofi hv.pop.1))) rfl hs
  case l2i =>
    simp only [mm_st, mm_F] at hs
    obtain ⟨x, r, rfl, ht⟩ := mm_t1_some hs; clear hs; have hs := ht; clear ht
    exact mm_mk1 (hv.pop.2.push (mm_i0 (mm_w_ok _))) rfl hs
  case i2b =>
    simp only [mm_st, mm_F] at hs
    obtain ⟨x, r, rfl, ht⟩ := mm_t1_some hs; clear hs; have hs := ht; clear ht
    exact mm_mk1 (hv.pop.2.push (mm_i0 (mm_sm (mm_w8_ok x).1 (mm_w8_ok x).2 (by decide) (by decide)))) rfl hs
  case dup =>
    simp only [mm_st, mm_F] at hs
    obtain ⟨v, r, rfl, -, -, ht⟩ := mm_an_some hs; clear hs; have hs := ht; clear ht
    exact mm_mk1 (hv.push hv.pop.1) rfl hs
  case dup2 =>
    simp only [mm_st, mm_F] at hs
    obtain ⟨v, r, rfl, -, -, ht⟩ := mm_an_some hs; clear hs; have hs := ht; clear ht
    obtain ⟨u, r, rfl, -, -, ht⟩ := mm_an_some hs; clear hs; have hs := ht; clear ht
    exact mm_mk1 ((hv.push hv.pop.2.pop.1).push hv.pop.1) rfl hs
  case pop =>
    simp only [mm_st, mm_F] at hs
    obtain ⟨v, r, rfl, -, -, ht⟩ := mm_an_some hs; clear hs; have hs := ht; clear ht
    exact mm_mk1 hv.pop.2 rfl hs
  case goto o =>
    simp only [mm_st, mm_F] at hs
    exact mm_mk1 hv rfl hs
  case aconst_null =>
    simp only [mm_st, mm_F] at hs
    exact mm_mk1 (hv.push (v := (6, 0)) trivial) rfl hs
  case ifnull o =>
    simp only [mm_st, mm_F] at hs
    obtain ⟨v, r, rfl, -, -, ht⟩ := mm_an_some hs; clear hs; have hs := ht; clear ht
    cases e6 : v.1 == 6 with
    | true => rw [e6] at hs; exact mm_mk1 hv.pop.2 rfl hs
    | false =>
      rw [e6] at hs
      obtain ⟨-, hs⟩ := mm_bf_some hs
      exact mm_mk1 hv.pop.2 rfl hs
  case ifnonnull o =>
    simp only [mm_st, mm_F] at hs
    obtain ⟨v, r, rfl, -, -, ht⟩ := mm_an_some hs; clear hs; have hs := ht; clear ht
    cases e6 : v.1 == 6 with
    | true => rw [e6] at hs; exact mm_mk1 hv.pop.2 rfl hs
    | false =>
      rw [e6] at hs
      obtain ⟨-, hs⟩ := mm_bf_some hs
      exact mm_mk1 hv.pop.2 rfl hs
  case ifCond c o =>
    cases c
    all_goals
      simp only [mm_st, mm_F] at hs
      obtain ⟨x, r, rfl, ht⟩ := mm_t1_some hs; clear hs; have hs := ht; clear ht
      split at hs <;> exact mm_mk1 hv.pop.2 rfl hs
  case if_icmp c o =>
    cases c
    all_goals
      simp only [mm_st, mm_F] at hs
      obtain ⟨y, r, rfl, ht⟩ := mm_t1_some hs; clear hs; have hs := ht; clear ht
      obtain ⟨x, r, rfl, ht⟩ := mm_t1_some hs; clear hs; have hs := ht; clear ht
      split at hs <;> exact mm_mk1 hv.pop.2.pop.2 rfl hs
  case if_acmp c o =>
    cases c
    all_goals
      simp only [mm_st, mm_F] at hs
      obtain ⟨y, r, rfl, ht⟩ := mm_t1_some hs; clear hs; have hs := ht; clear ht
      obtain ⟨x, r, rfl, ht⟩ := mm_t1_some hs; clear hs; have hs := ht; clear ht
      obtain ⟨-, hs⟩ := mm_bf_some hs
      split at hs <;> exact mm_mk1 hv.pop.2.pop.2 rfl hs
  case tableswitch d lo hi os =>
    simp only [mm_st, mm_F] at hs
    obtain ⟨x, r, rfl, ht⟩ := mm_t1_some hs; clear hs; have hs := ht; clear ht
    rcases mm_sw_some hs with ⟨j, o, -, -, hs⟩ | ⟨-, hs⟩ <;> exact mm_mk1 hv.pop.2 rfl hs
  case lookupswitch d ps =>
    simp only [mm_st, mm_F] at hs
    obtain ⟨x, r, rfl, ht⟩ := mm_t1_some hs; clear hs; have hs := ht; clear ht
    exact mm_mk1 hv.pop.2 rfl (mm_lk_some hs).1
  case getstatic i =>
    simp only [mm_st, mm_F] at hs
    simp only [mm_chk] at hc
    have hm := mm_elem hc
    have : ∀ z ∈ mm_pz, z.2.2.1 = 2 ∨ z.2.2.1 = 4 ∨ z.2.2.1 = 5 := by decide
    refine mm_mk1 (hv.push ?_) rfl hs
    rcases this _ hm with e1 | e1 | e1 <;> (simp only at e1; rw [e1]; trivial)
  case getfield i =>
    simp only [mm_st, mm_F] at hs
    obtain ⟨v, r, rfl, -, -, ht⟩ := mm_an_some hs; clear hs; have hs := ht; clear ht
    obtain ⟨e1, hs⟩ := mm_bf_some hs
    have e1 : v.1 = aux.getD 0 9 := by simpa using e1
    simp only [mm_chk] at hc
    have vv := hv.pop.1
    split at hs
    · rename_i hcd
      rw [hcd] at hc
      simp only [show ((0 : Nat) == 4) = false from rfl, cond_false, Bool.and_eq_true, Bool.or_eq_true, beq_iff_eq] at hc
      obtain ⟨r0, -, -, g1, g2, -⟩ := mm_pf_ok _ (mm_elem hc.1)
      simp only at g1 g2
      exact mm_mk1 (hv.pop.2.push (mm_i0 (mm_rdi hv.2.2 (mm_ref vv (by rw [e1]; exact g1)) (by rw [e1]; exact g2) (by rw [e1]; exact hc.2)))) rfl hs
    · rename_i hcd
      rw [hcd] at hc
      simp only [show ((1 : Nat) == 4) = false from rfl, cond_false, Bool.and_eq_true, beq_iff_eq] at hc
      obtain ⟨r0, -, -, g1, g2, -⟩ := mm_pf_ok _ (mm_elem hc.1)
      simp only at g1 g2
      exact mm_mk1 (hv.pop.2.push (mm_i1 (mm_rdl hv.2.2 (mm_ref vv (by rw [e1]; exact g1)) (by rw [e1]; exact g2) (by rw [e1]; exact hc.2)))) rfl hs
    · exact mm_mk1 (hv.pop.2.push (mm_i2 _)) rfl hs
    · rename_i hcd
      rw [hcd] at hc
      simp only [show ((3 : Nat) == 4) = false from rfl, cond_false, Bool.and_eq_true, beq_iff_eq] at hc
      obtain ⟨r0, hr0, g0, g1, g2, -⟩ := mm_pf_ok _ (mm_elem hc.1)
      simp only at g0 g1 g2 hr0
      have rf := mm_ref vv (by rw [e1]; exact g1)
      have e3 := hc.2
      have hk : aux.getD 1 0 < 47 := by
        have : ∀ t, t < 12 → ∀ r : vw_C, vwCl[t]? = some r → r.2.2 ≤ 47 := by
          intro t ht r hr
          match t, ht with
          | 0, _ => cases hr; decide
          | 1, _ => cases hr; decide
          | 2, _ => cases hr; decide
          | 3, _ => cases hr; decide
          | 4, _ => cases hr; decide
          | 5, _ => cases hr; decide
          | 6, _ => cases hr; decide
          | 7, _ => cases hr; decide
          | 8, _ => cases hr; decide
          | 9, _ => cases hr; decide
          | 10, _ => cases hr; decide
          | 11, _ => cases hr; decide
        exact Nat.lt_of_lt_of_le g0 (this _ (by omega) _ hr0)
      have L := mm_lay v.2.toNat (by omega) (aux.getD 1 0) hk (by rw [rf.2.2, e1, e3]) (by rw [rf.2.2, e1]; exact g2)
      rw [rf.2.2, e1, e3] at L
      simp only at L
      have t3 : 10 ≤ aux.getD 3 9 := by
        rw [← L.2]
        exact (mm_kd_ok _ L.1).1
      refine mm_mk1 (hv.pop.2.push (mm_ref' t3 ⟨by omega, by omega, ?_⟩)) rfl hs
      rw [show (v.2 + ((aux.getD 4 0 : Nat) : Int)).toNat = v.2.toNat + aux.getD 4 0 by omega]
      exact L.2
    · obtain ⟨-, hs⟩ := mm_bf_some hs
      exact mm_mk1 (hv.pop.2.push (mm_i1 (mm_key_ok _))) rfl hs
    · cases hs
  case putfield i =>
    simp only [mm_st, mm_F] at hs
    simp only [mm_chk, Bool.and_eq_true, beq_iff_eq] at hc
    obtain ⟨r0, -, -, g1, g2, -⟩ := mm_pf_ok _ (mm_elem hc.1.1)
    simp only at g1 g2
    have hcc := hc.1.2
    split at hs
    · rename_i hcd
      obtain ⟨x, r, rfl, ht⟩ := mm_t1_some hs; clear hs; have hs := ht; clear ht
      obtain ⟨v, r, rfl, -, -, ht⟩ := mm_an_some hs; clear hs; have hs := ht; clear ht
      obtain ⟨e1, hs⟩ := mm_bf_some hs
      have e1 : v.1 = aux.getD 0 9 := by simpa using e1
      refine mm_mk1 (hv.pop.2.pop.2.heap (mm_wrf hv.2.2 (mm_ref hv.pop.2.pop.1 (by rw [e1]; exact g1)) (by rw [e1]; exact g2) (fun _ => hv.pop.1) (fun w => ?_))) rfl hs
      rw [e1, hcc, hcd] at w
      cases w
    · rename_i hcd
      obtain ⟨x, r, rfl, ht⟩ := mm_t1_some hs; clear hs; have hs := ht; clear ht
      obtain ⟨v, r, rfl, -, -, ht⟩ := mm_an_some hs; clear hs; have hs := ht; clear ht
      obtain ⟨e1, hs⟩ := mm_bf_some hs
      have e1 : v.1 = aux.getD 0 9 := by simpa using e1
      refine mm_mk1 (hv.pop.2.pop.2.heap (mm_wrf hv.2.2 (mm_ref hv.pop.2.pop.1 (by rw [e1]; exact g1)) (by rw [e1]; exact g2) (fun w => ?_) (fun _ => hv.pop.1))) rfl hs
      rw [e1, hcc, hcd] at w
      rcases w with w | w <;> cases w
    · rename_i hcd
      obtain ⟨x, r, rfl, ht⟩ := mm_t1_some hs; clear hs; have hs := ht; clear ht
      obtain ⟨v, r, rfl, -, -, ht⟩ := mm_an_some hs; clear hs; have hs := ht; clear ht
      obtain ⟨e1, hs⟩ := mm_bf_some hs
      have e1 : v.1 = aux.getD 0 9 := by simpa using e1
      refine mm_mk1 (hv.pop.2.pop.2.heap (mm_wrf hv.2.2 (mm_ref hv.pop.2.pop.1 (by rw [e1]; exact g1)) (by rw [e1]; exact g2) (fun w => ?_) (fun w => ?_))) rfl hs
      · rw [e1, hcc, hcd] at w
        rcases w with w | w <;> cases w
      · rw [e1, hcc, hcd] at w
        cases w
    · rename_i hcd
      obtain ⟨x, r, rfl, ht⟩ := mm_t1_some hs; clear hs; have hs := ht; clear ht
      obtain ⟨v, r, rfl, -, -, ht⟩ := mm_an_some hs; clear hs; have hs := ht; clear ht
      obtain ⟨e1, hs⟩ := mm_bf_some hs
      obtain ⟨-, hs⟩ := mm_if_some hs
      have e1 : v.1 = aux.getD 0 9 := by simpa using e1
      refine mm_mk1 (hv.pop.2.pop.2.heap (mm_wrf hv.2.2 (mm_ref hv.pop.2.pop.1 (by rw [e1]; exact g1)) (by rw [e1]; exact g2) (fun _ => hv.pop.1) (fun w => ?_))) rfl hs
      rw [e1, hcc, hcd] at w
      cases w
    · cases hs
  case arraylength =>
    simp only [mm_st, mm_F] at hs
    obtain ⟨x, r, rfl, ht⟩ := mm_t1_some hs; clear hs; have hs := ht; clear ht
    exact mm_mk1 (hv.pop.2.push (mm_i0 ⟨by decide, by decide⟩)) rfl hs
  case iaload =>
    simp only [mm_st, mm_F] at hs
    obtain ⟨i, r, rfl, ht⟩ := mm_t1_some hs; clear hs; have hs := ht; clear ht
    obtain ⟨v, r, rfl, -, -, ht⟩ := mm_an_some hs; clear hs; have hs := ht; clear ht
    cases e5 : v.1 == 5 with
    | true =>
      rw [e5] at hs
      obtain ⟨-, hs⟩ := mm_if_some hs
      have := mm_mos_ok i
      exact mm_mk1 (hv.pop.2.pop.2.push (mm_i0 ⟨by omega, by omega⟩)) rfl hs
    | false =>
      rw [e5] at hs
      obtain ⟨e1, hs⟩ := mm_bf_some hs
      obtain ⟨e2, hs⟩ := mm_if_some hs
      have e1 : (mm_ak v.1).1 = 0 := by simpa using e1
      have t2 := mm_ak_ge e1 (by decide)
      exact mm_mk1 (hv.pop.2.pop.2.push (mm_i0 (mm_rai hv.2.2 (mm_ref hv.pop.2.pop.1 (by omega)) t2 e2.1 (Or.inl e1)))) rfl hs
  case laload =>
    simp only [mm_st, mm_F] at hs
    obtain ⟨i, r, rfl, ht⟩ := mm_t1_some hs; clear hs; have hs := ht; clear ht
    obtain ⟨v, r, rfl, -, -, ht⟩ := mm_an_some hs; clear hs; have hs := ht; clear ht
    obtain ⟨e1, hs⟩ := mm_bf_some hs
    obtain ⟨e2, hs⟩ := mm_if_some hs
    have e1 : (mm_ak v.1).1 = 1 := by simpa using e1
    have t2 := mm_ak_ge e1 (by decide)
    exact mm_mk1 (hv.pop.2.pop.2.push (mm_i1 (mm_ral hv.2.2 (mm_ref hv.pop.2.pop.1 (by omega)) t2 e2.1 e1))) rfl hs
  case baload =>
    simp only [mm_st, mm_F] at hs
    obtain ⟨i, r, rfl, ht⟩ := mm_t1_some hs; clear hs; have hs := ht; clear ht
    obtain ⟨v, r, rfl, -, -, ht⟩ := mm_an_some hs; clear hs; have hs := ht; clear ht
    obtain ⟨e1, hs⟩ := mm_bf_some hs
    obtain ⟨e2, hs⟩ := mm_if_some hs
    have e1 : (mm_ak v.1).1 = 3 ∨ (mm_ak v.1).1 = 4 := by simpa using e1
    have t2 : ¬ v.1 < 22 := by rcases e1 with q | q <;> exact mm_ak_ge q (by decide)
    exact mm_mk1 (hv.pop.2.pop.2.push (mm_i0 (mm_rai hv.2.2 (mm_ref hv.pop.2.pop.1 (by omega)) t2 e2.1 (Or.inr e1)))) rfl hs
  case aaload =>
    simp only [mm_st, mm_F] at hs
    obtain ⟨i, r, rfl, ht⟩ := mm_t1_some hs; clear hs; have hs := ht; clear ht
    obtain ⟨v, r, rfl, -, -, ht⟩ := mm_an_some hs; clear hs; have hs := ht; clear ht
    cases e5 : v.1 == 4 with
    | true =>
      rw [e5] at hs
      obtain ⟨-, hs⟩ := mm_if_some hs
      exact mm_mk1 (hv.pop.2.pop.2.push (mm_i2 _)) rfl hs
    | false =>
      rw [e5] at hs
      obtain ⟨e2, hs⟩ := mm_if_some hs
      have ref : ∀ c, (mm_ak v.1).1 = c → c ≠ 9 → 0 ≤ v.2 ∧ v.2 < 153 ∧ mm_kd v.2.toNat = v.1 := fun c hc1 hc2 => mm_ref hv.pop.2.pop.1 (by have := mm_ak_ge hc1 hc2; omega)
      split at hs
      · exact mm_mk1 (hv.pop.2.pop.2.push (mm_i2 _)) rfl hs
      · rename_i hcd
        have rf := ref _ hcd (by decide)
        have hn : (mm_ak v.1).2 ≤ 8 := by
          have : ∀ o, o < 153 → (mm_ak (mm_kd o)).1 = 5 → (mm_ak (mm_kd o)).2 ≤ 8 := by decide +kernel
          rw [← rf.2.2]
          exact this _ (by omega) (by rw [rf.2.2]; exact hcd)
        have L := mm_lay5 v.2.toNat (by omega) i.toNat (by omega) (by rw [rf.2.2]; exact hcd)
        refine mm_mk1 (hv.pop.2.pop.2.push (mm_ref' (by decide) ⟨by omega, by omega, ?_⟩)) rfl hs
        rw [show (v.2 + 1 + 4 * i).toNat = v.2.toNat + 1 + 4 * i.toNat by omega]
        exact L.2
      · rename_i hcd
        have rf := ref _ hcd (by decide)
        have hn : (mm_ak v.1).2 ≤ 2 := by
          have : ∀ o, o < 153 → (mm_ak (mm_kd o)).1 = 6 → (mm_ak (mm_kd o)).2 ≤ 2 := by decide +kernel
          rw [← rf.2.2]
          exact this _ (by omega) (by rw [rf.2.2]; exact hcd)
        have L := mm_lay6 v.2.toNat (by omega) i.toNat (by omega) (by rw [rf.2.2]; exact hcd)
        refine mm_mk1 (hv.pop.2.pop.2.push (mm_ref' (by decide) ⟨by omega, by omega, ?_⟩)) rfl hs
        rw [show (v.2 + 62 + 19 * i).toNat = v.2.toNat + 62 + 19 * i.toNat by omega]
        exact L.2
      · rename_i hcd
        have rf := ref _ hcd (by decide)
        have hn : (mm_ak v.1).2 ≤ 6 := by
          have : ∀ o, o < 153 → (mm_ak (mm_kd o)).1 = 7 → (mm_ak (mm_kd o)).2 ≤ 6 := by decide +kernel
          rw [← rf.2.2]
          exact this _ (by omega) (by rw [rf.2.2]; exact hcd)
        have L := mm_lay7 v.2.toNat (by omega) i.toNat (by omega) (by rw [rf.2.2]; exact hcd)
        refine mm_mk1 (hv.pop.2.pop.2.push (mm_ref' (by decide) ⟨by omega, by omega, ?_⟩)) rfl hs
        rw [show (v.2 + 1 + i).toNat = v.2.toNat + 1 + i.toNat by omega]
        exact L.2
      · cases hs
  case iastore =>
    simp only [mm_st, mm_F] at hs
    obtain ⟨x, r, rfl, ht⟩ := mm_t1_some hs; clear hs; have hs := ht; clear ht
    obtain ⟨i, r, rfl, ht⟩ := mm_t1_some hs; clear hs; have hs := ht; clear ht
    obtain ⟨v, r, rfl, -, -, ht⟩ := mm_an_some hs; clear hs; have hs := ht; clear ht
    obtain ⟨e1, hs⟩ := mm_bf_some hs
    obtain ⟨e2, hs⟩ := mm_if_some hs
    have e1 : (mm_ak v.1).1 = 0 := by simpa using e1
    have t2 := mm_ak_ge e1 (by decide)
    exact mm_mk1 (hv.pop.2.pop.2.pop.2.heap (mm_wra hv.2.2 (mm_ref hv.pop.2.pop.2.pop.1 (by omega)) t2 (fun _ => hv.pop.1) (fun w => by rw [e1] at w; cases w))) rfl hs
  case lastore =>
    simp only [mm_st, mm_F] at hs
    obtain ⟨x, r, rfl, ht⟩ := mm_t1_some hs; clear hs; have hs := ht; clear ht
    obtain ⟨i, r, rfl, ht⟩ := mm_t1_some hs; clear hs; have hs := ht; clear ht
    obtain ⟨v, r, rfl, -, -, ht⟩ := mm_an_some hs; clear hs; have hs := ht; clear ht
    obtain ⟨e1, hs⟩ := mm_bf_some hs
    obtain ⟨e2, hs⟩ := mm_if_some hs
    have e1 : (mm_ak v.1).1 = 1 := by simpa using e1
    have t2 := mm_ak_ge e1 (by decide)
    exact mm_mk1 (hv.pop.2.pop.2.pop.2.heap (mm_wra hv.2.2 (mm_ref hv.pop.2.pop.2.pop.1 (by omega)) t2 (fun w => by rw [e1] at w; rcases w with w | w | w <;> cases w) (fun _ => hv.pop.1))) rfl hs
  case aastore =>
    simp only [mm_st, mm_F] at hs
    obtain ⟨x, r, rfl, ht⟩ := mm_t1_some hs; clear hs; have hs := ht; clear ht
    obtain ⟨i, r, rfl, ht⟩ := mm_t1_some hs; clear hs; have hs := ht; clear ht
    obtain ⟨v, r, rfl, -, -, ht⟩ := mm_an_some hs; clear hs; have hs := ht; clear ht
    obtain ⟨e1, hs⟩ := mm_bf_some hs
    obtain ⟨e2, hs⟩ := mm_if_some hs
    have e1 : (mm_ak v.1).1 = 2 := by simpa using e1
    have t2 := mm_ak_ge e1 (by decide)
    exact mm_mk1 (hv.pop.2.pop.2.pop.2.heap (mm_wra hv.2.2 (mm_ref hv.pop.2.pop.2.pop.1 (by omega)) t2 (fun w => by rw [e1] at w; rcases w with w | w | w <;> cases w) (fun w => by rw [e1] at w; cases w))) rfl hs
  case bastore =>
    simp only [mm_st, mm_F] at hs
    obtain ⟨x, r, rfl, ht⟩ := mm_t1_some hs; clear hs; have hs := ht; clear ht
    obtain ⟨i, r, rfl, ht⟩ := mm_t1_some hs; clear hs; have hs := ht; clear ht
    obtain ⟨v, r, rfl, -, -, ht⟩ := mm_an_some hs; clear hs; have hs := ht; clear ht
    cases e3 : (mm_ak v.1).1 == 3 with
    | true =>
      rw [e3] at hs
      obtain ⟨e2, hs⟩ := mm_if_some hs
      have e1 : (mm_ak v.1).1 = 3 := by simpa using e3
      have t2 := mm_ak_ge e1 (by decide)
      exact mm_mk1 (hv.pop.2.pop.2.pop.2.heap (mm_wra hv.2.2 (mm_ref hv.pop.2.pop.2.pop.1 (by omega)) t2 (fun _ => mm_sm (mm_w8_ok x).1 (mm_w8_ok x).2 (by decide) (by decide)) (fun w => by rw [e1] at w; cases w))) rfl hs
    | false =>
      rw [e3] at hs
      obtain ⟨e1, hs⟩ := mm_bf_some hs
      obtain ⟨e2, hs⟩ := mm_if_some hs
      obtain ⟨-, hs⟩ := mm_if_some hs
      have e1 : (mm_ak v.1).1 = 4 := by simpa using e1
      have t2 := mm_ak_ge e1 (by decide)
      exact mm_mk1 (hv.pop.2.pop.2.pop.2.heap (mm_wra hv.2.2 (mm_ref hv.pop.2.pop.2.pop.1 (by omega)) t2 (fun _ => hv.pop.1) (fun w => by rw [e1] at w; cases w))) rfl hs
  case invokevirtual i =>
    simp only [mm_st, mm_F] at hs
    simp only [mm_chk] at hc
    split at hs
    · rename_i hcd
      rw [hcd] at hc
      simp only [Bool.and_eq_true, beq_iff_eq] at hc
      obtain ⟨e1, hs⟩ := mm_bf_some hs
      cases hs
      refine ⟨(mm_pm_ok _ (mm_elem hc.1.1.1)).1, fun v hm => hv.2.1 v ?_, hc.1.2, ⟨hv.1, fun v hm => hv.2.1 v (List.mem_of_mem_drop hm), hv.2.2⟩, rfl⟩
      exact List.mem_of_mem_take (List.mem_reverse.mp hm)
    · obtain ⟨x, r, rfl, ht⟩ := mm_t1_some hs; clear hs; have hs := ht; clear ht
      obtain ⟨-, hs⟩ := mm_ck_some hs
      have := mm_txt_len x
      exact mm_mk1 (hv.pop.2.push (mm_i0 ⟨by omega, by omega⟩)) rfl hs
    · obtain ⟨i, r, rfl, ht⟩ := mm_t1_some hs; clear hs; have hs := ht; clear ht
      obtain ⟨x, r, rfl, ht⟩ := mm_t1_some hs; clear hs; have hs := ht; clear ht
      obtain ⟨-, hs⟩ := mm_ck_some hs
      obtain ⟨e2, hs⟩ := mm_if_some hs
      refine mm_mk1 (hv.pop.2.pop.2.push (mm_i0 ?_)) rfl hs
      rw [List.getD_eq_getElem?_getD]
      cases ee : (mm_txt x)[i.toNat]? with
      | none => exact ⟨by decide, by decide⟩
      | some w =>
        have := mm_txt_ok x w (List.mem_of_getElem? ee)
        exact ⟨by simp only [Option.getD_some]; omega, by simp only [Option.getD_some]; omega⟩
    · cases hs
  case invokestatic i =>
    simp only [mm_st, mm_F] at hs
    simp only [mm_chk] at hc
    split at hs
    · rename_i hcd
      rw [hcd] at hc
      simp only [Bool.and_eq_true, Bool.or_eq_true, beq_iff_eq] at hc
      obtain ⟨e1, hs⟩ := mm_bf_some hs
      cases hs
      refine ⟨?_, fun v hm => hv.2.1 v ?_, hc.2, ⟨hv.1, fun v hm => hv.2.1 v (List.mem_of_mem_drop hm), hv.2.2⟩, rfl⟩
      · rcases hc.1.1 with w | w <;> exact (mm_pm_ok _ (mm_elem w)).1
      · exact List.mem_of_mem_take (List.mem_reverse.mp hm)
    · obtain ⟨y, r, rfl, ht⟩ := mm_t1_some hs; clear hs; have hs := ht; clear ht
      obtain ⟨x, r, rfl, ht⟩ := mm_t1_some hs; clear hs; have hs := ht; clear ht
      obtain ⟨-, hs⟩ := mm_ck_some hs
      have a : mm_i32 y := hv.pop.1
      have b : mm_i32 x := hv.pop.2.pop.1
      unfold mm_i32 at a b
      exact mm_mk1 (hv.pop.2.pop.2.push (mm_i0 ⟨by omega, by omega⟩)) rfl hs
    · obtain ⟨y, r, rfl, ht⟩ := mm_t1_some hs; clear hs; have hs := ht; clear ht
      obtain ⟨x, r, rfl, ht⟩ := mm_t1_some hs; clear hs; have hs := ht; clear ht
      obtain ⟨-, hs⟩ := mm_ck_some hs
      have a : mm_i32 y := hv.pop.1
      have b : mm_i32 x := hv.pop.2.pop.1
      unfold mm_i32 at a b
      exact mm_mk1 (hv.pop.2.pop.2.push (mm_i0 ⟨by omega, by omega⟩)) rfl hs
    · obtain ⟨x, r, rfl, ht⟩ := mm_t1_some hs; clear hs; have hs := ht; clear ht
      obtain ⟨-, hs⟩ := mm_ck_some hs
      exact mm_mk1 (hv.pop.2.push (mm_i0 (mm_w_ok _))) rfl hs
    · obtain ⟨n, r, rfl, ht⟩ := mm_t1_some hs; clear hs; have hs := ht; clear ht
      obtain ⟨j, r, rfl, ht⟩ := mm_t1_some hs; clear hs; have hs := ht; clear ht
      obtain ⟨b, r, rfl, -, -, ht⟩ := mm_an_some hs; clear hs; have hs := ht; clear ht
      obtain ⟨i, r, rfl, ht⟩ := mm_t1_some hs; clear hs; have hs := ht; clear ht
      obtain ⟨a, r, rfl, -, -, ht⟩ := mm_an_some hs; clear hs; have hs := ht; clear ht
      obtain ⟨-, hs⟩ := mm_ck_some hs
      obtain ⟨e1, hs⟩ := mm_bf_some hs
      simp only [Bool.and_eq_true, Bool.or_eq_true, beq_iff_eq, decide_eq_true_eq] at e1
      obtain ⟨⟨e1, e2⟩, e3, e4, e5, e6, e7⟩ := e1
      have ta : ¬ a.1 < 22 := by rcases e1 with q | q <;> exact mm_ak_ge q (by decide)
      have tb : ¬ b.1 < 22 := by rcases e1 with q | q <;> exact mm_ak_ge (e2.trans q) (by decide)
      have hb := hv.pop.2.pop.2.pop.1
      have ha := hv.pop.2.pop.2.pop.2.pop.2.pop.1
      exact mm_mk1 (hv.pop.2.pop.2.pop.2.pop.2.pop.2.heap (mm_wrc hv.2.2 (mm_ref ha (by omega)) (mm_ref hb (by omega)) e1 e2 e3)) rfl hs
    · cases hs
  case ireturn =>
    simp only [mm_st, mm_F] at hs
    obtain ⟨x, r, rfl, ht⟩ := mm_t1_some hs; clear hs; have hs := ht; clear ht
    obtain ⟨-, hs⟩ := mm_nl_some hs
    have hro : mm_ro (mm_rt q) (x, h) := by
      refine ⟨fun _ => ?_, hv.2.2⟩
      have : mm_rt q = 0 := by
        simp only [mm_chk] at hc
        unfold mm_rt
        split at hc
        · simp_all
        · simp_all
        · cases hc
      rw [this]
      exact hv.pop.1
    cases e5 : aux.headD 0 == 5 with
    | true =>
      rw [e5] at hs
      obtain ⟨-, hs⟩ := mm_if_some hs
      exact mm_mk0 hro hs
    | false =>
      rw [e5] at hs
      exact mm_mk0 hro hs
  case lreturn =>
    simp only [mm_st, mm_F] at hs
    obtain ⟨x, r, rfl, ht⟩ := mm_t1_some hs; clear hs; have hs := ht; clear ht
    obtain ⟨-, hs⟩ := mm_nl_some hs
    have e : mm_rt q = 1 := by simpa [mm_chk] using hc
    exact mm_mk0 ⟨fun _ => by rw [e]; exact hv.pop.1, hv.2.2⟩ hs
  case areturn =>
    simp only [mm_st, mm_F] at hs
    simp only [mm_chk] at hc
    cases e9 : aux.headD 0 == 6 with
    | true =>
      rw [e9] at hs hc
      simp only [cond_true, Bool.and_eq_true, beq_iff_eq] at hs hc
      obtain ⟨v, r, rfl, -, -, ht⟩ := mm_an_some hs; clear hs; have hs := ht; clear ht
      obtain ⟨-, hs⟩ := mm_nl_some hs
      have e := hc.2
      cases e6 : v.1 == 6 with
      | true =>
        rw [e6] at hs
        exact mm_mk0 ⟨fun _ => by rw [e]; exact trivial, hv.2.2⟩ hs
      | false =>
        rw [e6] at hs
        obtain ⟨e7, hs⟩ := mm_bf_some hs
        have e7 : v.1 = 16 := by simpa using e7
        have hr := mm_ref hv.pop.1 (by omega)
        refine mm_mk0 ⟨fun _ => ?_, hv.2.2⟩ hs
        have e8 : mm_tv (mm_rt q) v.2 = v := by
          rw [e]
          show (if v.2 < 0 then ((6, 0) : mm_V) else (16, v.2)) = v
          rw [if_neg (by omega), ← e7]
        show mm_vok (mm_tv (mm_rt q) v.2)
        rw [e8]
        exact hv.pop.1
    | false =>
      rw [e9] at hs hc
      simp only [cond_false, Bool.and_eq_true, beq_iff_eq] at hs hc
      obtain ⟨x, r, rfl, ht⟩ := mm_t1_some hs; clear hs; have hs := ht; clear ht
      obtain ⟨-, hs⟩ := mm_nl_some hs
      have e := hc.2
      exact mm_mk0 ⟨fun _ => by rw [e]; exact hv.pop.1, hv.2.2⟩ hs
  case return_ =>
    simp only [mm_st, mm_F] at hs
    obtain ⟨-, hs⟩ := mm_nl_some hs
    have e : mm_rt q = 8 := by simpa [mm_chk] using hc
    exact mm_mk0 ⟨fun w => absurd e w, hv.2.2⟩ hs
  all_goals (simp only [mm_st, mm_F] at hs; cases hs)
