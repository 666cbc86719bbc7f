/-! What the Statement gives of the law's start, as the small machine needs it -/
def nr : List Cond := flatC (Jvm.Cond.and given_1 narrow_1)
theorem nr_at {args : Array Value} {s : State} (hgv : (Jvm.Cond.and given_1 narrow_1).before args s = true) (i : Nat) {w : Cond} (h : nr[i]? = some w) : w.before args s = true := flat_of_before _ hgv _ (List.mem_of_getElem? h)
theorem tb_at {args : Array Value} {s : State} (hts : ∀ w ∈ lw_tbl, w.before args s = true) (i : Nat) {w : Cond} (h : tables_1[i]? = some w) : w.before args s = true := hts _ (List.mem_append_right _ (List.mem_of_getElem? h))
abbrev bgW : String := "HiccupTown$Word"
abbrev bgD : String := "LHiccupTown$Word;"
def bg_ex : List Nat := [4, 7, 10, 13, 88, 150, 153, 156, 123, 147, 57, 60, 63, 73, 79, 82, 85, 76, 96, 99, 102, 105, 111, 114, 117, 108, 162, 159, 120, 129, 132, 126, 135, 138, 141, 144]
def bg_ly : List Nat := [40, 440, 446, 448, 558, 1132, 1134, 1136, 1102, 1125, 468, 488, 494, 523, 531, 537, 552, 529, 1026, 1028, 1030, 1032, 1041, 1053, 1055, 1034, 1141, 1139, 1100, 1107, 1109, 1105, 1111, 1113, 1115, 1117]
theorem bg_1 : ∀ i, i < 36 → nr[bg_ex.getD i 0]? = some (.exactly (.static bgW (mm_wn.getD i "") bgD) bgW) := by decide +kernel
theorem bg_2 : ∀ i, i < 36 → nr[bg_ex.getD i 0 + 1]? = some (.eq (.field (.static bgW (mm_wn.getD i "") bgD) "java/lang/Enum" "ordinal" "I") (.int (Int32.ofNat i))) := by decide +kernel
theorem bg_3 : ∀ i, i < 36 → nr[bg_ex.getD i 0 + 2]? = some (.eq (.field (.static bgW (mm_wn.getD i "") bgD) bgW "key" "J") (.long (Int64.ofInt (mm_key (i : Int))))) := by decide +kernel
theorem bg_4 : ∀ i, i < 36 → nr[21 + i]? = some (.eq (.elem (.static bgW "ALL" "[LHiccupTown$Word;") (.int (Int32.ofNat i))) (.static bgW (mm_wn.getD i "") bgD)) := by decide +kernel
theorem bg_5 : ∀ i, i < 36 → tables_1[bg_ly.getD i 0]? = some (.laysStatic bgW (mm_wn.getD i "") bgD) := by decide +kernel
theorem bg_6 : ∀ i, i < 4 → nr[69 + i]? = some (.eq (.elem (.static "HiccupTown" "MOST_OF_SORT" "[I") (.int (Int32.ofNat i))) (.int (Int32.ofInt (mm_mos (i : Int))))) := by decide +kernel
def bg_st : List Nat := [225, 233, 241, 252]
def bg_sr : List Nat := [914, 971, 972, 973]
theorem bg_7 : ∀ k : Nat, k < 4 → nr[bg_st.getD k 0]? = some (.exactly (.string "HiccupTown" (mm_tix.getD k (0, "")).1) "java/lang/String") := by decide +kernel
theorem bg_8 : ∀ k : Nat, k < 4 → nr[bg_st.getD k 0 + 1]? = some (.eq (.field (.string "HiccupTown" (mm_tix.getD k (0, "")).1) "java/lang/String" "coder" "B") (.int 0)) := by decide +kernel
theorem bg_9 : ∀ k : Nat, k < 4 → nr[bg_st.getD k 0 + 2]? = some (.arrayOf (.field (.string "HiccupTown" (mm_tix.getD k (0, "")).1) "java/lang/String" "value" "[B") .byte) := by decide +kernel
theorem bg_10 : ∀ k : Nat, k < 4 → nr[bg_st.getD k 0 + 3]? = some (.eq (.length (.field (.string "HiccupTown" (mm_tix.getD k (0, "")).1) "java/lang/String" "value" "[B")) (.int (Int32.ofNat (mm_txt (k : Int)).length))) := by decide +kernel
theorem bg_11 : ∀ k : Nat, k < 4 → ∀ j : Nat, j < (mm_txt (k : Int)).length → nr[bg_st.getD k 0 + 4 + j]? = some (.eq (.elem (.field (.string "HiccupTown" (mm_tix.getD k (0, "")).1) "java/lang/String" "value" "[B") (.int (Int32.ofNat j))) (.int (Int32.ofInt ((mm_txt (k : Int)).getD j 0)))) := by decide +kernel
theorem bg_12 : ∀ k : Nat, k < 4 → tables_1[bg_sr.getD k 0]? = some (.stringRef "HiccupTown" (mm_tix.getD k (0, "")).1 (mm_tix.getD k (0, "")).2) := by decide +kernel
theorem bg_13 : ∀ k : Nat, k < 4 → (mm_txt (k : Int)).length < 2 ^ 31 := by decide
theorem bg_inj : ∀ i, i < 36 → ∀ j, j < 36 → Int32.ofNat i = Int32.ofNat j → i = j := by decide +kernel
section BG
variable {args : Array Value} {s : State} {A : Nat → Prop}
/-- the Words -/
theorem bg_words (hgv : (Jvm.Cond.and given_1 narrow_1).before args s = true) (hA : ∀ a : Nat, a < s.heap.size → ¬ A a) : ∃ ad : Nat → Nat, (∀ i, i < 36 → (Term.static bgW (mm_wn.getD i "") bgD).eval args s none [] s = some (.ref (ad i)) ∧ va_O bgW (ad i) A s s.heap) ∧ ∀ i j, i < 36 → j < 36 → ad i = ad j → i = j := by
  have h0 : ∀ i : Nat, ∃ t : Nat, i < 36 → (Term.static bgW (mm_wn.getD i "") bgD).eval args s none [] s = some (.ref t) ∧ va_O bgW t A s s.heap := by
    intro i
    by_cases hi : i < 36
    · obtain ⟨a, c, cell, k, q1, q2, q3, q4, q5, q6, -⟩ := Cond.exactly_spec (args := args) (first := s) (o := none) (s := s) (idx := []) (nr_at hgv _ (bg_1 i hi))
      exact ⟨a, fun _ => ⟨q1, cell, q3, q5, by rw [q6]; exact q2, hA a (Array.getElem?_eq_some_iff.mp q3).1⟩⟩
    · exact ⟨0, fun h => absurd h hi⟩
  obtain ⟨ad, had⟩ := Classical.axiomOfChoice h0
  refine ⟨ad, had, fun i j hi hj e => ?_⟩
  have e1 := va_eqt (nr_at hgv _ (bg_2 i hi))
  have e2 := va_eqt (nr_at hgv _ (bg_2 j hj))
  rw [va_fe (had i hi).1] at e1
  rw [va_fe (had j hj).1, ← e, e1] at e2
  exact bg_inj i hi j hj (Value.int.inj (Option.some.inj e2))
/-- the texts -/
theorem bg_strs (hgv : (Jvm.Cond.and given_1 narrow_1).before args s = true) (hA : ∀ a : Nat, a < s.heap.size → ¬ A a) : ∃ sd : Nat → Nat × Nat, ∀ k, k < 4 → (Term.string "HiccupTown" (mm_tix.getD k (0, "")).1).eval args s none [] s = some (.ref (sd k).1) ∧ va_O "java/lang/String" (sd k).1 A s s.heap ∧ va_OF "java/lang/String" "coder" "B" (.int 0) (sd k).1 A s s.heap ∧ va_OF "java/lang/String" "value" "[B" (.ref (sd k).2) (sd k).1 A s s.heap ∧ va_T .byte (sd k).2 (mm_txt (k : Int)).length (fun j => .int (Int32.ofInt ((mm_txt (k : Int)).getD j 0))) A s s.heap := by
  have h0 : ∀ k : Nat, ∃ q : Nat × Nat, k < 4 → (Term.string "HiccupTown" (mm_tix.getD k (0, "")).1).eval args s none [] s = some (.ref q.1) ∧ va_O "java/lang/String" q.1 A s s.heap ∧ va_OF "java/lang/String" "coder" "B" (.int 0) q.1 A s s.heap ∧ va_OF "java/lang/String" "value" "[B" (.ref q.2) q.1 A s s.heap ∧ va_T .byte q.2 (mm_txt (k : Int)).length (fun j => .int (Int32.ofInt ((mm_txt (k : Int)).getD j 0))) A s s.heap := by
    intro k
    by_cases hk : k < 4
    · obtain ⟨a, c, cell, kl, q1, q2, q3, q4, q5, q6, -⟩ := Cond.exactly_spec (args := args) (first := s) (o := none) (s := s) (idx := []) (nr_at hgv _ (bg_7 k hk))
      obtain ⟨t, ht, hT⟩ := va_Tof (f := fun j => .int (Int32.ofInt ((mm_txt (k : Int)).getD j 0))) (A := A) (bg_13 k hk) (nr_at hgv _ (bg_9 k hk)) (va_eqt (nr_at hgv _ (bg_10 k hk))) (fun j hj => va_eqt (nr_at hgv _ (bg_11 k hk j hj))) hA
      exact ⟨(a, t), fun _ => ⟨q1, ⟨cell, q3, q5, by rw [q6]; exact q2, hA a (Array.getElem?_eq_some_iff.mp q3).1⟩, vk_OFof q1 (va_eqt (nr_at hgv _ (bg_8 k hk))) hA, vk_OFof q1 ht hA, hT⟩⟩
    · exact ⟨(0, 0), fun h => absurd h hk⟩
  exact Classical.axiomOfChoice h0
def bg_g (ad : Nat → Nat) (sd : Nat → Nat × Nat) (tA tM : Nat) : Nat → Nat → Nat := fun n i => match n with
  | 0 => 0
  | 1 => ad i
  | 2 => (sd i).1
  | 3 => if i = 0 then tA else tM
  | _ => (sd i).2
/-- all of it: the addresses, and what lies there -/
theorem bg_all (hgv : (Jvm.Cond.and given_1 narrow_1).before args s = true) (hts : ∀ w ∈ lw_tbl, w.before args s = true) (hA : ∀ a : Nat, a < s.heap.size → ¬ A a) : ∃ g : Nat → Nat → Nat, mm_Z g A s s.heap ∧ mm_nw g s ∧ ∀ i j, i < 36 → j < 36 → g 1 i = g 1 j → i = j := by
  obtain ⟨ad, had, hinj⟩ := bg_words hgv hA
  obtain ⟨sd, hsd⟩ := bg_strs hgv hA
  have hini : (Cond.initialized bgW).before args s = true := tb_at hts 4 (by decide +kernel)
  obtain ⟨tA, eA, hTA⟩ := va_Tof (tm := .static bgW "ALL" "[LHiccupTown$Word;") (ty := .object bgW) (N := 36) (f := fun j => .ref (ad j)) (A := A) (by decide) (nr_at hgv 18 (by decide +kernel)) (va_eqt (nr_at hgv 19 (by decide +kernel))) (fun j hj => va_eqv (nr_at hgv _ (bg_4 j hj)) (had j hj).1) hA
  obtain ⟨tM, eM, hTM⟩ := va_Tof (tm := .static "HiccupTown" "MOST_OF_SORT" "[I") (ty := .int) (N := 4) (f := fun j => .int (Int32.ofInt (mm_mos (j : Int)))) (A := A) (by decide) (nr_at hgv 67 (by decide +kernel)) (va_eqt (nr_at hgv 68 (by decide +kernel))) (fun j hj => va_eqt (nr_at hgv _ (bg_6 j hj))) hA
  refine ⟨bg_g ad sd tA tM, ⟨fun i hi => va_Zref (tb_at hts _ (bg_5 i hi)) hini (had i hi).1 hA, va_Zref (tb_at hts 453 (by decide +kernel)) hini eA hA, hTA, va_Zref (tb_at hts 508 (by decide +kernel)) (tb_at hts 1 (by decide +kernel)) eM hA, hTM,
    va_Efof (E := bgW) (d0 := bgD) (nm := mm_wn) (tm := fun i => .long (Int64.ofInt (mm_key (i : Int)))) (fun i hi => (had i hi).1) (fun i hi => nr_at hgv _ (bg_3 i hi)) (fun _ _ => rfl) hA, fun i hi => (had i hi).2,
    va_Zof (tb_at hts 928 (by decide +kernel)) (tb_at hts 21 (by decide +kernel)) (va_eqt (nr_at hgv 91 (by decide +kernel))) hA, va_Zqof (tb_at hts 944 (by decide +kernel)) (tb_at hts 23 (by decide +kernel)) (nr_at hgv 92 (by decide +kernel)) hA, fun k hk => (hsd k hk).2⟩, ⟨fun w hw => ?_, fun k hk => vk_R.of (tb_at hts _ (bg_12 k hk)) (hsd k hk).1⟩, hinj⟩
  have h1 := List.mem_filter.mp hw
  refine va_Nw.of (A := args) ?_ (hts w h1.1)
  have h2 := h1.2
  cases w <;> first | rfl | (simp [mm_isN] at h2)
theorem bg_ns (hgv : (Jvm.Cond.and given_1 narrow_1).before args s = true) (hts : ∀ w ∈ lw_tbl, w.before args s = true) (hA : ∀ a : Nat, a < s.heap.size → ¬ A a) : ∃ sa sb : Nat, ns_N sa sb A s s.heap := by
  obtain ⟨a, c, cell, kl, q1, -⟩ := Cond.exactly_spec (args := args) (first := s) (o := none) (s := s) (idx := []) (t := .string "HiccupTown" 131) (cls := "java/lang/String") (nr_at hgv 264 (by decide +kernel))
  obtain ⟨b, c2, cell2, kl2, r1, -⟩ := Cond.exactly_spec (args := args) (first := s) (o := none) (s := s) (idx := []) (t := .string "HiccupTown" 157) (cls := "java/lang/String") (nr_at hgv 282 (by decide +kernel))
  have hit : (Cond.initialized Bundle.tN).before args s = true := tb_at hts 16 (by decide +kernel)
  refine ⟨a, b, fun w hw => ?_, vx_Zqof (tb_at hts 1232 (by decide +kernel)) hit (nr_at hgv 165 (by decide +kernel)) hA, vx_Zqof (tb_at hts 1234 (by decide +kernel)) hit (nr_at hgv 166 (by decide +kernel)) hA, vk_R.of (tb_at hts 1244 (by decide +kernel)) q1, vk_R.of (tb_at hts 1271 (by decide +kernel)) r1⟩
  refine va_Nw.of (A := args) (ns_tab w hw) ?_
  simp only [ns_W, List.mem_cons, List.not_mem_nil, or_false] at hw
  rcases hw with e | e | e | e
  · subst e; exact tb_at hts 1207 (by decide +kernel)
  · subst e; exact tb_at hts 1209 (by decide +kernel)
  · subst e; exact tb_at hts 1211 (by decide +kernel)
  · subst e; exact tb_at hts 1213 (by decide +kernel)
theorem bg_ao (hts : ∀ w ∈ lw_tbl, w.before args s = true) : mk_ao s := by
  intro ty hty
  simp only [List.mem_cons, List.not_mem_nil, or_false] at hty
  rcases hty with e | e | e | e
  · subst e; exact tb_at hts 232 (w := .arrayOver (.object "HiccupTown$Word")) (by decide +kernel)
  · subst e; exact tb_at hts 274 (w := .arrayOver (.object "HiccupTown$Moment")) (by decide +kernel)
  · subst e; exact tb_at hts 266 (w := .arrayOver (.object "HiccupTown$Scene")) (by decide +kernel)
  · subst e; exact tb_at hts 318 (w := .arrayOver (.array .int)) (by decide +kernel)
theorem bg_ar {cA : ClassId} {kA : Class} {comp : ClassId} {ty : FieldType} (h1 : s.vm.classes[cA]? = some kA) (h2 : kA.kind = .array comp ty) : ArrOfT s cA ty := fun _ _ => ⟨(fun q hq => by cases hq), kA, h1, comp, h2⟩
/-- the classes, and the array classes -/
theorem bg_K (hts : ∀ w ∈ lw_tbl, w.before args s = true) : ∃ (D : va_G) (cy : Nat → ClassId), va_K D vwCl (mm_tys cy) s := by
  obtain ⟨D, hD⟩ := lw_known (args := args) (s := s) (fun w hw => hts w (List.mem_filter.mp hw).1)
  obtain ⟨c0, k0, m0, a0, b0, d0⟩ := Cond.arrayClass_spec (args := args) (first := s) (o := none) (s := s) (idx := []) (type := .int) (tb_at hts 158 (by decide +kernel))
  obtain ⟨c1, k1, m1, a1, b1, d1⟩ := Cond.arrayClass_spec (args := args) (first := s) (o := none) (s := s) (idx := []) (type := .long) (tb_at hts 159 (by decide +kernel))
  obtain ⟨c3, k3, m3, a3, b3, d3⟩ := Cond.arrayClass_spec (args := args) (first := s) (o := none) (s := s) (idx := []) (type := .byte) (tb_at hts 82 (by decide +kernel))
  obtain ⟨c4, k4, m4, a4, b4, d4⟩ := Cond.arrayClass_spec (args := args) (first := s) (o := none) (s := s) (idx := []) (type := .boolean) (tb_at hts 310 (by decide +kernel))
  obtain ⟨m2, c2, k2, a2, -, b2, d2, e2⟩ := Cond.arrayOver_spec (args := args) (first := s) (o := none) (s := s) (idx := []) (n := "HiccupTown$Word") (tb_at hts 232 (by decide +kernel))
  obtain ⟨m5, c5, k5, a5, -, b5, d5, e5⟩ := Cond.arrayOver_spec (args := args) (first := s) (o := none) (s := s) (idx := []) (n := "HiccupTown$Moment") (tb_at hts 274 (by decide +kernel))
  obtain ⟨m6, c6, k6, a6, -, b6, d6, e6⟩ := Cond.arrayOver_spec (args := args) (first := s) (o := none) (s := s) (idx := []) (n := "HiccupTown$Scene") (tb_at hts 266 (by decide +kernel))
  obtain ⟨m7, c7, k7, a7, b7, d7, e7⟩ := Cond.arrayOver_specA (args := args) (first := s) (o := none) (s := s) (idx := []) (t := .int) (tb_at hts 318 (by decide +kernel))
  refine ⟨D, fun k => [c0, c1, c2, c3, c4, c5, c6, c7].getD k c0, hD, fun k q hq => ?_⟩
  by_cases hk : k < 8
  · rw [mm_tys_get hk] at hq
    cases hq
    match k, hk with
    | 0, _ => exact ⟨bg_ar b0 d0, a0⟩
    | 1, _ => exact ⟨bg_ar b1 d1, a1⟩
    | 2, _ => exact ⟨bg_ar b2 d2, k2, m2, b2, d2, a2, e2⟩
    | 3, _ => exact ⟨bg_ar b3 d3, a3⟩
    | 4, _ => exact ⟨bg_ar b4 d4, a4⟩
    | 5, _ => exact ⟨bg_ar b5 d5, k5, m5, b5, d5, a5, e5⟩
    | 6, _ => exact ⟨bg_ar b6 d6, k6, m6, b6, d6, a6, e6⟩
    | 7, _ => exact ⟨bg_ar b7 d7, e7⟩
  · have hl : k < (mm_tys (fun k => [c0, c1, c2, c3, c4, c5, c6, c7].getD k c0)).length := (List.getElem?_eq_some_iff.mp hq).1
    rw [show (mm_tys (fun k => [c0, c1, c2, c3, c4, c5, c6, c7].getD k c0)).length = 8 by simp [mm_tys]] at hl
    exact absurd hl hk
end BG
