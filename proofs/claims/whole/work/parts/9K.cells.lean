/-! The cells of class and reference at the start, as the small machine has them -/
set_option maxRecDepth 100000 in
theorem ct_all (cy : Nat → ClassId) (g : Nat → Nat → Nat) (r : Nat → Nat) (a : Nat) (q : Nat → Nat) : ∀ o, o < 133 → mk_to (ce_Town cy g r o) (mm_ce (mm_g g r a q) cy mm_h0 o)
  | 0, _ => ct_0 cy g r a q
  | 1, _ => ct_1 cy g r a q
  | 2, _ => ct_2 cy g r a q
  | 3, _ => ct_3 cy g r a q
  | 4, _ => ct_4 cy g r a q
  | 5, _ => ct_5 cy g r a q
  | 6, _ => ct_6 cy g r a q
  | 7, _ => ct_7 cy g r a q
  | 8, _ => ct_8 cy g r a q
  | 9, _ => ct_9 cy g r a q
  | 10, _ => ct_10 cy g r a q
  | 11, _ => ct_11 cy g r a q
  | 12, _ => ct_12 cy g r a q
  | 13, _ => ct_13 cy g r a q
  | 14, _ => ct_14 cy g r a q
  | 15, _ => ct_15 cy g r a q
  | 16, _ => ct_16 cy g r a q
  | 17, _ => ct_17 cy g r a q
  | 18, _ => ct_18 cy g r a q
  | 19, _ => ct_19 cy g r a q
  | 20, _ => ct_20 cy g r a q
  | 21, _ => ct_21 cy g r a q
  | 22, _ => ct_22 cy g r a q
  | 23, _ => ct_23 cy g r a q
  | 24, _ => ct_24 cy g r a q
  | 25, _ => ct_25 cy g r a q
  | 26, _ => ct_26 cy g r a q
  | 27, _ => ct_27 cy g r a q
  | 28, _ => ct_28 cy g r a q
  | 29, _ => ct_29 cy g r a q
  | 30, _ => ct_30 cy g r a q
  | 31, _ => ct_31 cy g r a q
  | 32, _ => ct_32 cy g r a q
  | 33, _ => ct_33 cy g r a q
  | 34, _ => ct_34 cy g r a q
  | 35, _ => ct_35 cy g r a q
  | 36, _ => ct_36 cy g r a q
  | 37, _ => ct_37 cy g r a q
  | 38, _ => ct_38 cy g r a q
  | 39, _ => ct_39 cy g r a q
  | 40, _ => ct_40 cy g r a q
  | 41, _ => ct_41 cy g r a q
  | 42, _ => ct_42 cy g r a q
  | 43, _ => ct_43 cy g r a q
  | 44, _ => ct_44 cy g r a q
  | 45, _ => ct_45 cy g r a q
  | 46, _ => ct_46 cy g r a q
  | 47, _ => ct_47 cy g r a q
  | 48, _ => ct_48 cy g r a q
  | 49, _ => ct_49 cy g r a q
  | 50, _ => ct_50 cy g r a q
  | 51, _ => ct_51 cy g r a q
  | 52, _ => ct_52 cy g r a q
  | 53, _ => ct_53 cy g r a q
  | 54, _ => ct_54 cy g r a q
  | 55, _ => ct_55 cy g r a q
  | 56, _ => ct_56 cy g r a q
  | 57, _ => ct_57 cy g r a q
  | 58, _ => ct_58 cy g r a q
  | 59, _ => ct_59 cy g r a q
  | 60, _ => ct_60 cy g r a q
  | 61, _ => ct_61 cy g r a q
  | 62, _ => ct_62 cy g r a q
  | 63, _ => ct_63 cy g r a q
  | 64, _ => ct_64 cy g r a q
  | 65, _ => ct_65 cy g r a q
  | 66, _ => ct_66 cy g r a q
  | 67, _ => ct_67 cy g r a q
  | 68, _ => ct_68 cy g r a q
  | 69, _ => ct_69 cy g r a q
  | 70, _ => ct_70 cy g r a q
  | 71, _ => ct_71 cy g r a q
  | 72, _ => ct_72 cy g r a q
  | 73, _ => ct_73 cy g r a q
  | 74, _ => ct_74 cy g r a q
  | 75, _ => ct_75 cy g r a q
  | 76, _ => ct_76 cy g r a q
  | 77, _ => ct_77 cy g r a q
  | 78, _ => ct_78 cy g r a q
  | 79, _ => ct_79 cy g r a q
  | 80, _ => ct_80 cy g r a q
  | 81, _ => ct_81 cy g r a q
  | 82, _ => ct_82 cy g r a q
  | 83, _ => ct_83 cy g r a q
  | 84, _ => ct_84 cy g r a q
  | 85, _ => ct_85 cy g r a q
  | 86, _ => ct_86 cy g r a q
  | 87, _ => ct_87 cy g r a q
  | 88, _ => ct_88 cy g r a q
  | 89, _ => ct_89 cy g r a q
  | 90, _ => ct_90 cy g r a q
  | 91, _ => ct_91 cy g r a q
  | 92, _ => ct_92 cy g r a q
  | 93, _ => ct_93 cy g r a q
  | 94, _ => ct_94 cy g r a q
  | 95, _ => ct_95 cy g r a q
  | 96, _ => ct_96 cy g r a q
  | 97, _ => ct_97 cy g r a q
  | 98, _ => ct_98 cy g r a q
  | 99, _ => ct_99 cy g r a q
  | 100, _ => ct_100 cy g r a q
  | 101, _ => ct_101 cy g r a q
  | 102, _ => ct_102 cy g r a q
  | 103, _ => ct_103 cy g r a q
  | 104, _ => ct_104 cy g r a q
  | 105, _ => ct_105 cy g r a q
  | 106, _ => ct_106 cy g r a q
  | 107, _ => ct_107 cy g r a q
  | 108, _ => ct_108 cy g r a q
  | 109, _ => ct_109 cy g r a q
  | 110, _ => ct_110 cy g r a q
  | 111, _ => ct_111 cy g r a q
  | 112, _ => ct_112 cy g r a q
  | 113, _ => ct_113 cy g r a q
  | 114, _ => ct_114 cy g r a q
  | 115, _ => ct_115 cy g r a q
  | 116, _ => ct_116 cy g r a q
  | 117, _ => ct_117 cy g r a q
  | 118, _ => ct_118 cy g r a q
  | 119, _ => ct_119 cy g r a q
  | 120, _ => ct_120 cy g r a q
  | 121, _ => ct_121 cy g r a q
  | 122, _ => ct_122 cy g r a q
  | 123, _ => ct_123 cy g r a q
  | 124, _ => ct_124 cy g r a q
  | 125, _ => ct_125 cy g r a q
  | 126, _ => ct_126 cy g r a q
  | 127, _ => ct_127 cy g r a q
  | 128, _ => ct_128 cy g r a q
  | 129, _ => ct_129 cy g r a q
  | 130, _ => ct_130 cy g r a q
  | 131, _ => ct_131 cy g r a q
  | 132, _ => ct_132 cy g r a q
  | n + 133, h => absurd h (by omega)
set_option maxRecDepth 100000 in
theorem cm_134 (cy : Nat → ClassId) (g : Nat → Nat → Nat) (r : Nat → Nat) (a : Nat) (q : Nat → Nat) : mk_to (.inl (cy 0, 940, .inl fun _ => 0)) (mm_ce (mm_g g r a q) cy mm_h0 134) := mk_to_e rfl
set_option maxRecDepth 100000 in
theorem cm_135 (cy : Nat → ClassId) (g : Nat → Nat → Nat) (r : Nat → Nat) (a : Nat) (q : Nat → Nat) : mk_to (.inl (cy 0, 316, .inl fun _ => 0)) (mm_ce (mm_g g r a q) cy mm_h0 135) := mk_to_e rfl
set_option maxRecDepth 100000 in
theorem cm_136 (cy : Nat → ClassId) (g : Nat → Nat → Nat) (r : Nat → Nat) (a : Nat) (q : Nat → Nat) : mk_to (.inl (cy 0, 48, .inl fun _ => 0)) (mm_ce (mm_g g r a q) cy mm_h0 136) := mk_to_e rfl
set_option maxRecDepth 100000 in
theorem cm_137 (cy : Nat → ClassId) (g : Nat → Nat → Nat) (r : Nat → Nat) (a : Nat) (q : Nat → Nat) : mk_to (.inl (cy 0, 632, .inl fun _ => 0)) (mm_ce (mm_g g r a q) cy mm_h0 137) := mk_to_e rfl
set_option maxRecDepth 100000 in
theorem cm_138 (cy : Nat → ClassId) (g : Nat → Nat → Nat) (r : Nat → Nat) (a : Nat) (q : Nat → Nat) : mk_to (.inl (cy 0, 208, .inl fun _ => 0)) (mm_ce (mm_g g r a q) cy mm_h0 138) := mk_to_e rfl
set_option maxRecDepth 100000 in
theorem cm_139 (cy : Nat → ClassId) (g : Nat → Nat → Nat) (r : Nat → Nat) (a : Nat) (q : Nat → Nat) : mk_to (.inl (cy 0, 26, .inl fun _ => 0)) (mm_ce (mm_g g r a q) cy mm_h0 139) := mk_to_e rfl
set_option maxRecDepth 100000 in
theorem cm_140 (cy : Nat → ClassId) (g : Nat → Nat → Nat) (r : Nat → Nat) (a : Nat) (q : Nat → Nat) : mk_to (.inl (cy 1, 22, .inr (.inl fun _ => 0))) (mm_ce (mm_g g r a q) cy mm_h0 140) := mk_to_e rfl
set_option maxRecDepth 100000 in
theorem cm_141 (cy : Nat → ClassId) (g : Nat → Nat → Nat) (r : Nat → Nat) (a : Nat) (q : Nat → Nat) : mk_to (.inl (cy 1, 22, .inr (.inl fun _ => 0))) (mm_ce (mm_g g r a q) cy mm_h0 141) := mk_to_e rfl
set_option maxRecDepth 100000 in
theorem cm_142 (cy : Nat → ClassId) (g : Nat → Nat → Nat) (r : Nat → Nat) (a : Nat) (q : Nat → Nat) : mk_to (.inl (cy 1, 44, .inr (.inl fun _ => 0))) (mm_ce (mm_g g r a q) cy mm_h0 142) := mk_to_e rfl
set_option maxRecDepth 100000 in
theorem cm_143 (cy : Nat → ClassId) (g : Nat → Nat → Nat) (r : Nat → Nat) (a : Nat) (q : Nat → Nat) : mk_to (.inl (cy 4, 2, .inl fun _ => 0)) (mm_ce (mm_g g r a q) cy mm_h0 143) := mk_to_e rfl
set_option maxRecDepth 100000 in
theorem cm_144 (cy : Nat → ClassId) (g : Nat → Nat → Nat) (r : Nat → Nat) (a : Nat) (q : Nat → Nat) : mk_to (.inl (cy 4, 2, .inl fun _ => 0)) (mm_ce (mm_g g r a q) cy mm_h0 144) := mk_to_e rfl
set_option maxRecDepth 100000 in
theorem cm_145 (cy : Nat → ClassId) (g : Nat → Nat → Nat) (r : Nat → Nat) (a : Nat) (q : Nat → Nat) : mk_to (.inl (cy 0, 256, .inl fun _ => 0)) (mm_ce (mm_g g r a q) cy mm_h0 145) := mk_to_e rfl
set_option maxRecDepth 100000 in
theorem cm_146 (cy : Nat → ClassId) (g : Nat → Nat → Nat) (r : Nat → Nat) (a : Nat) (q : Nat → Nat) : mk_to (.inl (cy 0, 60, .inl fun _ => 0)) (mm_ce (mm_g g r a q) cy mm_h0 146) := mk_to_e rfl
set_option maxRecDepth 100000 in
theorem cm_147 (cy : Nat → ClassId) (g : Nat → Nat → Nat) (r : Nat → Nat) (a : Nat) (q : Nat → Nat) : mk_to (.inl (cy 0, 366, .inl fun _ => 0)) (mm_ce (mm_g g r a q) cy mm_h0 147) := mk_to_e rfl
set_option maxRecDepth 100000 in
theorem cm_148 (cy : Nat → ClassId) (g : Nat → Nat → Nat) (r : Nat → Nat) (a : Nat) (q : Nat → Nat) : mk_to (.inl (cy 0, 5, .inl fun _ => 0)) (mm_ce (mm_g g r a q) cy mm_h0 148) := mk_to_e rfl
set_option maxRecDepth 100000 in
theorem cm_149 (cy : Nat → ClassId) (g : Nat → Nat → Nat) (r : Nat → Nat) (a : Nat) (q : Nat → Nat) : mk_to (.inl (cy 0, 64, .inl fun _ => 0)) (mm_ce (mm_g g r a q) cy mm_h0 149) := mk_to_e rfl
set_option maxRecDepth 100000 in
theorem cm_150 (cy : Nat → ClassId) (g : Nat → Nat → Nat) (r : Nat → Nat) (a : Nat) (q : Nat → Nat) : mk_to (.inl (cy 0, 80, .inl fun _ => 0)) (mm_ce (mm_g g r a q) cy mm_h0 150) := mk_to_e rfl
set_option maxRecDepth 100000 in
theorem cm_151 (cy : Nat → ClassId) (g : Nat → Nat → Nat) (r : Nat → Nat) (a : Nat) (q : Nat → Nat) : mk_to (.inl (cy 0, 4, .inl fun _ => 0)) (mm_ce (mm_g g r a q) cy mm_h0 151) := mk_to_e rfl
set_option maxRecDepth 100000 in
theorem cm_152 (cy : Nat → ClassId) (g : Nat → Nat → Nat) (r : Nat → Nat) (a : Nat) (q : Nat → Nat) : mk_to (.inl (cy 0, 240, .inl fun _ => 0)) (mm_ce (mm_g g r a q) cy mm_h0 152) := mk_to_e rfl
set_option maxRecDepth 100000 in
theorem cm_133 (cy : Nat → ClassId) (g : Nat → Nat → Nat) (r : Nat → Nat) (a q8 q17 q25 q34 q43 q51 q59 q67 q75 q82 q89 q98 q106 q130 q137 q150 q158 q165 q174 : Nat) : mk_to (.inr (11, [.int 0, .ref q8, .int 0, .int 0, .int 0, .int 0, .int 0, .int 0, .int 0, .int 0, .int 0, .int 0, .long 0, .int 0, .ref q17, .ref q25, .ref q34, .ref q43, .ref q51, .ref q59, .ref q67, .ref q75, .ref q82, .ref q89, .int 0, .int 0, .ref q98, .ref q106, .int (-1), .int (-1), .int (-1), .ref q130, .ref q137, .int 0, .int (-1), .ref q150, .int 0, .int 0, .ref q158, .ref q165, .int 0, .int 0, .ref q174, .int 0, .int 0, .int 0, .int 0])) (mm_ce (mm_g g r a (fun j => ([q8, q17, q25, q34, q43, q51, q59, q67, q75, q82, q89, q98, q106, q130, q137, q150, q158, q165, q174] : List Nat).getD j 0)) cy mm_h0 133) := mk_to_e rfl
theorem nw_len (n : Nat) (r : Nat → Nat) (f : Nat → va_E) : (nw n r f).length = n := by simp [nw]
theorem nw_get {n : Nat} {r : Nat → Nat} {f : Nat → va_E} {o : Nat} (h : o < n) : (nw n r f)[o]? = some (r o, f o) := by simp [nw, h]
theorem mk_pos {a : Nat} {ob : va_E} {r : Nat → Nat} {f : Nat → va_E} {arrs : va_W} {g : Nat → Nat → Nat} {cy : Nat → ClassId} {h : mm_H} (hlen : arrs.length = 19)
    (ho : mk_to ob (mm_ce g cy h 133)) (hg0 : g 0 133 = a) (hc : ∀ o, o < 133 → g 0 o = r o ∧ mk_to (f o) (mm_ce g cy h o)) (ha : ∀ j x, arrs[j]? = some x → x.1 = g 0 (134 + j) ∧ mk_to x.2 (mm_ce g cy h (134 + j)))
    (o : Nat) (h0 : o < 153) : ∃ e, ((a, ob) :: (nw 133 r f ++ arrs))[if o < 133 then o + 1 else if o = 133 then 0 else o]? = some (g 0 o, e) ∧ mk_to e (mm_ce g cy h o) := by
  by_cases h1 : o < 133
  · refine ⟨f o, ?_, (hc o h1).2⟩
    rw [if_pos h1, List.getElem?_cons_succ, List.getElem?_append_left (by rw [nw_len]; exact h1), nw_get h1, (hc o h1).1]
  · rw [if_neg h1]
    by_cases h2 : o = 133
    · subst h2
      exact ⟨ob, by rw [if_pos rfl, List.getElem?_cons_zero, hg0], ho⟩
    · rw [if_neg h2]
      obtain ⟨j, rfl⟩ : ∃ j, o = 134 + j := ⟨o - 134, by omega⟩
      have hj : j < arrs.length := by omega
      obtain ⟨a1, a2⟩ := ha j _ (List.getElem?_eq_getElem hj)
      refine ⟨(arrs[j]).2, ?_, a2⟩
      rw [show 134 + j = (133 + j) + 1 by omega, List.getElem?_cons_succ, List.getElem?_append_right (by rw [nw_len]; omega), nw_len, show 133 + j - 133 = j by omega, List.getElem?_eq_getElem hj, show 133 + j + 1 = 134 + j by omega, ← a1]
theorem mk_reord {D : va_G} {cl : List vw_C} {H : Heap} {a : Nat} {ob : va_E} {r : Nat → Nat} {f : Nat → va_E} {arrs : va_W} {g : Nat → Nat → Nat} {cy : Nat → ClassId} {h : mm_H} (hlen : arrs.length = 19)
    (ho : mk_to ob (mm_ce g cy h 133)) (hg0 : g 0 133 = a) (hc : ∀ o, o < 133 → g 0 o = r o ∧ mk_to (f o) (mm_ce g cy h o)) (ha : ∀ j x, arrs[j]? = some x → x.1 = g 0 (134 + j) ∧ mk_to x.2 (mm_ce g cy h (134 + j)))
    (hP : va_P D cl ((a, ob) :: (nw 133 r f ++ arrs)) H) : va_P D cl (mm_ws g cy h) H := by
  intro k x hk
  by_cases hk9 : k < 153
  · rw [mm_ws_get hk9] at hk
    cases hk
    obtain ⟨e, e1, e2⟩ := mk_pos hlen ho hg0 hc ha k hk9
    exact e2 _ _ _ _ (hP _ _ e1)
  · rw [mm_ws_ge hk9] at hk
    cases hk
theorem mk_reordD {A : Nat → Prop} {a : Nat} {ob : va_E} {r : Nat → Nat} {f : Nat → va_E} {arrs : va_W} {g : Nat → Nat → Nat} {cy : Nat → ClassId} {h : mm_H} (hlen : arrs.length = 19)
    (ho : mk_to ob (mm_ce g cy h 133)) (hg0 : g 0 133 = a) (hc : ∀ o, o < 133 → g 0 o = r o ∧ mk_to (f o) (mm_ce g cy h o)) (ha : ∀ j x, arrs[j]? = some x → x.1 = g 0 (134 + j) ∧ mk_to x.2 (mm_ce g cy h (134 + j)))
    (hD : va_D A ((a, ob) :: (nw 133 r f ++ arrs))) : (∀ i j, i < 153 → j < 153 → g 0 i = g 0 j → i = j) ∧ ∀ q, mm_A g q → A q := by
  refine ⟨fun i j hi hj e => ?_, fun q hq => ?_⟩
  · obtain ⟨e1, p1, -⟩ := mk_pos hlen ho hg0 hc ha i hi
    obtain ⟨e2, p2, -⟩ := mk_pos hlen ho hg0 hc ha j hj
    have := hD.1 _ _ _ _ p1 p2 e
    split at this <;> split at this <;> (try split at this) <;> (try split at this) <;> omega
  · obtain ⟨o, h1, rfl⟩ := hq
    obtain ⟨e1, p1, -⟩ := mk_pos hlen ho hg0 hc ha o h1
    exact hD.2 _ _ p1
theorem mm_h0_in (o k : Int) : mm_h0 o k = -1 ∨ mm_h0 o k = 0 ∨ mm_h0 o k = 4 ∨ mm_h0 o k = 8 := by
  unfold mm_h0
  repeat' split
  all_goals decide
theorem mm_h0_rg : mm_rg mm_h0 := by
  intro o k h1 h2
  have h32 : mm_i32 (mm_h0 o k) := by rcases mm_h0_in o k with e | e | e | e <;> rw [e] <;> exact ⟨by decide, by decide⟩
  have h64 : mm_i64 (mm_h0 o k) := by rcases mm_h0_in o k with e | e | e | e <;> rw [e] <;> exact ⟨by decide, by decide⟩
  exact ⟨⟨fun _ _ => h32, fun _ _ => h32⟩, fun _ => h64⟩
