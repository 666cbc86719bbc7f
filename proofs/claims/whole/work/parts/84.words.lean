/-! The words; find; one token more -/
def wls : List (List Int) := [[114, 105, 110, 103], [103, 97, 112], [99, 111, 117, 115, 105, 110], [112, 101, 114, 115, 111, 110], [119, 111, 114, 107], [97, 102, 116, 101, 114], [116, 104, 105, 110, 103], [111, 117, 116], [102, 114, 105, 103, 104, 116], [99, 117, 114, 101], [102, 108, 121], [114, 101, 108, 105, 101, 118, 101], [109, 97, 110], [108, 101, 97, 118, 101, 115], [106, 111, 105, 110, 115], [115, 101, 99, 111, 110, 100], [111, 114], [97, 110, 100], [110, 111, 116], [98, 121], [119, 105, 116, 104], [98, 117, 115, 121], [112, 108, 97, 99, 101], [112, 97, 99, 101], [115, 116, 101, 112, 115], [110, 117, 109, 98, 101, 114]]
def wl (t : Int) : List Int := wls.getD (t - 10).toNat []
def wo (k : Int) : Int := ([10, 11, 12, 13, 14, 15, 16, 18, 19, 20, 21, 22, 23, 24, 25, 26, 27, 28, 17, 31, 29, 30, 32, 33, 34, 35] : List Int).getD k.toNat 0
theorem wls_ok : ∀ j : Nat, j < 26 → (wls.getD j []).length ≤ 7 ∧ wls.getD j [] ≠ [] ∧ (∀ c ∈ wls.getD j [], 97 ≤ c ∧ c ≤ 122) ∧ mm_keys.getD (j + 10) 0 = f_enc 256 0 (wls.getD j []) ∧ ∀ i : Nat, i < 26 → wls.getD i [] = wls.getD j [] → i = j := by decide +kernel
theorem wl_ok {t : Int} (h0 : 10 ≤ t) (h1 : t ≤ 35) : (wl t).length ≤ 7 ∧ wl t ≠ [] ∧ (∀ c ∈ wl t, 97 ≤ c ∧ c ≤ 122) ∧ mm_key t = f_enc 256 0 (wl t) := by
  obtain ⟨a, b, c, e, -⟩ := wls_ok (t - 10).toNat (by omega)
  refine ⟨a, b, c, ?_⟩
  unfold mm_key wl
  rw [← e]
  congr 1
  omega
theorem wl_inj {t s : Int} (h0 : 10 ≤ t) (h1 : t ≤ 35) (h2 : 10 ≤ s) (h3 : s ≤ 35) (e : wl t = wl s) : t = s := by
  have := (wls_ok (s - 10).toNat (by omega)).2.2.2.2 (t - 10).toNat (by omega) e
  omega
theorem wo_ok : ∀ k : Nat, k < 26 → 10 ≤ wo (k : Int) ∧ wo (k : Int) ≤ 35 ∧ ∀ j : Nat, j < 26 → wo (j : Int) = wo (k : Int) → j = k := by decide +kernel
theorem wo_on : ∀ t : Nat, t < 26 → ∃ k : Nat, k < 26 ∧ wo (k : Int) = (t : Int) + 10 := by decide +kernel
theorem lcmp0 (x y : Int) : (mm_lcmp x y = 0) = (x = y) := by
  unfold mm_lcmp
  by_cases a : x < y
  · rw [if_pos a]
    exact propext ⟨fun z => absurd z (by decide), fun z => by omega⟩
  · rw [if_neg a]
    by_cases b : x = y
    · rw [if_pos b]; exact propext ⟨fun _ => b, fun _ => rfl⟩
    · rw [if_neg b]; exact propext ⟨fun z => absurd z (by decide), fun z => absurd z b⟩
set_option maxRecDepth 100000 in
theorem wd_0 (d : Nat) (h : mm_H) : mm_M mm_prog (d + 2) 170 [(0, 0)] h = some (f_enc 27 96 (wl (wo 0)), h) := by
  have e : mm_M mm_prog (d + 1) 169 [(0, 114), (0, 105), (0, 110), (0, 103), (0, 0), (0, 0), (0, 0)] h = some (f_enc 27 96 (wl (wo 0)), h) := (e_X12_spelt d h 114 105 110 103 0 0 0).trans rfl
  rw [e_X12_wordOf, if_pos rfl, e]
  rfl
set_option maxRecDepth 100000 in
theorem wd_1 (d : Nat) (h : mm_H) : mm_M mm_prog (d + 2) 170 [(0, 1)] h = some (f_enc 27 96 (wl (wo 1)), h) := by
  have e : mm_M mm_prog (d + 1) 169 [(0, 103), (0, 97), (0, 112), (0, 0), (0, 0), (0, 0), (0, 0)] h = some (f_enc 27 96 (wl (wo 1)), h) := (e_X12_spelt d h 103 97 112 0 0 0 0).trans rfl
  rw [e_X12_wordOf, if_neg (by decide), if_pos rfl, e]
  rfl
set_option maxRecDepth 100000 in
theorem wd_2 (d : Nat) (h : mm_H) : mm_M mm_prog (d + 2) 170 [(0, 2)] h = some (f_enc 27 96 (wl (wo 2)), h) := by
  have e : mm_M mm_prog (d + 1) 169 [(0, 99), (0, 111), (0, 117), (0, 115), (0, 105), (0, 110), (0, 0)] h = some (f_enc 27 96 (wl (wo 2)), h) := (e_X12_spelt d h 99 111 117 115 105 110 0).trans rfl
  rw [e_X12_wordOf, if_neg (by decide), if_neg (by decide), if_pos rfl, e]
  rfl
set_option maxRecDepth 100000 in
theorem wd_3 (d : Nat) (h : mm_H) : mm_M mm_prog (d + 2) 170 [(0, 3)] h = some (f_enc 27 96 (wl (wo 3)), h) := by
  have e : mm_M mm_prog (d + 1) 169 [(0, 112), (0, 101), (0, 114), (0, 115), (0, 111), (0, 110), (0, 0)] h = some (f_enc 27 96 (wl (wo 3)), h) := (e_X12_spelt d h 112 101 114 115 111 110 0).trans rfl
  rw [e_X12_wordOf, if_neg (by decide), if_neg (by decide), if_neg (by decide), if_pos rfl, e]
  rfl
set_option maxRecDepth 100000 in
theorem wd_4 (d : Nat) (h : mm_H) : mm_M mm_prog (d + 2) 170 [(0, 4)] h = some (f_enc 27 96 (wl (wo 4)), h) := by
  have e : mm_M mm_prog (d + 1) 169 [(0, 119), (0, 111), (0, 114), (0, 107), (0, 0), (0, 0), (0, 0)] h = some (f_enc 27 96 (wl (wo 4)), h) := (e_X12_spelt d h 119 111 114 107 0 0 0).trans rfl
  rw [e_X12_wordOf, if_neg (by decide), if_neg (by decide), if_neg (by decide), if_neg (by decide), if_pos rfl, e]
  rfl
set_option maxRecDepth 100000 in
theorem wd_5 (d : Nat) (h : mm_H) : mm_M mm_prog (d + 2) 170 [(0, 5)] h = some (f_enc 27 96 (wl (wo 5)), h) := by
  have e : mm_M mm_prog (d + 1) 169 [(0, 97), (0, 102), (0, 116), (0, 101), (0, 114), (0, 0), (0, 0)] h = some (f_enc 27 96 (wl (wo 5)), h) := (e_X12_spelt d h 97 102 116 101 114 0 0).trans rfl
  rw [e_X12_wordOf, if_neg (by decide), if_neg (by decide), if_neg (by decide), if_neg (by decide), if_neg (by decide), if_pos rfl, e]
  rfl
set_option maxRecDepth 100000 in
theorem wd_6 (d : Nat) (h : mm_H) : mm_M mm_prog (d + 2) 170 [(0, 6)] h = some (f_enc 27 96 (wl (wo 6)), h) := by
  have e : mm_M mm_prog (d + 1) 169 [(0, 116), (0, 104), (0, 105), (0, 110), (0, 103), (0, 0), (0, 0)] h = some (f_enc 27 96 (wl (wo 6)), h) := (e_X12_spelt d h 116 104 105 110 103 0 0).trans rfl
  rw [e_X12_wordOf, if_neg (by decide), if_neg (by decide), if_neg (by decide), if_neg (by decide), if_neg (by decide), if_neg (by decide), if_pos rfl, e]
  rfl
set_option maxRecDepth 100000 in
theorem wd_7 (d : Nat) (h : mm_H) : mm_M mm_prog (d + 2) 170 [(0, 7)] h = some (f_enc 27 96 (wl (wo 7)), h) := by
  have e : mm_M mm_prog (d + 1) 169 [(0, 102), (0, 114), (0, 105), (0, 103), (0, 104), (0, 116), (0, 0)] h = some (f_enc 27 96 (wl (wo 7)), h) := (e_X12_spelt d h 102 114 105 103 104 116 0).trans rfl
  rw [e_X12_wordOf, if_neg (by decide), if_neg (by decide), if_neg (by decide), if_neg (by decide), if_neg (by decide), if_neg (by decide), if_neg (by decide), if_pos rfl, e]
  rfl
set_option maxRecDepth 100000 in
theorem wd_8 (d : Nat) (h : mm_H) : mm_M mm_prog (d + 2) 170 [(0, 8)] h = some (f_enc 27 96 (wl (wo 8)), h) := by
  have e : mm_M mm_prog (d + 1) 169 [(0, 99), (0, 117), (0, 114), (0, 101), (0, 0), (0, 0), (0, 0)] h = some (f_enc 27 96 (wl (wo 8)), h) := (e_X12_spelt d h 99 117 114 101 0 0 0).trans rfl
  rw [e_X12_wordOf, if_neg (by decide), if_neg (by decide), if_neg (by decide), if_neg (by decide), if_neg (by decide), if_neg (by decide), if_neg (by decide), if_neg (by decide), if_pos rfl, e]
  rfl
set_option maxRecDepth 100000 in
theorem wd_9 (d : Nat) (h : mm_H) : mm_M mm_prog (d + 2) 170 [(0, 9)] h = some (f_enc 27 96 (wl (wo 9)), h) := by
  have e : mm_M mm_prog (d + 1) 169 [(0, 102), (0, 108), (0, 121), (0, 0), (0, 0), (0, 0), (0, 0)] h = some (f_enc 27 96 (wl (wo 9)), h) := (e_X12_spelt d h 102 108 121 0 0 0 0).trans rfl
  rw [e_X12_wordOf, if_neg (by decide), if_neg (by decide), if_neg (by decide), if_neg (by decide), if_neg (by decide), if_neg (by decide), if_neg (by decide), if_neg (by decide), if_neg (by decide), if_pos rfl, e]
  rfl
set_option maxRecDepth 100000 in
theorem wd_10 (d : Nat) (h : mm_H) : mm_M mm_prog (d + 2) 170 [(0, 10)] h = some (f_enc 27 96 (wl (wo 10)), h) := by
  have e : mm_M mm_prog (d + 1) 169 [(0, 114), (0, 101), (0, 108), (0, 105), (0, 101), (0, 118), (0, 101)] h = some (f_enc 27 96 (wl (wo 10)), h) := (e_X12_spelt d h 114 101 108 105 101 118 101).trans rfl
  rw [e_X12_wordOf, if_neg (by decide), if_neg (by decide), if_neg (by decide), if_neg (by decide), if_neg (by decide), if_neg (by decide), if_neg (by decide), if_neg (by decide), if_neg (by decide), if_neg (by decide), if_pos rfl, e]
  rfl
set_option maxRecDepth 100000 in
theorem wd_11 (d : Nat) (h : mm_H) : mm_M mm_prog (d + 2) 170 [(0, 11)] h = some (f_enc 27 96 (wl (wo 11)), h) := by
  have e : mm_M mm_prog (d + 1) 169 [(0, 109), (0, 97), (0, 110), (0, 0), (0, 0), (0, 0), (0, 0)] h = some (f_enc 27 96 (wl (wo 11)), h) := (e_X12_spelt d h 109 97 110 0 0 0 0).trans rfl
  rw [e_X12_wordOf, if_neg (by decide), if_neg (by decide), if_neg (by decide), if_neg (by decide), if_neg (by decide), if_neg (by decide), if_neg (by decide), if_neg (by decide), if_neg (by decide), if_neg (by decide), if_neg (by decide), if_pos rfl, e]
  rfl
set_option maxRecDepth 100000 in
theorem wd_12 (d : Nat) (h : mm_H) : mm_M mm_prog (d + 2) 170 [(0, 12)] h = some (f_enc 27 96 (wl (wo 12)), h) := by
  have e : mm_M mm_prog (d + 1) 169 [(0, 108), (0, 101), (0, 97), (0, 118), (0, 101), (0, 115), (0, 0)] h = some (f_enc 27 96 (wl (wo 12)), h) := (e_X12_spelt d h 108 101 97 118 101 115 0).trans rfl
  rw [e_X12_wordOf, if_neg (by decide), if_neg (by decide), if_neg (by decide), if_neg (by decide), if_neg (by decide), if_neg (by decide), if_neg (by decide), if_neg (by decide), if_neg (by decide), if_neg (by decide), if_neg (by decide), if_neg (by decide), if_pos rfl, e]
  rfl
set_option maxRecDepth 100000 in
theorem wd_13 (d : Nat) (h : mm_H) : mm_M mm_prog (d + 2) 170 [(0, 13)] h = some (f_enc 27 96 (wl (wo 13)), h) := by
  have e : mm_M mm_prog (d + 1) 169 [(0, 106), (0, 111), (0, 105), (0, 110), (0, 115), (0, 0), (0, 0)] h = some (f_enc 27 96 (wl (wo 13)), h) := (e_X12_spelt d h 106 111 105 110 115 0 0).trans rfl
  rw [e_X12_wordOf, if_neg (by decide), if_neg (by decide), if_neg (by decide), if_neg (by decide), if_neg (by decide), if_neg (by decide), if_neg (by decide), if_neg (by decide), if_neg (by decide), if_neg (by decide), if_neg (by decide), if_neg (by decide), if_neg (by decide), if_pos rfl, e]
  rfl
set_option maxRecDepth 100000 in
theorem wd_14 (d : Nat) (h : mm_H) : mm_M mm_prog (d + 2) 170 [(0, 14)] h = some (f_enc 27 96 (wl (wo 14)), h) := by
  have e : mm_M mm_prog (d + 1) 169 [(0, 115), (0, 101), (0, 99), (0, 111), (0, 110), (0, 100), (0, 0)] h = some (f_enc 27 96 (wl (wo 14)), h) := (e_X12_spelt d h 115 101 99 111 110 100 0).trans rfl
  rw [e_X12_wordOf, if_neg (by decide), if_neg (by decide), if_neg (by decide), if_neg (by decide), if_neg (by decide), if_neg (by decide), if_neg (by decide), if_neg (by decide), if_neg (by decide), if_neg (by decide), if_neg (by decide), if_neg (by decide), if_neg (by decide), if_neg (by decide), if_pos rfl, e]
  rfl
set_option maxRecDepth 100000 in
theorem wd_15 (d : Nat) (h : mm_H) : mm_M mm_prog (d + 2) 170 [(0, 15)] h = some (f_enc 27 96 (wl (wo 15)), h) := by
  have e : mm_M mm_prog (d + 1) 169 [(0, 111), (0, 114), (0, 0), (0, 0), (0, 0), (0, 0), (0, 0)] h = some (f_enc 27 96 (wl (wo 15)), h) := (e_X12_spelt d h 111 114 0 0 0 0 0).trans rfl
  rw [e_X12_wordOf, if_neg (by decide), if_neg (by decide), if_neg (by decide), if_neg (by decide), if_neg (by decide), if_neg (by decide), if_neg (by decide), if_neg (by decide), if_neg (by decide), if_neg (by decide), if_neg (by decide), if_neg (by decide), if_neg (by decide), if_neg (by decide), if_neg (by decide), if_pos rfl, e]
  rfl
set_option maxRecDepth 100000 in
theorem wd_16 (d : Nat) (h : mm_H) : mm_M mm_prog (d + 2) 170 [(0, 16)] h = some (f_enc 27 96 (wl (wo 16)), h) := by
  have e : mm_M mm_prog (d + 1) 169 [(0, 97), (0, 110), (0, 100), (0, 0), (0, 0), (0, 0), (0, 0)] h = some (f_enc 27 96 (wl (wo 16)), h) := (e_X12_spelt d h 97 110 100 0 0 0 0).trans rfl
  rw [e_X12_wordOf, if_neg (by decide), if_neg (by decide), if_neg (by decide), if_neg (by decide), if_neg (by decide), if_neg (by decide), if_neg (by decide), if_neg (by decide), if_neg (by decide), if_neg (by decide), if_neg (by decide), if_neg (by decide), if_neg (by decide), if_neg (by decide), if_neg (by decide), if_neg (by decide), if_pos rfl, e]
  rfl
set_option maxRecDepth 100000 in
theorem wd_17 (d : Nat) (h : mm_H) : mm_M mm_prog (d + 2) 170 [(0, 17)] h = some (f_enc 27 96 (wl (wo 17)), h) := by
  have e : mm_M mm_prog (d + 1) 169 [(0, 110), (0, 111), (0, 116), (0, 0), (0, 0), (0, 0), (0, 0)] h = some (f_enc 27 96 (wl (wo 17)), h) := (e_X12_spelt d h 110 111 116 0 0 0 0).trans rfl
  rw [e_X12_wordOf, if_neg (by decide), if_neg (by decide), if_neg (by decide), if_neg (by decide), if_neg (by decide), if_neg (by decide), if_neg (by decide), if_neg (by decide), if_neg (by decide), if_neg (by decide), if_neg (by decide), if_neg (by decide), if_neg (by decide), if_neg (by decide), if_neg (by decide), if_neg (by decide), if_neg (by decide), if_pos rfl, e]
  rfl
set_option maxRecDepth 100000 in
theorem wd_18 (d : Nat) (h : mm_H) : mm_M mm_prog (d + 2) 170 [(0, 18)] h = some (f_enc 27 96 (wl (wo 18)), h) := by
  have e : mm_M mm_prog (d + 1) 169 [(0, 111), (0, 117), (0, 116), (0, 0), (0, 0), (0, 0), (0, 0)] h = some (f_enc 27 96 (wl (wo 18)), h) := (e_X12_spelt d h 111 117 116 0 0 0 0).trans rfl
  rw [e_X12_wordOf, if_neg (by decide), if_neg (by decide), if_neg (by decide), if_neg (by decide), if_neg (by decide), if_neg (by decide), if_neg (by decide), if_neg (by decide), if_neg (by decide), if_neg (by decide), if_neg (by decide), if_neg (by decide), if_neg (by decide), if_neg (by decide), if_neg (by decide), if_neg (by decide), if_neg (by decide), if_neg (by decide), if_pos rfl, e]
  rfl
set_option maxRecDepth 100000 in
theorem wd_19 (d : Nat) (h : mm_H) : mm_M mm_prog (d + 2) 170 [(0, 19)] h = some (f_enc 27 96 (wl (wo 19)), h) := by
  have e : mm_M mm_prog (d + 1) 169 [(0, 98), (0, 117), (0, 115), (0, 121), (0, 0), (0, 0), (0, 0)] h = some (f_enc 27 96 (wl (wo 19)), h) := (e_X12_spelt d h 98 117 115 121 0 0 0).trans rfl
  rw [e_X12_wordOf, if_neg (by decide), if_neg (by decide), if_neg (by decide), if_neg (by decide), if_neg (by decide), if_neg (by decide), if_neg (by decide), if_neg (by decide), if_neg (by decide), if_neg (by decide), if_neg (by decide), if_neg (by decide), if_neg (by decide), if_neg (by decide), if_neg (by decide), if_neg (by decide), if_neg (by decide), if_neg (by decide), if_neg (by decide), if_pos rfl, e]
  rfl
set_option maxRecDepth 100000 in
theorem wd_20 (d : Nat) (h : mm_H) : mm_M mm_prog (d + 2) 170 [(0, 20)] h = some (f_enc 27 96 (wl (wo 20)), h) := by
  have e : mm_M mm_prog (d + 1) 169 [(0, 98), (0, 121), (0, 0), (0, 0), (0, 0), (0, 0), (0, 0)] h = some (f_enc 27 96 (wl (wo 20)), h) := (e_X12_spelt d h 98 121 0 0 0 0 0).trans rfl
  rw [e_X12_wordOf, if_neg (by decide), if_neg (by decide), if_neg (by decide), if_neg (by decide), if_neg (by decide), if_neg (by decide), if_neg (by decide), if_neg (by decide), if_neg (by decide), if_neg (by decide), if_neg (by decide), if_neg (by decide), if_neg (by decide), if_neg (by decide), if_neg (by decide), if_neg (by decide), if_neg (by decide), if_neg (by decide), if_neg (by decide), if_neg (by decide), if_pos rfl, e]
  rfl
set_option maxRecDepth 100000 in
theorem wd_21 (d : Nat) (h : mm_H) : mm_M mm_prog (d + 2) 170 [(0, 21)] h = some (f_enc 27 96 (wl (wo 21)), h) := by
  have e : mm_M mm_prog (d + 1) 169 [(0, 119), (0, 105), (0, 116), (0, 104), (0, 0), (0, 0), (0, 0)] h = some (f_enc 27 96 (wl (wo 21)), h) := (e_X12_spelt d h 119 105 116 104 0 0 0).trans rfl
  rw [e_X12_wordOf, if_neg (by decide), if_neg (by decide), if_neg (by decide), if_neg (by decide), if_neg (by decide), if_neg (by decide), if_neg (by decide), if_neg (by decide), if_neg (by decide), if_neg (by decide), if_neg (by decide), if_neg (by decide), if_neg (by decide), if_neg (by decide), if_neg (by decide), if_neg (by decide), if_neg (by decide), if_neg (by decide), if_neg (by decide), if_neg (by decide), if_neg (by decide), if_pos rfl, e]
  rfl
set_option maxRecDepth 100000 in
theorem wd_22 (d : Nat) (h : mm_H) : mm_M mm_prog (d + 2) 170 [(0, 22)] h = some (f_enc 27 96 (wl (wo 22)), h) := by
  have e : mm_M mm_prog (d + 1) 169 [(0, 112), (0, 108), (0, 97), (0, 99), (0, 101), (0, 0), (0, 0)] h = some (f_enc 27 96 (wl (wo 22)), h) := (e_X12_spelt d h 112 108 97 99 101 0 0).trans rfl
  rw [e_X12_wordOf, if_neg (by decide), if_neg (by decide), if_neg (by decide), if_neg (by decide), if_neg (by decide), if_neg (by decide), if_neg (by decide), if_neg (by decide), if_neg (by decide), if_neg (by decide), if_neg (by decide), if_neg (by decide), if_neg (by decide), if_neg (by decide), if_neg (by decide), if_neg (by decide), if_neg (by decide), if_neg (by decide), if_neg (by decide), if_neg (by decide), if_neg (by decide), if_neg (by decide), if_pos rfl, e]
  rfl
set_option maxRecDepth 100000 in
theorem wd_23 (d : Nat) (h : mm_H) : mm_M mm_prog (d + 2) 170 [(0, 23)] h = some (f_enc 27 96 (wl (wo 23)), h) := by
  have e : mm_M mm_prog (d + 1) 169 [(0, 112), (0, 97), (0, 99), (0, 101), (0, 0), (0, 0), (0, 0)] h = some (f_enc 27 96 (wl (wo 23)), h) := (e_X12_spelt d h 112 97 99 101 0 0 0).trans rfl
  rw [e_X12_wordOf, if_neg (by decide), if_neg (by decide), if_neg (by decide), if_neg (by decide), if_neg (by decide), if_neg (by decide), if_neg (by decide), if_neg (by decide), if_neg (by decide), if_neg (by decide), if_neg (by decide), if_neg (by decide), if_neg (by decide), if_neg (by decide), if_neg (by decide), if_neg (by decide), if_neg (by decide), if_neg (by decide), if_neg (by decide), if_neg (by decide), if_neg (by decide), if_neg (by decide), if_neg (by decide), if_pos rfl, e]
  rfl
set_option maxRecDepth 100000 in
theorem wd_24 (d : Nat) (h : mm_H) : mm_M mm_prog (d + 2) 170 [(0, 24)] h = some (f_enc 27 96 (wl (wo 24)), h) := by
  have e : mm_M mm_prog (d + 1) 169 [(0, 115), (0, 116), (0, 101), (0, 112), (0, 115), (0, 0), (0, 0)] h = some (f_enc 27 96 (wl (wo 24)), h) := (e_X12_spelt d h 115 116 101 112 115 0 0).trans rfl
  rw [e_X12_wordOf, if_neg (by decide), if_neg (by decide), if_neg (by decide), if_neg (by decide), if_neg (by decide), if_neg (by decide), if_neg (by decide), if_neg (by decide), if_neg (by decide), if_neg (by decide), if_neg (by decide), if_neg (by decide), if_neg (by decide), if_neg (by decide), if_neg (by decide), if_neg (by decide), if_neg (by decide), if_neg (by decide), if_neg (by decide), if_neg (by decide), if_neg (by decide), if_neg (by decide), if_neg (by decide), if_neg (by decide), if_pos rfl, e]
  rfl
set_option maxRecDepth 100000 in
theorem wd_25 (d : Nat) (h : mm_H) : mm_M mm_prog (d + 2) 170 [(0, 25)] h = some (f_enc 27 96 (wl (wo 25)), h) := by
  have e : mm_M mm_prog (d + 1) 169 [(0, 110), (0, 117), (0, 109), (0, 98), (0, 101), (0, 114), (0, 0)] h = some (f_enc 27 96 (wl (wo 25)), h) := (e_X12_spelt d h 110 117 109 98 101 114 0).trans rfl
  rw [e_X12_wordOf, if_neg (by decide), if_neg (by decide), if_neg (by decide), if_neg (by decide), if_neg (by decide), if_neg (by decide), if_neg (by decide), if_neg (by decide), if_neg (by decide), if_neg (by decide), if_neg (by decide), if_neg (by decide), if_neg (by decide), if_neg (by decide), if_neg (by decide), if_neg (by decide), if_neg (by decide), if_neg (by decide), if_neg (by decide), if_neg (by decide), if_neg (by decide), if_neg (by decide), if_neg (by decide), if_neg (by decide), if_neg (by decide), e]
  rfl
theorem rf_wordOf {k : Int} (k0 : 0 ≤ k) (k1 : k ≤ 25) (d : Nat) (h : mm_H) : mm_M mm_prog (d + 2) 170 [(0, k)] h = some (f_enc 27 96 (wl (wo k)), h) := by
  have : k = 0 ∨ k = 1 ∨ k = 2 ∨ k = 3 ∨ k = 4 ∨ k = 5 ∨ k = 6 ∨ k = 7 ∨ k = 8 ∨ k = 9 ∨ k = 10 ∨ k = 11 ∨ k = 12 ∨ k = 13 ∨ k = 14 ∨ k = 15 ∨ k = 16 ∨ k = 17 ∨ k = 18 ∨ k = 19 ∨ k = 20 ∨ k = 21 ∨ k = 22 ∨ k = 23 ∨ k = 24 ∨ k = 25 := by omega
  rcases this with rfl | rfl | rfl | rfl | rfl | rfl | rfl | rfl | rfl | rfl | rfl | rfl | rfl | rfl | rfl | rfl | rfl | rfl | rfl | rfl | rfl | rfl | rfl | rfl | rfl | rfl
  · exact wd_0 d h
  · exact wd_1 d h
  · exact wd_2 d h
  · exact wd_3 d h
  · exact wd_4 d h
  · exact wd_5 d h
  · exact wd_6 d h
  · exact wd_7 d h
  · exact wd_8 d h
  · exact wd_9 d h
  · exact wd_10 d h
  · exact wd_11 d h
  · exact wd_12 d h
  · exact wd_13 d h
  · exact wd_14 d h
  · exact wd_15 d h
  · exact wd_16 d h
  · exact wd_17 d h
  · exact wd_18 d h
  · exact wd_19 d h
  · exact wd_20 d h
  · exact wd_21 d h
  · exact wd_22 d h
  · exact wd_23 d h
  · exact wd_24 d h
  · exact wd_25 d h
def f_fnd (key a : Int) : Int := match sp_find (fun i => decide (mm_key i = key) && !decide (key = 0)) 36 0 with
  | some j => j
  | none => a
theorem cl_find {key a : Int} (h : mm_H) (d : Nat) : mm_M mm_prog (d + 1) 104 [(1, key), (2, a)] h = some (f_fnd key a, h) := by
  have hs : ∀ i, 0 ≤ i → i < 36 → mm_R mm_prog d T_X10_find 11 [(1, key), (9, 0), (2, a), (4, 0), (0, 36), (0, i), (9, 0)] [] h = bif (decide (mm_key i = key) && !decide (key = 0)) then some (i, h) else mm_R mm_prog d T_X10_find 11 [(1, key), (9, 0), (2, a), (4, 0), (0, 36), (0, i + 1), (9, 0)] [] h := by
    intro i i0 i1
    have eu : mm_R mm_prog d T_X10_find 11 [(1, key), (9, 0), (2, a), (4, 0), (0, 36), (0, i + 1), (2, i)] [] h = mm_R mm_prog d T_X10_find 11 [(1, key), (9, 0), (2, a), (4, 0), (0, 36), (0, i + 1), (9, 0)] [] h := (e_X10_find_11 d h key a 0 36 (i + 1) (2, i)).trans (e_X10_find_11 d h key a 0 36 (i + 1) (9, 0)).symm
    rw [e_X10_find_11, if_pos i1, if_pos ⟨i0, i1⟩, pu_w (by omega) (by omega), eu]
    have wr : mm_wr i = true := decide_eq_true ⟨i0, i1⟩
    rw [wr, cond_true]
    simp only [lcmp0]
    by_cases y : mm_key i = key
    · rw [if_pos y, decide_eq_true y]
      by_cases z : key = 0
      · rw [if_pos z, decide_eq_true z]; rfl
      · rw [if_neg z, decide_eq_false z]; rfl
    · rw [if_neg y, decide_eq_false y]; rfl
  rw [e_X10_find, sp_find_run (R := fun i => mm_R mm_prog d T_X10_find 11 [(1, key), (9, 0), (2, a), (4, 0), (0, 36), (0, i), (9, 0)] [] h) (r := fun j => some (j, h)) hs 36 0 (by decide) (by decide)]
  unfold f_fnd
  cases sp_find (fun i => decide (mm_key i = key) && !decide (key = 0)) 36 0 with
  | some j => rfl
  | none =>
    dsimp only
    rw [e_X10_find_11, if_neg (by decide)]
theorem key_low : ∀ j : Nat, j < 10 → mm_key (j : Int) ≤ 62 := by decide +kernel
theorem fnd_l {L : List Int} (hL : ltr L) : (f_fnd (f_enc 256 0 L) 2 = 2 ∧ ∀ j, 10 ≤ j → j ≤ 35 → L ≠ wl j) ∨ ((10 ≤ f_fnd (f_enc 256 0 L) 2 ∧ f_fnd (f_enc 256 0 L) 2 ≤ 35) ∧ L = wl (f_fnd (f_enc 256 0 L) 2)) := by
  obtain ⟨l1, l2, l3⟩ := hL
  have big : 97 ≤ f_enc 256 0 L := by
    rcases snoc_cases L with e | ⟨A, c, e⟩
    · exact absurd e l1
    · subst e
      have q := l3 c (by simp)
      have b := (f_enc_bd (b := 256) (s := 0) (by decide) _ A rfl (ltr.a (fun x hx => l3 x (List.mem_append_left _ hx)))).2.1
      rw [f_enc_app]
      omega
  unfold f_fnd
  cases e : sp_find (fun i => decide (mm_key i = f_enc 256 0 L) && !decide (f_enc 256 0 L = 0)) 36 0 with
  | none =>
    refine Or.inl ⟨rfl, fun j j0 j1 w => ?_⟩
    have := sp_find_none.mp e j (by omega) (by omega)
    rw [(wl_ok j0 j1).2.2.2, ← w, decide_eq_true rfl, decide_eq_false (by omega)] at this
    cases this
  | some j =>
    obtain ⟨a, b, c, -⟩ := sp_find_some e
    rw [Bool.and_eq_true] at c
    have c1 : mm_key j = f_enc 256 0 L := of_decide_eq_true c.1
    have j10 : 10 ≤ j := by
      by_cases z : j < 10
      · have := key_low j.toNat (by omega)
        rw [show ((j.toNat : Nat) : Int) = j by omega] at this
        omega
      · omega
    have w := wl_ok j10 (by omega)
    refine Or.inr ⟨⟨j10, by dsimp only; omega⟩, ?_⟩
    rw [w.2.2.2] at c1
    exact (f_enc_inj (by decide) _ _ _ (Nat.le_refl _) (ltr.a w.2.2.1) (ltr.a l3) c1).symm
theorem fnd_s : ∀ x : Nat, x < 256 → f_fnd (x : Int) 1 = if x = 59 then 4 else if x = 60 then 5 else if x = 61 then 6 else if x = 62 then 7 else if x = 40 then 8 else if x = 41 then 9 else 1 := by decide +kernel
theorem fnd_0 : f_fnd 0 3 = 3 ∧ f_fnd 0 1 = 1 := by decide +kernel
theorem pu_w8a : ∀ x : Nat, x < 256 → mm_and (mm_w8 (x : Int)) 255 = (x : Int) := by decide +kernel
def sgc (t : Int) : Int := if t < 8 then t + 55 else t + 32
/-- the token t: what it is to the class, and to the reference -/
def rk (t : Int) (c r : mm_H) : Prop := (t = 0 ∧ r 133 7 = 0) ∨ (t = 1 ∧ r 133 7 = 1) ∨ (t = 2 ∧ r 133 7 = 2 ∧ ∃ L, ltr L ∧ c 1 7 = f_enc 256 0 L ∧ r 133 12 = f_enc 27 96 L ∧ ∀ j, 10 ≤ j → j ≤ 35 → L ≠ wl j) ∨ (t = 3 ∧ r 133 7 = 3 ∧ c 1 6 = r 133 8 ∧ 0 ≤ r 133 8 ∧ r 133 8 ≤ 999) ∨ ((4 ≤ t ∧ t ≤ 9) ∧ r 133 7 = 4 ∧ r 133 9 = sgc t) ∨ ((10 ≤ t ∧ t ≤ 35) ∧ r 133 7 = 2 ∧ r 133 12 = f_enc 27 96 (wl t))
def TK (c r : mm_H) (n most p t : Int) : Prop := TB c r n most ∧ (c 1 3 = p ∧ r 133 5 = p) ∧ (0 ≤ p ∧ p ≤ n) ∧ c 1 4 = t ∧ c 1 5 = r 133 6 ∧ (0 ≤ r 133 6 ∧ r 133 6 ≤ 940) ∧ rk t c r
def gd (t : Int) : Int := if t ≤ 1 then 0 else 1
def adF (c c' : mm_H) : Prop := ∀ o k, ¬ (o = 1 ∧ 3 ≤ k ∧ k ≤ 7) → c' o k = c o k
theorem adF.rf (c : mm_H) : adF c c := fun _ _ _ => rfl
theorem adF.tr {a b c : mm_H} (h1 : adF a b) (h2 : adF b c) : adF a c := fun o k z => (h2 o k z).trans (h1 o k z)
theorem adF.up {a b : mm_H} {k v : Int} (h : adF a b) (hk : 3 ≤ k ∧ k ≤ 7) : adF a (mm_up b 1 k v) := fun o k' z => by
  rw [pu_up, if_neg (fun q => z ⟨q.1, by rw [q.2]; exact hk⟩)]
  exact h o k' z
theorem TB.adF {c c' r : mm_H} {n most : Int} (hB : TB c r n most) (h : adF c c') : TB c' r n most := hB.cg (h _ _ (by omega)) (h _ _ (by omega)) (fun k => h _ _ (by omega)) rfl rfl (fun _ => rfl)
