/-! The words behind the pool places and the methods -/
def mm_isN : Cond → Bool
  | .fieldLinkNest .. => true
  | .methodLinkNest .. => true
  | _ => false
/-- the words of nest mates: they carry over another way -/
def mm_NW : List Cond := lw_tbl.filter mm_isN
theorem mm_tw1 {w : Cond} (i : Nat) (h : tables_1_1[i]? = some w) (hg : goodWord w = true) : w ∈ mm_TW := List.mem_filter.mpr ⟨List.mem_append_right _ (show w ∈ tables_1 from (List.mem_append_left _ (List.mem_of_getElem? h))), hg⟩
theorem mm_tn1 {w : Cond} (i : Nat) (h : tables_1_1[i]? = some w) (hg : mm_isN w = true) : w ∈ mm_NW := List.mem_filter.mpr ⟨List.mem_append_right _ (show w ∈ tables_1 from (List.mem_append_left _ (List.mem_of_getElem? h))), hg⟩
theorem mm_tw2 {w : Cond} (i : Nat) (h : tables_1_2[i]? = some w) (hg : goodWord w = true) : w ∈ mm_TW := List.mem_filter.mpr ⟨List.mem_append_right _ (show w ∈ tables_1 from (List.mem_append_right _ (List.mem_append_left _ (List.mem_of_getElem? h)))), hg⟩
theorem mm_tn2 {w : Cond} (i : Nat) (h : tables_1_2[i]? = some w) (hg : mm_isN w = true) : w ∈ mm_NW := List.mem_filter.mpr ⟨List.mem_append_right _ (show w ∈ tables_1 from (List.mem_append_right _ (List.mem_append_left _ (List.mem_of_getElem? h)))), hg⟩
theorem mm_tw3 {w : Cond} (i : Nat) (h : tables_1_3[i]? = some w) (hg : goodWord w = true) : w ∈ mm_TW := List.mem_filter.mpr ⟨List.mem_append_right _ (show w ∈ tables_1 from (List.mem_append_right _ (List.mem_append_right _ (List.mem_append_left _ (List.mem_of_getElem? h))))), hg⟩
theorem mm_tn3 {w : Cond} (i : Nat) (h : tables_1_3[i]? = some w) (hg : mm_isN w = true) : w ∈ mm_NW := List.mem_filter.mpr ⟨List.mem_append_right _ (show w ∈ tables_1 from (List.mem_append_right _ (List.mem_append_right _ (List.mem_append_left _ (List.mem_of_getElem? h))))), hg⟩
theorem mm_tw4 {w : Cond} (i : Nat) (h : tables_1_4[i]? = some w) (hg : goodWord w = true) : w ∈ mm_TW := List.mem_filter.mpr ⟨List.mem_append_right _ (show w ∈ tables_1 from (List.mem_append_right _ (List.mem_append_right _ (List.mem_append_right _ (List.mem_append_left _ (List.mem_of_getElem? h)))))), hg⟩
theorem mm_tn4 {w : Cond} (i : Nat) (h : tables_1_4[i]? = some w) (hg : mm_isN w = true) : w ∈ mm_NW := List.mem_filter.mpr ⟨List.mem_append_right _ (show w ∈ tables_1 from (List.mem_append_right _ (List.mem_append_right _ (List.mem_append_right _ (List.mem_append_left _ (List.mem_of_getElem? h)))))), hg⟩
theorem mm_tw5 {w : Cond} (i : Nat) (h : tables_1_5[i]? = some w) (hg : goodWord w = true) : w ∈ mm_TW := List.mem_filter.mpr ⟨List.mem_append_right _ (show w ∈ tables_1 from (List.mem_append_right _ (List.mem_append_right _ (List.mem_append_right _ (List.mem_append_right _ (List.mem_append_left _ (List.mem_of_getElem? h))))))), hg⟩
theorem mm_tn5 {w : Cond} (i : Nat) (h : tables_1_5[i]? = some w) (hg : mm_isN w = true) : w ∈ mm_NW := List.mem_filter.mpr ⟨List.mem_append_right _ (show w ∈ tables_1 from (List.mem_append_right _ (List.mem_append_right _ (List.mem_append_right _ (List.mem_append_right _ (List.mem_append_left _ (List.mem_of_getElem? h))))))), hg⟩
theorem mm_tw6 {w : Cond} (i : Nat) (h : tables_1_6[i]? = some w) (hg : goodWord w = true) : w ∈ mm_TW := List.mem_filter.mpr ⟨List.mem_append_right _ (show w ∈ tables_1 from (List.mem_append_right _ (List.mem_append_right _ (List.mem_append_right _ (List.mem_append_right _ (List.mem_append_right _ (List.mem_append_left _ (List.mem_of_getElem? h)))))))), hg⟩
theorem mm_tn6 {w : Cond} (i : Nat) (h : tables_1_6[i]? = some w) (hg : mm_isN w = true) : w ∈ mm_NW := List.mem_filter.mpr ⟨List.mem_append_right _ (show w ∈ tables_1 from (List.mem_append_right _ (List.mem_append_right _ (List.mem_append_right _ (List.mem_append_right _ (List.mem_append_right _ (List.mem_append_left _ (List.mem_of_getElem? h)))))))), hg⟩
theorem mm_tw7 {w : Cond} (i : Nat) (h : tables_1_7[i]? = some w) (hg : goodWord w = true) : w ∈ mm_TW := List.mem_filter.mpr ⟨List.mem_append_right _ (show w ∈ tables_1 from (List.mem_append_right _ (List.mem_append_right _ (List.mem_append_right _ (List.mem_append_right _ (List.mem_append_right _ (List.mem_append_right _ (List.mem_append_left _ (List.mem_of_getElem? h))))))))), hg⟩
theorem mm_tn7 {w : Cond} (i : Nat) (h : tables_1_7[i]? = some w) (hg : mm_isN w = true) : w ∈ mm_NW := List.mem_filter.mpr ⟨List.mem_append_right _ (show w ∈ tables_1 from (List.mem_append_right _ (List.mem_append_right _ (List.mem_append_right _ (List.mem_append_right _ (List.mem_append_right _ (List.mem_append_right _ (List.mem_append_left _ (List.mem_of_getElem? h))))))))), hg⟩
theorem mm_tw8 {w : Cond} (i : Nat) (h : tables_1_8[i]? = some w) (hg : goodWord w = true) : w ∈ mm_TW := List.mem_filter.mpr ⟨List.mem_append_right _ (show w ∈ tables_1 from (List.mem_append_right _ (List.mem_append_right _ (List.mem_append_right _ (List.mem_append_right _ (List.mem_append_right _ (List.mem_append_right _ (List.mem_append_right _ (List.mem_append_left _ (List.mem_of_getElem? h)))))))))), hg⟩
theorem mm_tn8 {w : Cond} (i : Nat) (h : tables_1_8[i]? = some w) (hg : mm_isN w = true) : w ∈ mm_NW := List.mem_filter.mpr ⟨List.mem_append_right _ (show w ∈ tables_1 from (List.mem_append_right _ (List.mem_append_right _ (List.mem_append_right _ (List.mem_append_right _ (List.mem_append_right _ (List.mem_append_right _ (List.mem_append_right _ (List.mem_append_left _ (List.mem_of_getElem? h)))))))))), hg⟩
theorem mm_tw9 {w : Cond} (i : Nat) (h : tables_1_9[i]? = some w) (hg : goodWord w = true) : w ∈ mm_TW := List.mem_filter.mpr ⟨List.mem_append_right _ (show w ∈ tables_1 from (List.mem_append_right _ (List.mem_append_right _ (List.mem_append_right _ (List.mem_append_right _ (List.mem_append_right _ (List.mem_append_right _ (List.mem_append_right _ (List.mem_append_right _ (List.mem_of_getElem? h)))))))))), hg⟩
theorem mm_tn9 {w : Cond} (i : Nat) (h : tables_1_9[i]? = some w) (hg : mm_isN w = true) : w ∈ mm_NW := List.mem_filter.mpr ⟨List.mem_append_right _ (show w ∈ tables_1 from (List.mem_append_right _ (List.mem_append_right _ (List.mem_append_right _ (List.mem_append_right _ (List.mem_append_right _ (List.mem_append_right _ (List.mem_append_right _ (List.mem_append_right _ (List.mem_of_getElem? h)))))))))), hg⟩
def mm_pfP (z : Nat × Nat × Nat × Nat) : Prop := ∃ r : vw_C, vwCl[z.2.2.1 - 10]? = some r ∧ z.2.2.2 < r.2.2 ∧ 10 ≤ z.2.2.1 ∧ z.2.2.1 < 22 ∧ (Cond.fieldLink (mm_xn z.1) z.2.1 (r.2.1 z.2.2.2).1 (r.2.1 z.2.2.2).2.1 (r.2.1 z.2.2.2).2.2.1 ∈ mm_TW ∨ ∃ host, Cond.fieldLinkNest (mm_xn z.1) z.2.1 (r.2.1 z.2.2.2).1 (r.2.1 z.2.2.2).2.1 (r.2.1 z.2.2.2).2.2.1 host ∈ mm_NW)
set_option maxRecDepth 100000 in
theorem mm_pf0 : mm_pfP (0, 11, 10, 0) := ⟨_, rfl, Nat.le_of_ble_eq_true rfl, Nat.le_of_ble_eq_true rfl, Nat.le_of_ble_eq_true rfl, Or.inl (mm_tw2 97 rfl rfl)⟩
set_option maxRecDepth 100000 in
theorem mm_pf1 : mm_pfP (0, 15, 10, 1) := ⟨_, rfl, Nat.le_of_ble_eq_true rfl, Nat.le_of_ble_eq_true rfl, Nat.le_of_ble_eq_true rfl, Or.inl (mm_tw2 98 rfl rfl)⟩
set_option maxRecDepth 100000 in
theorem mm_pf2 : mm_pfP (0, 18, 10, 2) := ⟨_, rfl, Nat.le_of_ble_eq_true rfl, Nat.le_of_ble_eq_true rfl, Nat.le_of_ble_eq_true rfl, Or.inl (mm_tw2 99 rfl rfl)⟩
set_option maxRecDepth 100000 in
theorem mm_pf3 : mm_pfP (0, 22, 18, 4) := ⟨_, rfl, Nat.le_of_ble_eq_true rfl, Nat.le_of_ble_eq_true rfl, Nat.le_of_ble_eq_true rfl, Or.inr ⟨"HiccupTown", (mm_tn1 48 rfl rfl)⟩⟩
set_option maxRecDepth 100000 in
theorem mm_pf4 : mm_pfP (0, 47, 18, 7) := ⟨_, rfl, Nat.le_of_ble_eq_true rfl, Nat.le_of_ble_eq_true rfl, Nat.le_of_ble_eq_true rfl, Or.inr ⟨"HiccupTown", (mm_tn1 54 rfl rfl)⟩⟩
set_option maxRecDepth 100000 in
theorem mm_pf5 : mm_pfP (0, 114, 10, 3) := ⟨_, rfl, Nat.le_of_ble_eq_true rfl, Nat.le_of_ble_eq_true rfl, Nat.le_of_ble_eq_true rfl, Or.inl (mm_tw2 100 rfl rfl)⟩
set_option maxRecDepth 100000 in
theorem mm_pf6 : mm_pfP (0, 118, 10, 4) := ⟨_, rfl, Nat.le_of_ble_eq_true rfl, Nat.le_of_ble_eq_true rfl, Nat.le_of_ble_eq_true rfl, Or.inl (mm_tw2 101 rfl rfl)⟩
set_option maxRecDepth 100000 in
theorem mm_pf7 : mm_pfP (0, 121, 10, 5) := ⟨_, rfl, Nat.le_of_ble_eq_true rfl, Nat.le_of_ble_eq_true rfl, Nat.le_of_ble_eq_true rfl, Or.inl (mm_tw2 102 rfl rfl)⟩
set_option maxRecDepth 100000 in
theorem mm_pf8 : mm_pfP (0, 130, 12, 0) := ⟨_, rfl, Nat.le_of_ble_eq_true rfl, Nat.le_of_ble_eq_true rfl, Nat.le_of_ble_eq_true rfl, Or.inr ⟨"HiccupTown", (mm_tn1 187 rfl rfl)⟩⟩
set_option maxRecDepth 100000 in
theorem mm_pf9 : mm_pfP (0, 133, 10, 6) := ⟨_, rfl, Nat.le_of_ble_eq_true rfl, Nat.le_of_ble_eq_true rfl, Nat.le_of_ble_eq_true rfl, Or.inl (mm_tw2 104 rfl rfl)⟩
set_option maxRecDepth 100000 in
theorem mm_pf10 : mm_pfP (0, 140, 10, 7) := ⟨_, rfl, Nat.le_of_ble_eq_true rfl, Nat.le_of_ble_eq_true rfl, Nat.le_of_ble_eq_true rfl, Or.inl (mm_tw2 105 rfl rfl)⟩
set_option maxRecDepth 100000 in
theorem mm_pf11 : mm_pfP (1, 11, 11, 0) := ⟨_, rfl, Nat.le_of_ble_eq_true rfl, Nat.le_of_ble_eq_true rfl, Nat.le_of_ble_eq_true rfl, Or.inl (mm_tw2 54 rfl rfl)⟩
set_option maxRecDepth 100000 in
theorem mm_pf12 : mm_pfP (1, 15, 11, 1) := ⟨_, rfl, Nat.le_of_ble_eq_true rfl, Nat.le_of_ble_eq_true rfl, Nat.le_of_ble_eq_true rfl, Or.inl (mm_tw2 55 rfl rfl)⟩
set_option maxRecDepth 100000 in
theorem mm_pf13 : mm_pfP (1, 19, 11, 2) := ⟨_, rfl, Nat.le_of_ble_eq_true rfl, Nat.le_of_ble_eq_true rfl, Nat.le_of_ble_eq_true rfl, Or.inl (mm_tw2 57 rfl rfl)⟩
set_option maxRecDepth 100000 in
theorem mm_pf14 : mm_pfP (1, 22, 11, 3) := ⟨_, rfl, Nat.le_of_ble_eq_true rfl, Nat.le_of_ble_eq_true rfl, Nat.le_of_ble_eq_true rfl, Or.inl (mm_tw2 59 rfl rfl)⟩
set_option maxRecDepth 100000 in
theorem mm_pf15 : mm_pfP (1, 40, 18, 1) := ⟨_, rfl, Nat.le_of_ble_eq_true rfl, Nat.le_of_ble_eq_true rfl, Nat.le_of_ble_eq_true rfl, Or.inr ⟨"HiccupTown", (mm_tn1 44 rfl rfl)⟩⟩
set_option maxRecDepth 100000 in
theorem mm_pf16 : mm_pfP (1, 55, 14, 10) := ⟨_, rfl, Nat.le_of_ble_eq_true rfl, Nat.le_of_ble_eq_true rfl, Nat.le_of_ble_eq_true rfl, Or.inr ⟨"HiccupTown", (mm_tn1 133 rfl rfl)⟩⟩
set_option maxRecDepth 100000 in
theorem mm_pf17 : mm_pfP (1, 63, 14, 2) := ⟨_, rfl, Nat.le_of_ble_eq_true rfl, Nat.le_of_ble_eq_true rfl, Nat.le_of_ble_eq_true rfl, Or.inr ⟨"HiccupTown", (mm_tn1 104 rfl rfl)⟩⟩
set_option maxRecDepth 100000 in
theorem mm_pf18 : mm_pfP (2, 11, 12, 2) := ⟨_, rfl, Nat.le_of_ble_eq_true rfl, Nat.le_of_ble_eq_true rfl, Nat.le_of_ble_eq_true rfl, Or.inl (mm_tw1 190 rfl rfl)⟩
set_option maxRecDepth 100000 in
theorem mm_pf19 : mm_pfP (2, 17, 12, 6) := ⟨_, rfl, Nat.le_of_ble_eq_true rfl, Nat.le_of_ble_eq_true rfl, Nat.le_of_ble_eq_true rfl, Or.inl (mm_tw1 198 rfl rfl)⟩
set_option maxRecDepth 100000 in
theorem mm_pf20 : mm_pfP (2, 21, 12, 7) := ⟨_, rfl, Nat.le_of_ble_eq_true rfl, Nat.le_of_ble_eq_true rfl, Nat.le_of_ble_eq_true rfl, Or.inl (mm_tw1 201 rfl rfl)⟩
set_option maxRecDepth 100000 in
theorem mm_pf21 : mm_pfP (2, 24, 12, 8) := ⟨_, rfl, Nat.le_of_ble_eq_true rfl, Nat.le_of_ble_eq_true rfl, Nat.le_of_ble_eq_true rfl, Or.inl (mm_tw1 204 rfl rfl)⟩
set_option maxRecDepth 100000 in
theorem mm_pf22 : mm_pfP (2, 27, 12, 0) := ⟨_, rfl, Nat.le_of_ble_eq_true rfl, Nat.le_of_ble_eq_true rfl, Nat.le_of_ble_eq_true rfl, Or.inl (mm_tw1 185 rfl rfl)⟩
set_option maxRecDepth 100000 in
theorem mm_pf23 : mm_pfP (2, 30, 12, 1) := ⟨_, rfl, Nat.le_of_ble_eq_true rfl, Nat.le_of_ble_eq_true rfl, Nat.le_of_ble_eq_true rfl, Or.inl (mm_tw1 188 rfl rfl)⟩
set_option maxRecDepth 100000 in
theorem mm_pf24 : mm_pfP (2, 37, 12, 3) := ⟨_, rfl, Nat.le_of_ble_eq_true rfl, Nat.le_of_ble_eq_true rfl, Nat.le_of_ble_eq_true rfl, Or.inl (mm_tw1 192 rfl rfl)⟩
set_option maxRecDepth 100000 in
theorem mm_pf25 : mm_pfP (2, 41, 12, 4) := ⟨_, rfl, Nat.le_of_ble_eq_true rfl, Nat.le_of_ble_eq_true rfl, Nat.le_of_ble_eq_true rfl, Or.inl (mm_tw1 194 rfl rfl)⟩
set_option maxRecDepth 100000 in
theorem mm_pf26 : mm_pfP (2, 44, 14, 1) := ⟨_, rfl, Nat.le_of_ble_eq_true rfl, Nat.le_of_ble_eq_true rfl, Nat.le_of_ble_eq_true rfl, Or.inr ⟨"HiccupTown", (mm_tn1 100 rfl rfl)⟩⟩
set_option maxRecDepth 100000 in
theorem mm_pf27 : mm_pfP (2, 47, 12, 5) := ⟨_, rfl, Nat.le_of_ble_eq_true rfl, Nat.le_of_ble_eq_true rfl, Nat.le_of_ble_eq_true rfl, Or.inl (mm_tw1 196 rfl rfl)⟩
set_option maxRecDepth 100000 in
theorem mm_pf28 : mm_pfP (2, 50, 14, 5) := ⟨_, rfl, Nat.le_of_ble_eq_true rfl, Nat.le_of_ble_eq_true rfl, Nat.le_of_ble_eq_true rfl, Or.inr ⟨"HiccupTown", (mm_tn1 112 rfl rfl)⟩⟩
set_option maxRecDepth 100000 in
theorem mm_pf29 : mm_pfP (2, 53, 14, 8) := ⟨_, rfl, Nat.le_of_ble_eq_true rfl, Nat.le_of_ble_eq_true rfl, Nat.le_of_ble_eq_true rfl, Or.inr ⟨"HiccupTown", (mm_tn1 125 rfl rfl)⟩⟩
set_option maxRecDepth 100000 in
theorem mm_pf30 : mm_pfP (2, 62, 14, 2) := ⟨_, rfl, Nat.le_of_ble_eq_true rfl, Nat.le_of_ble_eq_true rfl, Nat.le_of_ble_eq_true rfl, Or.inr ⟨"HiccupTown", (mm_tn1 105 rfl rfl)⟩⟩
set_option maxRecDepth 100000 in
theorem mm_pf31 : mm_pfP (2, 69, 14, 9) := ⟨_, rfl, Nat.le_of_ble_eq_true rfl, Nat.le_of_ble_eq_true rfl, Nat.le_of_ble_eq_true rfl, Or.inr ⟨"HiccupTown", (mm_tn1 130 rfl rfl)⟩⟩
set_option maxRecDepth 100000 in
theorem mm_pf32 : mm_pfP (2, 86, 14, 7) := ⟨_, rfl, Nat.le_of_ble_eq_true rfl, Nat.le_of_ble_eq_true rfl, Nat.le_of_ble_eq_true rfl, Or.inr ⟨"HiccupTown", (mm_tn1 122 rfl rfl)⟩⟩
set_option maxRecDepth 100000 in
theorem mm_pf33 : mm_pfP (2, 89, 14, 6) := ⟨_, rfl, Nat.le_of_ble_eq_true rfl, Nat.le_of_ble_eq_true rfl, Nat.le_of_ble_eq_true rfl, Or.inr ⟨"HiccupTown", (mm_tn1 117 rfl rfl)⟩⟩
set_option maxRecDepth 100000 in
theorem mm_pf34 : mm_pfP (2, 169, 14, 0) := ⟨_, rfl, Nat.le_of_ble_eq_true rfl, Nat.le_of_ble_eq_true rfl, Nat.le_of_ble_eq_true rfl, Or.inr ⟨"HiccupTown", (mm_tn1 98 rfl rfl)⟩⟩
set_option maxRecDepth 100000 in
theorem mm_pf35 : mm_pfP (3, 13, 13, 0) := ⟨_, rfl, Nat.le_of_ble_eq_true rfl, Nat.le_of_ble_eq_true rfl, Nat.le_of_ble_eq_true rfl, Or.inl (mm_tw2 36 rfl rfl)⟩
set_option maxRecDepth 100000 in
theorem mm_pf36 : mm_pfP (3, 18, 13, 2) := ⟨_, rfl, Nat.le_of_ble_eq_true rfl, Nat.le_of_ble_eq_true rfl, Nat.le_of_ble_eq_true rfl, Or.inl (mm_tw2 38 rfl rfl)⟩
set_option maxRecDepth 100000 in
theorem mm_pf37 : mm_pfP (3, 22, 13, 1) := ⟨_, rfl, Nat.le_of_ble_eq_true rfl, Nat.le_of_ble_eq_true rfl, Nat.le_of_ble_eq_true rfl, Or.inl (mm_tw2 37 rfl rfl)⟩
set_option maxRecDepth 100000 in
theorem mm_pf38 : mm_pfP (4, 11, 14, 0) := ⟨_, rfl, Nat.le_of_ble_eq_true rfl, Nat.le_of_ble_eq_true rfl, Nat.le_of_ble_eq_true rfl, Or.inl (mm_tw1 95 rfl rfl)⟩
set_option maxRecDepth 100000 in
theorem mm_pf39 : mm_pfP (4, 15, 14, 2) := ⟨_, rfl, Nat.le_of_ble_eq_true rfl, Nat.le_of_ble_eq_true rfl, Nat.le_of_ble_eq_true rfl, Or.inl (mm_tw1 102 rfl rfl)⟩
set_option maxRecDepth 100000 in
theorem mm_pf40 : mm_pfP (4, 19, 14, 3) := ⟨_, rfl, Nat.le_of_ble_eq_true rfl, Nat.le_of_ble_eq_true rfl, Nat.le_of_ble_eq_true rfl, Or.inl (mm_tw1 107 rfl rfl)⟩
set_option maxRecDepth 100000 in
theorem mm_pf41 : mm_pfP (4, 23, 14, 4) := ⟨_, rfl, Nat.le_of_ble_eq_true rfl, Nat.le_of_ble_eq_true rfl, Nat.le_of_ble_eq_true rfl, Or.inl (mm_tw1 108 rfl rfl)⟩
set_option maxRecDepth 100000 in
theorem mm_pf42 : mm_pfP (4, 26, 14, 5) := ⟨_, rfl, Nat.le_of_ble_eq_true rfl, Nat.le_of_ble_eq_true rfl, Nat.le_of_ble_eq_true rfl, Or.inl (mm_tw1 111 rfl rfl)⟩
set_option maxRecDepth 100000 in
theorem mm_pf43 : mm_pfP (4, 29, 14, 6) := ⟨_, rfl, Nat.le_of_ble_eq_true rfl, Nat.le_of_ble_eq_true rfl, Nat.le_of_ble_eq_true rfl, Or.inl (mm_tw1 114 rfl rfl)⟩
set_option maxRecDepth 100000 in
theorem mm_pf44 : mm_pfP (4, 32, 14, 7) := ⟨_, rfl, Nat.le_of_ble_eq_true rfl, Nat.le_of_ble_eq_true rfl, Nat.le_of_ble_eq_true rfl, Or.inl (mm_tw1 119 rfl rfl)⟩
set_option maxRecDepth 100000 in
theorem mm_pf45 : mm_pfP (4, 35, 14, 8) := ⟨_, rfl, Nat.le_of_ble_eq_true rfl, Nat.le_of_ble_eq_true rfl, Nat.le_of_ble_eq_true rfl, Or.inl (mm_tw1 124 rfl rfl)⟩
set_option maxRecDepth 100000 in
theorem mm_pf46 : mm_pfP (4, 38, 14, 9) := ⟨_, rfl, Nat.le_of_ble_eq_true rfl, Nat.le_of_ble_eq_true rfl, Nat.le_of_ble_eq_true rfl, Or.inl (mm_tw1 128 rfl rfl)⟩
set_option maxRecDepth 100000 in
theorem mm_pf47 : mm_pfP (4, 41, 14, 10) := ⟨_, rfl, Nat.le_of_ble_eq_true rfl, Nat.le_of_ble_eq_true rfl, Nat.le_of_ble_eq_true rfl, Or.inl (mm_tw1 132 rfl rfl)⟩
set_option maxRecDepth 100000 in
theorem mm_pf48 : mm_pfP (4, 44, 14, 1) := ⟨_, rfl, Nat.le_of_ble_eq_true rfl, Nat.le_of_ble_eq_true rfl, Nat.le_of_ble_eq_true rfl, Or.inl (mm_tw1 99 rfl rfl)⟩
set_option maxRecDepth 100000 in
theorem mm_pf49 : mm_pfP (5, 11, 15, 0) := ⟨_, rfl, Nat.le_of_ble_eq_true rfl, Nat.le_of_ble_eq_true rfl, Nat.le_of_ble_eq_true rfl, Or.inl (mm_tw2 79 rfl rfl)⟩
set_option maxRecDepth 100000 in
theorem mm_pf50 : mm_pfP (5, 14, 15, 1) := ⟨_, rfl, Nat.le_of_ble_eq_true rfl, Nat.le_of_ble_eq_true rfl, Nat.le_of_ble_eq_true rfl, Or.inl (mm_tw2 80 rfl rfl)⟩
set_option maxRecDepth 100000 in
theorem mm_pf51 : mm_pfP (5, 32, 14, 4) := ⟨_, rfl, Nat.le_of_ble_eq_true rfl, Nat.le_of_ble_eq_true rfl, Nat.le_of_ble_eq_true rfl, Or.inr ⟨"HiccupTown", (mm_tn1 109 rfl rfl)⟩⟩
set_option maxRecDepth 100000 in
theorem mm_pf52 : mm_pfP (5, 38, 15, 2) := ⟨_, rfl, Nat.le_of_ble_eq_true rfl, Nat.le_of_ble_eq_true rfl, Nat.le_of_ble_eq_true rfl, Or.inl (mm_tw2 82 rfl rfl)⟩
set_option maxRecDepth 100000 in
theorem mm_pf53 : mm_pfP (6, 10, 16, 0) := ⟨_, rfl, Nat.le_of_ble_eq_true rfl, Nat.le_of_ble_eq_true rfl, Nat.le_of_ble_eq_true rfl, Or.inl (mm_tw2 10 rfl rfl)⟩
set_option maxRecDepth 100000 in
theorem mm_pf54 : mm_pfP (6, 19, 16, 1) := ⟨_, rfl, Nat.le_of_ble_eq_true rfl, Nat.le_of_ble_eq_true rfl, Nat.le_of_ble_eq_true rfl, Or.inl (mm_tw2 12 rfl rfl)⟩
set_option maxRecDepth 100000 in
theorem mm_pf55 : mm_pfP (6, 26, 16, 2) := ⟨_, rfl, Nat.le_of_ble_eq_true rfl, Nat.le_of_ble_eq_true rfl, Nat.le_of_ble_eq_true rfl, Or.inl (mm_tw2 14 rfl rfl)⟩
set_option maxRecDepth 100000 in
theorem mm_pf56 : mm_pfP (7, 13, 17, 0) := ⟨_, rfl, Nat.le_of_ble_eq_true rfl, Nat.le_of_ble_eq_true rfl, Nat.le_of_ble_eq_true rfl, Or.inl (mm_tw1 233 rfl rfl)⟩
set_option maxRecDepth 100000 in
theorem mm_pf57 : mm_pfP (7, 17, 17, 1) := ⟨_, rfl, Nat.le_of_ble_eq_true rfl, Nat.le_of_ble_eq_true rfl, Nat.le_of_ble_eq_true rfl, Or.inl (mm_tw1 234 rfl rfl)⟩
set_option maxRecDepth 100000 in
theorem mm_pf58 : mm_pfP (7, 20, 17, 2) := ⟨_, rfl, Nat.le_of_ble_eq_true rfl, Nat.le_of_ble_eq_true rfl, Nat.le_of_ble_eq_true rfl, Or.inl (mm_tw1 235 rfl rfl)⟩
set_option maxRecDepth 100000 in
theorem mm_pf59 : mm_pfP (7, 24, 17, 3) := ⟨_, rfl, Nat.le_of_ble_eq_true rfl, Nat.le_of_ble_eq_true rfl, Nat.le_of_ble_eq_true rfl, Or.inl (mm_tw1 236 rfl rfl)⟩
set_option maxRecDepth 100000 in
theorem mm_pf60 : mm_pfP (7, 28, 17, 4) := ⟨_, rfl, Nat.le_of_ble_eq_true rfl, Nat.le_of_ble_eq_true rfl, Nat.le_of_ble_eq_true rfl, Or.inl (mm_tw1 237 rfl rfl)⟩
set_option maxRecDepth 100000 in
theorem mm_pf61 : mm_pfP (7, 51, 18, 4) := ⟨_, rfl, Nat.le_of_ble_eq_true rfl, Nat.le_of_ble_eq_true rfl, Nat.le_of_ble_eq_true rfl, Or.inr ⟨"HiccupTown", (mm_tn1 50 rfl rfl)⟩⟩
set_option maxRecDepth 100000 in
theorem mm_pf62 : mm_pfP (7, 149, 12, 6) := ⟨_, rfl, Nat.le_of_ble_eq_true rfl, Nat.le_of_ble_eq_true rfl, Nat.le_of_ble_eq_true rfl, Or.inr ⟨"HiccupTown", (mm_tn1 200 rfl rfl)⟩⟩
set_option maxRecDepth 100000 in
theorem mm_pf63 : mm_pfP (7, 152, 14, 7) := ⟨_, rfl, Nat.le_of_ble_eq_true rfl, Nat.le_of_ble_eq_true rfl, Nat.le_of_ble_eq_true rfl, Or.inr ⟨"HiccupTown", (mm_tn1 123 rfl rfl)⟩⟩
set_option maxRecDepth 100000 in
theorem mm_pf64 : mm_pfP (7, 163, 14, 6) := ⟨_, rfl, Nat.le_of_ble_eq_true rfl, Nat.le_of_ble_eq_true rfl, Nat.le_of_ble_eq_true rfl, Or.inr ⟨"HiccupTown", (mm_tn1 118 rfl rfl)⟩⟩
set_option maxRecDepth 100000 in
theorem mm_pf65 : mm_pfP (7, 166, 12, 7) := ⟨_, rfl, Nat.le_of_ble_eq_true rfl, Nat.le_of_ble_eq_true rfl, Nat.le_of_ble_eq_true rfl, Or.inr ⟨"HiccupTown", (mm_tn1 203 rfl rfl)⟩⟩
set_option maxRecDepth 100000 in
theorem mm_pf66 : mm_pfP (8, 9, 18, 0) := ⟨_, rfl, Nat.le_of_ble_eq_true rfl, Nat.le_of_ble_eq_true rfl, Nat.le_of_ble_eq_true rfl, Or.inl (mm_tw1 41 rfl rfl)⟩
set_option maxRecDepth 100000 in
theorem mm_pf67 : mm_pfP (8, 21, 18, 4) := ⟨_, rfl, Nat.le_of_ble_eq_true rfl, Nat.le_of_ble_eq_true rfl, Nat.le_of_ble_eq_true rfl, Or.inl (mm_tw1 47 rfl rfl)⟩
set_option maxRecDepth 100000 in
theorem mm_pf68 : mm_pfP (8, 24, 18, 1) := ⟨_, rfl, Nat.le_of_ble_eq_true rfl, Nat.le_of_ble_eq_true rfl, Nat.le_of_ble_eq_true rfl, Or.inl (mm_tw1 43 rfl rfl)⟩
set_option maxRecDepth 100000 in
theorem mm_pf69 : mm_pfP (8, 28, 18, 2) := ⟨_, rfl, Nat.le_of_ble_eq_true rfl, Nat.le_of_ble_eq_true rfl, Nat.le_of_ble_eq_true rfl, Or.inl (mm_tw1 45 rfl rfl)⟩
set_option maxRecDepth 100000 in
theorem mm_pf70 : mm_pfP (8, 31, 18, 3) := ⟨_, rfl, Nat.le_of_ble_eq_true rfl, Nat.le_of_ble_eq_true rfl, Nat.le_of_ble_eq_true rfl, Or.inl (mm_tw1 46 rfl rfl)⟩
set_option maxRecDepth 100000 in
theorem mm_pf71 : mm_pfP (8, 34, 18, 8) := ⟨_, rfl, Nat.le_of_ble_eq_true rfl, Nat.le_of_ble_eq_true rfl, Nat.le_of_ble_eq_true rfl, Or.inl (mm_tw1 57 rfl rfl)⟩
set_option maxRecDepth 100000 in
theorem mm_pf72 : mm_pfP (8, 37, 18, 9) := ⟨_, rfl, Nat.le_of_ble_eq_true rfl, Nat.le_of_ble_eq_true rfl, Nat.le_of_ble_eq_true rfl, Or.inl (mm_tw1 59 rfl rfl)⟩
set_option maxRecDepth 100000 in
theorem mm_pf73 : mm_pfP (8, 46, 18, 5) := ⟨_, rfl, Nat.le_of_ble_eq_true rfl, Nat.le_of_ble_eq_true rfl, Nat.le_of_ble_eq_true rfl, Or.inl (mm_tw1 51 rfl rfl)⟩
set_option maxRecDepth 100000 in
theorem mm_pf74 : mm_pfP (8, 49, 18, 6) := ⟨_, rfl, Nat.le_of_ble_eq_true rfl, Nat.le_of_ble_eq_true rfl, Nat.le_of_ble_eq_true rfl, Or.inl (mm_tw1 53 rfl rfl)⟩
set_option maxRecDepth 100000 in
theorem mm_pf75 : mm_pfP (8, 52, 18, 7) := ⟨_, rfl, Nat.le_of_ble_eq_true rfl, Nat.le_of_ble_eq_true rfl, Nat.le_of_ble_eq_true rfl, Or.inl (mm_tw1 55 rfl rfl)⟩
set_option maxRecDepth 100000 in
theorem mm_pf76 : mm_pfP (9, 12, 19, 0) := ⟨_, rfl, Nat.le_of_ble_eq_true rfl, Nat.le_of_ble_eq_true rfl, Nat.le_of_ble_eq_true rfl, Or.inl (mm_tw1 160 rfl rfl)⟩
set_option maxRecDepth 100000 in
theorem mm_pf77 : mm_pfP (9, 21, 19, 1) := ⟨_, rfl, Nat.le_of_ble_eq_true rfl, Nat.le_of_ble_eq_true rfl, Nat.le_of_ble_eq_true rfl, Or.inl (mm_tw1 162 rfl rfl)⟩
set_option maxRecDepth 100000 in
theorem mm_pf78 : mm_pfP (9, 25, 19, 2) := ⟨_, rfl, Nat.le_of_ble_eq_true rfl, Nat.le_of_ble_eq_true rfl, Nat.le_of_ble_eq_true rfl, Or.inl (mm_tw1 163 rfl rfl)⟩
set_option maxRecDepth 100000 in
theorem mm_pf79 : mm_pfP (9, 28, 18, 4) := ⟨_, rfl, Nat.le_of_ble_eq_true rfl, Nat.le_of_ble_eq_true rfl, Nat.le_of_ble_eq_true rfl, Or.inr ⟨"HiccupTown", (mm_tn1 49 rfl rfl)⟩⟩
set_option maxRecDepth 100000 in
theorem mm_pf80 : mm_pfP (9, 96, 14, 2) := ⟨_, rfl, Nat.le_of_ble_eq_true rfl, Nat.le_of_ble_eq_true rfl, Nat.le_of_ble_eq_true rfl, Or.inr ⟨"HiccupTown", (mm_tn1 103 rfl rfl)⟩⟩
set_option maxRecDepth 100000 in
theorem mm_pf81 : mm_pfP (9, 107, 14, 0) := ⟨_, rfl, Nat.le_of_ble_eq_true rfl, Nat.le_of_ble_eq_true rfl, Nat.le_of_ble_eq_true rfl, Or.inr ⟨"HiccupTown", (mm_tn1 96 rfl rfl)⟩⟩
set_option maxRecDepth 100000 in
theorem mm_pf82 : mm_pfP (9, 111, 14, 4) := ⟨_, rfl, Nat.le_of_ble_eq_true rfl, Nat.le_of_ble_eq_true rfl, Nat.le_of_ble_eq_true rfl, Or.inr ⟨"HiccupTown", (mm_tn1 110 rfl rfl)⟩⟩
set_option maxRecDepth 100000 in
theorem mm_pf83 : mm_pfP (9, 120, 18, 7) := ⟨_, rfl, Nat.le_of_ble_eq_true rfl, Nat.le_of_ble_eq_true rfl, Nat.le_of_ble_eq_true rfl, Or.inr ⟨"HiccupTown", (mm_tn1 56 rfl rfl)⟩⟩
set_option maxRecDepth 100000 in
theorem mm_pf84 : mm_pfP (9, 136, 14, 5) := ⟨_, rfl, Nat.le_of_ble_eq_true rfl, Nat.le_of_ble_eq_true rfl, Nat.le_of_ble_eq_true rfl, Or.inr ⟨"HiccupTown", (mm_tn1 113 rfl rfl)⟩⟩
set_option maxRecDepth 100000 in
theorem mm_pf85 : mm_pfP (9, 139, 14, 6) := ⟨_, rfl, Nat.le_of_ble_eq_true rfl, Nat.le_of_ble_eq_true rfl, Nat.le_of_ble_eq_true rfl, Or.inr ⟨"HiccupTown", (mm_tn1 116 rfl rfl)⟩⟩
set_option maxRecDepth 100000 in
theorem mm_pf86 : mm_pfP (9, 145, 14, 1) := ⟨_, rfl, Nat.le_of_ble_eq_true rfl, Nat.le_of_ble_eq_true rfl, Nat.le_of_ble_eq_true rfl, Or.inr ⟨"HiccupTown", (mm_tn1 101 rfl rfl)⟩⟩
set_option maxRecDepth 100000 in
theorem mm_pf87 : mm_pfP (9, 148, 14, 7) := ⟨_, rfl, Nat.le_of_ble_eq_true rfl, Nat.le_of_ble_eq_true rfl, Nat.le_of_ble_eq_true rfl, Or.inr ⟨"HiccupTown", (mm_tn1 121 rfl rfl)⟩⟩
set_option maxRecDepth 100000 in
theorem mm_pf88 : mm_pfP (9, 151, 14, 8) := ⟨_, rfl, Nat.le_of_ble_eq_true rfl, Nat.le_of_ble_eq_true rfl, Nat.le_of_ble_eq_true rfl, Or.inr ⟨"HiccupTown", (mm_tn1 127 rfl rfl)⟩⟩
set_option maxRecDepth 100000 in
theorem mm_pf89 : mm_pfP (9, 154, 14, 9) := ⟨_, rfl, Nat.le_of_ble_eq_true rfl, Nat.le_of_ble_eq_true rfl, Nat.le_of_ble_eq_true rfl, Or.inr ⟨"HiccupTown", (mm_tn1 131 rfl rfl)⟩⟩
set_option maxRecDepth 100000 in
theorem mm_pf90 : mm_pfP (9, 161, 18, 5) := ⟨_, rfl, Nat.le_of_ble_eq_true rfl, Nat.le_of_ble_eq_true rfl, Nat.le_of_ble_eq_true rfl, Or.inr ⟨"HiccupTown", (mm_tn1 52 rfl rfl)⟩⟩
set_option maxRecDepth 100000 in
theorem mm_pf91 : mm_pfP (9, 171, 14, 10) := ⟨_, rfl, Nat.le_of_ble_eq_true rfl, Nat.le_of_ble_eq_true rfl, Nat.le_of_ble_eq_true rfl, Or.inr ⟨"HiccupTown", (mm_tn1 134 rfl rfl)⟩⟩
set_option maxRecDepth 100000 in
theorem mm_pf92 : mm_pfP (11, 10, 20, 0) := ⟨_, rfl, Nat.le_of_ble_eq_true rfl, Nat.le_of_ble_eq_true rfl, Nat.le_of_ble_eq_true rfl, Or.inl (mm_tw2 125 rfl rfl)⟩
set_option maxRecDepth 100000 in
theorem mm_pf93 : mm_pfP (11, 19, 20, 1) := ⟨_, rfl, Nat.le_of_ble_eq_true rfl, Nat.le_of_ble_eq_true rfl, Nat.le_of_ble_eq_true rfl, Or.inl (mm_tw2 126 rfl rfl)⟩
set_option maxRecDepth 100000 in
theorem mm_pf94 : mm_pfP (11, 26, 20, 2) := ⟨_, rfl, Nat.le_of_ble_eq_true rfl, Nat.le_of_ble_eq_true rfl, Nat.le_of_ble_eq_true rfl, Or.inl (mm_tw2 127 rfl rfl)⟩
set_option maxRecDepth 100000 in
theorem mm_pf95 : mm_pfP (11, 30, 20, 3) := ⟨_, rfl, Nat.le_of_ble_eq_true rfl, Nat.le_of_ble_eq_true rfl, Nat.le_of_ble_eq_true rfl, Or.inl (mm_tw2 128 rfl rfl)⟩
set_option maxRecDepth 100000 in
theorem mm_pf96 : mm_pfP (11, 37, 20, 4) := ⟨_, rfl, Nat.le_of_ble_eq_true rfl, Nat.le_of_ble_eq_true rfl, Nat.le_of_ble_eq_true rfl, Or.inl (mm_tw2 129 rfl rfl)⟩
set_option maxRecDepth 100000 in
theorem mm_pf97 : mm_pfP (11, 44, 20, 5) := ⟨_, rfl, Nat.le_of_ble_eq_true rfl, Nat.le_of_ble_eq_true rfl, Nat.le_of_ble_eq_true rfl, Or.inl (mm_tw2 130 rfl rfl)⟩
set_option maxRecDepth 100000 in
theorem mm_pf98 : mm_pfP (11, 48, 20, 6) := ⟨_, rfl, Nat.le_of_ble_eq_true rfl, Nat.le_of_ble_eq_true rfl, Nat.le_of_ble_eq_true rfl, Or.inl (mm_tw2 131 rfl rfl)⟩
set_option maxRecDepth 100000 in
theorem mm_pf99 : mm_pfP (11, 54, 20, 7) := ⟨_, rfl, Nat.le_of_ble_eq_true rfl, Nat.le_of_ble_eq_true rfl, Nat.le_of_ble_eq_true rfl, Or.inl (mm_tw2 132 rfl rfl)⟩
set_option maxRecDepth 100000 in
theorem mm_pf100 : mm_pfP (11, 61, 20, 8) := ⟨_, rfl, Nat.le_of_ble_eq_true rfl, Nat.le_of_ble_eq_true rfl, Nat.le_of_ble_eq_true rfl, Or.inl (mm_tw2 133 rfl rfl)⟩
set_option maxRecDepth 100000 in
theorem mm_pf101 : mm_pfP (11, 68, 20, 9) := ⟨_, rfl, Nat.le_of_ble_eq_true rfl, Nat.le_of_ble_eq_true rfl, Nat.le_of_ble_eq_true rfl, Or.inl (mm_tw2 134 rfl rfl)⟩
set_option maxRecDepth 100000 in
theorem mm_pf102 : mm_pfP (11, 75, 20, 10) := ⟨_, rfl, Nat.le_of_ble_eq_true rfl, Nat.le_of_ble_eq_true rfl, Nat.le_of_ble_eq_true rfl, Or.inl (mm_tw2 135 rfl rfl)⟩
set_option maxRecDepth 100000 in
theorem mm_pf103 : mm_pfP (11, 79, 20, 11) := ⟨_, rfl, Nat.le_of_ble_eq_true rfl, Nat.le_of_ble_eq_true rfl, Nat.le_of_ble_eq_true rfl, Or.inl (mm_tw2 136 rfl rfl)⟩
set_option maxRecDepth 100000 in
theorem mm_pf104 : mm_pfP (11, 83, 20, 14) := ⟨_, rfl, Nat.le_of_ble_eq_true rfl, Nat.le_of_ble_eq_true rfl, Nat.le_of_ble_eq_true rfl, Or.inl (mm_tw2 139 rfl rfl)⟩
set_option maxRecDepth 100000 in
theorem mm_pf105 : mm_pfP (11, 87, 18, 1) := ⟨_, rfl, Nat.le_of_ble_eq_true rfl, Nat.le_of_ble_eq_true rfl, Nat.le_of_ble_eq_true rfl, Or.inr ⟨"HiccupTown", (mm_tn1 42 rfl rfl)⟩⟩
set_option maxRecDepth 100000 in
theorem mm_pf106 : mm_pfP (11, 105, 18, 9) := ⟨_, rfl, Nat.le_of_ble_eq_true rfl, Nat.le_of_ble_eq_true rfl, Nat.le_of_ble_eq_true rfl, Or.inr ⟨"HiccupTown", (mm_tn1 60 rfl rfl)⟩⟩
set_option maxRecDepth 100000 in
theorem mm_pf107 : mm_pfP (11, 108, 19, 0) := ⟨_, rfl, Nat.le_of_ble_eq_true rfl, Nat.le_of_ble_eq_true rfl, Nat.le_of_ble_eq_true rfl, Or.inr ⟨"HiccupTown", (mm_tn1 161 rfl rfl)⟩⟩
set_option maxRecDepth 100000 in
theorem mm_pf108 : mm_pfP (11, 119, 20, 13) := ⟨_, rfl, Nat.le_of_ble_eq_true rfl, Nat.le_of_ble_eq_true rfl, Nat.le_of_ble_eq_true rfl, Or.inl (mm_tw2 138 rfl rfl)⟩
set_option maxRecDepth 100000 in
theorem mm_pf109 : mm_pfP (11, 122, 16, 0) := ⟨_, rfl, Nat.le_of_ble_eq_true rfl, Nat.le_of_ble_eq_true rfl, Nat.le_of_ble_eq_true rfl, Or.inr ⟨"HiccupTown", (mm_tn2 11 rfl rfl)⟩⟩
set_option maxRecDepth 100000 in
theorem mm_pf110 : mm_pfP (11, 136, 16, 1) := ⟨_, rfl, Nat.le_of_ble_eq_true rfl, Nat.le_of_ble_eq_true rfl, Nat.le_of_ble_eq_true rfl, Or.inr ⟨"HiccupTown", (mm_tn2 13 rfl rfl)⟩⟩
set_option maxRecDepth 100000 in
theorem mm_pf111 : mm_pfP (11, 139, 12, 6) := ⟨_, rfl, Nat.le_of_ble_eq_true rfl, Nat.le_of_ble_eq_true rfl, Nat.le_of_ble_eq_true rfl, Or.inr ⟨"HiccupTown", (mm_tn1 199 rfl rfl)⟩⟩
set_option maxRecDepth 100000 in
theorem mm_pf112 : mm_pfP (11, 143, 14, 6) := ⟨_, rfl, Nat.le_of_ble_eq_true rfl, Nat.le_of_ble_eq_true rfl, Nat.le_of_ble_eq_true rfl, Or.inr ⟨"HiccupTown", (mm_tn1 115 rfl rfl)⟩⟩
set_option maxRecDepth 100000 in
theorem mm_pf113 : mm_pfP (11, 150, 12, 7) := ⟨_, rfl, Nat.le_of_ble_eq_true rfl, Nat.le_of_ble_eq_true rfl, Nat.le_of_ble_eq_true rfl, Or.inr ⟨"HiccupTown", (mm_tn1 202 rfl rfl)⟩⟩
set_option maxRecDepth 100000 in
theorem mm_pf114 : mm_pfP (11, 159, 14, 7) := ⟨_, rfl, Nat.le_of_ble_eq_true rfl, Nat.le_of_ble_eq_true rfl, Nat.le_of_ble_eq_true rfl, Or.inr ⟨"HiccupTown", (mm_tn1 120 rfl rfl)⟩⟩
set_option maxRecDepth 100000 in
theorem mm_pf115 : mm_pfP (11, 162, 14, 8) := ⟨_, rfl, Nat.le_of_ble_eq_true rfl, Nat.le_of_ble_eq_true rfl, Nat.le_of_ble_eq_true rfl, Or.inr ⟨"HiccupTown", (mm_tn1 126 rfl rfl)⟩⟩
set_option maxRecDepth 100000 in
theorem mm_pf116 : mm_pfP (11, 165, 12, 8) := ⟨_, rfl, Nat.le_of_ble_eq_true rfl, Nat.le_of_ble_eq_true rfl, Nat.le_of_ble_eq_true rfl, Or.inr ⟨"HiccupTown", (mm_tn1 205 rfl rfl)⟩⟩
set_option maxRecDepth 100000 in
theorem mm_pf117 : mm_pfP (11, 172, 14, 9) := ⟨_, rfl, Nat.le_of_ble_eq_true rfl, Nat.le_of_ble_eq_true rfl, Nat.le_of_ble_eq_true rfl, Or.inr ⟨"HiccupTown", (mm_tn1 129 rfl rfl)⟩⟩
set_option maxRecDepth 100000 in
theorem mm_pf118 : mm_pfP (11, 179, 12, 0) := ⟨_, rfl, Nat.le_of_ble_eq_true rfl, Nat.le_of_ble_eq_true rfl, Nat.le_of_ble_eq_true rfl, Or.inr ⟨"HiccupTown", (mm_tn1 186 rfl rfl)⟩⟩
set_option maxRecDepth 100000 in
theorem mm_pf119 : mm_pfP (11, 182, 12, 1) := ⟨_, rfl, Nat.le_of_ble_eq_true rfl, Nat.le_of_ble_eq_true rfl, Nat.le_of_ble_eq_true rfl, Or.inr ⟨"HiccupTown", (mm_tn1 189 rfl rfl)⟩⟩
set_option maxRecDepth 100000 in
theorem mm_pf120 : mm_pfP (11, 185, 12, 2) := ⟨_, rfl, Nat.le_of_ble_eq_true rfl, Nat.le_of_ble_eq_true rfl, Nat.le_of_ble_eq_true rfl, Or.inr ⟨"HiccupTown", (mm_tn1 191 rfl rfl)⟩⟩
set_option maxRecDepth 100000 in
theorem mm_pf121 : mm_pfP (11, 188, 12, 3) := ⟨_, rfl, Nat.le_of_ble_eq_true rfl, Nat.le_of_ble_eq_true rfl, Nat.le_of_ble_eq_true rfl, Or.inr ⟨"HiccupTown", (mm_tn1 193 rfl rfl)⟩⟩
set_option maxRecDepth 100000 in
theorem mm_pf122 : mm_pfP (11, 192, 12, 4) := ⟨_, rfl, Nat.le_of_ble_eq_true rfl, Nat.le_of_ble_eq_true rfl, Nat.le_of_ble_eq_true rfl, Or.inr ⟨"HiccupTown", (mm_tn1 195 rfl rfl)⟩⟩
set_option maxRecDepth 100000 in
theorem mm_pf123 : mm_pfP (11, 195, 12, 5) := ⟨_, rfl, Nat.le_of_ble_eq_true rfl, Nat.le_of_ble_eq_true rfl, Nat.le_of_ble_eq_true rfl, Or.inr ⟨"HiccupTown", (mm_tn1 197 rfl rfl)⟩⟩
set_option maxRecDepth 100000 in
theorem mm_pf124 : mm_pfP (11, 240, 14, 0) := ⟨_, rfl, Nat.le_of_ble_eq_true rfl, Nat.le_of_ble_eq_true rfl, Nat.le_of_ble_eq_true rfl, Or.inr ⟨"HiccupTown", (mm_tn1 97 rfl rfl)⟩⟩
set_option maxRecDepth 100000 in
theorem mm_pf125 : mm_pfP (11, 253, 11, 1) := ⟨_, rfl, Nat.le_of_ble_eq_true rfl, Nat.le_of_ble_eq_true rfl, Nat.le_of_ble_eq_true rfl, Or.inr ⟨"HiccupTown", (mm_tn2 56 rfl rfl)⟩⟩
set_option maxRecDepth 100000 in
theorem mm_pf126 : mm_pfP (11, 256, 11, 2) := ⟨_, rfl, Nat.le_of_ble_eq_true rfl, Nat.le_of_ble_eq_true rfl, Nat.le_of_ble_eq_true rfl, Or.inr ⟨"HiccupTown", (mm_tn2 58 rfl rfl)⟩⟩
set_option maxRecDepth 100000 in
theorem mm_pf127 : mm_pfP (11, 259, 11, 3) := ⟨_, rfl, Nat.le_of_ble_eq_true rfl, Nat.le_of_ble_eq_true rfl, Nat.le_of_ble_eq_true rfl, Or.inr ⟨"HiccupTown", (mm_tn2 60 rfl rfl)⟩⟩
set_option maxRecDepth 100000 in
theorem mm_pf128 : mm_pfP (11, 265, 15, 2) := ⟨_, rfl, Nat.le_of_ble_eq_true rfl, Nat.le_of_ble_eq_true rfl, Nat.le_of_ble_eq_true rfl, Or.inr ⟨"HiccupTown", (mm_tn2 83 rfl rfl)⟩⟩
set_option maxRecDepth 100000 in
theorem mm_pf129 : mm_pfP (11, 268, 15, 1) := ⟨_, rfl, Nat.le_of_ble_eq_true rfl, Nat.le_of_ble_eq_true rfl, Nat.le_of_ble_eq_true rfl, Or.inr ⟨"HiccupTown", (mm_tn2 81 rfl rfl)⟩⟩
set_option maxRecDepth 100000 in
theorem mm_pf130 : mm_pfP (11, 283, 20, 12) := ⟨_, rfl, Nat.le_of_ble_eq_true rfl, Nat.le_of_ble_eq_true rfl, Nat.le_of_ble_eq_true rfl, Or.inl (mm_tw2 137 rfl rfl)⟩
set_option maxRecDepth 100000 in
theorem mm_pf131 : mm_pfP (11, 319, 10, 5) := ⟨_, rfl, Nat.le_of_ble_eq_true rfl, Nat.le_of_ble_eq_true rfl, Nat.le_of_ble_eq_true rfl, Or.inr ⟨"HiccupTown", (mm_tn2 103 rfl rfl)⟩⟩
set_option maxRecDepth 100000 in
theorem mm_pf132 : mm_pfP (11, 328, 16, 2) := ⟨_, rfl, Nat.le_of_ble_eq_true rfl, Nat.le_of_ble_eq_true rfl, Nat.le_of_ble_eq_true rfl, Or.inr ⟨"HiccupTown", (mm_tn2 15 rfl rfl)⟩⟩
set_option maxRecDepth 100000 in
theorem mm_pf133 : mm_pfP (11, 334, 17, 4) := ⟨_, rfl, Nat.le_of_ble_eq_true rfl, Nat.le_of_ble_eq_true rfl, Nat.le_of_ble_eq_true rfl, Or.inr ⟨"HiccupTown", (mm_tn1 238 rfl rfl)⟩⟩
set_option maxRecDepth 100000 in
theorem mm_pf134 : mm_pfP (11, 340, 14, 2) := ⟨_, rfl, Nat.le_of_ble_eq_true rfl, Nat.le_of_ble_eq_true rfl, Nat.le_of_ble_eq_true rfl, Or.inr ⟨"HiccupTown", (mm_tn1 106 rfl rfl)⟩⟩
set_option maxRecDepth 100000 in
theorem mm_pf135 : mm_pfP (11, 354, 16, 3) := ⟨_, rfl, Nat.le_of_ble_eq_true rfl, Nat.le_of_ble_eq_true rfl, Nat.le_of_ble_eq_true rfl, Or.inr ⟨"HiccupTown", (mm_tn2 16 rfl rfl)⟩⟩
set_option maxRecDepth 100000 in
theorem mm_pf136 : mm_pfP (11, 357, 18, 8) := ⟨_, rfl, Nat.le_of_ble_eq_true rfl, Nat.le_of_ble_eq_true rfl, Nat.le_of_ble_eq_true rfl, Or.inr ⟨"HiccupTown", (mm_tn1 58 rfl rfl)⟩⟩
set_option maxRecDepth 100000 in
theorem mm_pf137 : mm_pfP (12, 1, 21, 0) := ⟨_, rfl, Nat.le_of_ble_eq_true rfl, Nat.le_of_ble_eq_true rfl, Nat.le_of_ble_eq_true rfl, Or.inl (mm_tw6 102 rfl rfl)⟩
set_option maxRecDepth 100000 in
theorem mm_pf138 : mm_pfP (12, 7, 21, 1) := ⟨_, rfl, Nat.le_of_ble_eq_true rfl, Nat.le_of_ble_eq_true rfl, Nat.le_of_ble_eq_true rfl, Or.inl (mm_tw6 103 rfl rfl)⟩
set_option maxRecDepth 100000 in
theorem mm_pf139 : mm_pfP (12, 11, 21, 2) := ⟨_, rfl, Nat.le_of_ble_eq_true rfl, Nat.le_of_ble_eq_true rfl, Nat.le_of_ble_eq_true rfl, Or.inl (mm_tw6 104 rfl rfl)⟩
set_option maxRecDepth 100000 in
theorem mm_pf140 : mm_pfP (12, 18, 21, 3) := ⟨_, rfl, Nat.le_of_ble_eq_true rfl, Nat.le_of_ble_eq_true rfl, Nat.le_of_ble_eq_true rfl, Or.inl (mm_tw6 105 rfl rfl)⟩
set_option maxRecDepth 100000 in
theorem mm_pf141 : mm_pfP (12, 21, 21, 5) := ⟨_, rfl, Nat.le_of_ble_eq_true rfl, Nat.le_of_ble_eq_true rfl, Nat.le_of_ble_eq_true rfl, Or.inl (mm_tw6 107 rfl rfl)⟩
set_option maxRecDepth 100000 in
theorem mm_pf142 : mm_pfP (12, 24, 21, 6) := ⟨_, rfl, Nat.le_of_ble_eq_true rfl, Nat.le_of_ble_eq_true rfl, Nat.le_of_ble_eq_true rfl, Or.inl (mm_tw6 108 rfl rfl)⟩
set_option maxRecDepth 100000 in
theorem mm_pf143 : mm_pfP (12, 27, 21, 4) := ⟨_, rfl, Nat.le_of_ble_eq_true rfl, Nat.le_of_ble_eq_true rfl, Nat.le_of_ble_eq_true rfl, Or.inl (mm_tw6 106 rfl rfl)⟩
set_option maxRecDepth 100000 in
theorem mm_pf144 : mm_pfP (12, 30, 21, 7) := ⟨_, rfl, Nat.le_of_ble_eq_true rfl, Nat.le_of_ble_eq_true rfl, Nat.le_of_ble_eq_true rfl, Or.inl (mm_tw6 109 rfl rfl)⟩
set_option maxRecDepth 100000 in
theorem mm_pf145 : mm_pfP (12, 40, 21, 9) := ⟨_, rfl, Nat.le_of_ble_eq_true rfl, Nat.le_of_ble_eq_true rfl, Nat.le_of_ble_eq_true rfl, Or.inl (mm_tw6 111 rfl rfl)⟩
set_option maxRecDepth 100000 in
theorem mm_pf146 : mm_pfP (12, 43, 21, 12) := ⟨_, rfl, Nat.le_of_ble_eq_true rfl, Nat.le_of_ble_eq_true rfl, Nat.le_of_ble_eq_true rfl, Or.inl (mm_tw6 114 rfl rfl)⟩
set_option maxRecDepth 100000 in
theorem mm_pf147 : mm_pfP (12, 47, 21, 8) := ⟨_, rfl, Nat.le_of_ble_eq_true rfl, Nat.le_of_ble_eq_true rfl, Nat.le_of_ble_eq_true rfl, Or.inl (mm_tw6 110 rfl rfl)⟩
set_option maxRecDepth 100000 in
theorem mm_pf148 : mm_pfP (12, 66, 21, 10) := ⟨_, rfl, Nat.le_of_ble_eq_true rfl, Nat.le_of_ble_eq_true rfl, Nat.le_of_ble_eq_true rfl, Or.inl (mm_tw6 112 rfl rfl)⟩
set_option maxRecDepth 100000 in
theorem mm_pf149 : mm_pfP (12, 69, 21, 11) := ⟨_, rfl, Nat.le_of_ble_eq_true rfl, Nat.le_of_ble_eq_true rfl, Nat.le_of_ble_eq_true rfl, Or.inl (mm_tw6 113 rfl rfl)⟩
set_option maxRecDepth 100000 in
theorem mm_pf150 : mm_pfP (12, 79, 21, 13) := ⟨_, rfl, Nat.le_of_ble_eq_true rfl, Nat.le_of_ble_eq_true rfl, Nat.le_of_ble_eq_true rfl, Or.inl (mm_tw6 115 rfl rfl)⟩
set_option maxRecDepth 100000 in
theorem mm_pf151 : mm_pfP (12, 98, 21, 14) := ⟨_, rfl, Nat.le_of_ble_eq_true rfl, Nat.le_of_ble_eq_true rfl, Nat.le_of_ble_eq_true rfl, Or.inl (mm_tw6 116 rfl rfl)⟩
set_option maxRecDepth 100000 in
theorem mm_pf152 : mm_pfP (12, 101, 21, 15) := ⟨_, rfl, Nat.le_of_ble_eq_true rfl, Nat.le_of_ble_eq_true rfl, Nat.le_of_ble_eq_true rfl, Or.inl (mm_tw6 117 rfl rfl)⟩
set_option maxRecDepth 100000 in
theorem mm_pf153 : mm_pfP (12, 104, 21, 16) := ⟨_, rfl, Nat.le_of_ble_eq_true rfl, Nat.le_of_ble_eq_true rfl, Nat.le_of_ble_eq_true rfl, Or.inl (mm_tw6 118 rfl rfl)⟩
set_option maxRecDepth 100000 in
theorem mm_pf154 : mm_pfP (12, 107, 21, 17) := ⟨_, rfl, Nat.le_of_ble_eq_true rfl, Nat.le_of_ble_eq_true rfl, Nat.le_of_ble_eq_true rfl, Or.inl (mm_tw6 119 rfl rfl)⟩
set_option maxRecDepth 100000 in
theorem mm_pf155 : mm_pfP (12, 110, 21, 18) := ⟨_, rfl, Nat.le_of_ble_eq_true rfl, Nat.le_of_ble_eq_true rfl, Nat.le_of_ble_eq_true rfl, Or.inl (mm_tw6 120 rfl rfl)⟩
set_option maxRecDepth 100000 in
theorem mm_pf156 : mm_pfP (12, 113, 21, 19) := ⟨_, rfl, Nat.le_of_ble_eq_true rfl, Nat.le_of_ble_eq_true rfl, Nat.le_of_ble_eq_true rfl, Or.inl (mm_tw6 121 rfl rfl)⟩
set_option maxRecDepth 100000 in
theorem mm_pf157 : mm_pfP (12, 117, 21, 20) := ⟨_, rfl, Nat.le_of_ble_eq_true rfl, Nat.le_of_ble_eq_true rfl, Nat.le_of_ble_eq_true rfl, Or.inl (mm_tw6 122 rfl rfl)⟩
set_option maxRecDepth 100000 in
theorem mm_pf158 : mm_pfP (12, 120, 21, 21) := ⟨_, rfl, Nat.le_of_ble_eq_true rfl, Nat.le_of_ble_eq_true rfl, Nat.le_of_ble_eq_true rfl, Or.inl (mm_tw6 123 rfl rfl)⟩
set_option maxRecDepth 100000 in
theorem mm_pf159 : mm_pfP (12, 123, 21, 22) := ⟨_, rfl, Nat.le_of_ble_eq_true rfl, Nat.le_of_ble_eq_true rfl, Nat.le_of_ble_eq_true rfl, Or.inl (mm_tw6 124 rfl rfl)⟩
set_option maxRecDepth 100000 in
theorem mm_pf160 : mm_pfP (12, 127, 21, 23) := ⟨_, rfl, Nat.le_of_ble_eq_true rfl, Nat.le_of_ble_eq_true rfl, Nat.le_of_ble_eq_true rfl, Or.inl (mm_tw6 125 rfl rfl)⟩
set_option maxRecDepth 100000 in
theorem mm_pf161 : mm_pfP (12, 130, 21, 26) := ⟨_, rfl, Nat.le_of_ble_eq_true rfl, Nat.le_of_ble_eq_true rfl, Nat.le_of_ble_eq_true rfl, Or.inl (mm_tw6 128 rfl rfl)⟩
set_option maxRecDepth 100000 in
theorem mm_pf162 : mm_pfP (12, 133, 21, 27) := ⟨_, rfl, Nat.le_of_ble_eq_true rfl, Nat.le_of_ble_eq_true rfl, Nat.le_of_ble_eq_true rfl, Or.inl (mm_tw6 129 rfl rfl)⟩
set_option maxRecDepth 100000 in
theorem mm_pf163 : mm_pfP (12, 136, 21, 28) := ⟨_, rfl, Nat.le_of_ble_eq_true rfl, Nat.le_of_ble_eq_true rfl, Nat.le_of_ble_eq_true rfl, Or.inl (mm_tw6 130 rfl rfl)⟩
set_option maxRecDepth 100000 in
theorem mm_pf164 : mm_pfP (12, 139, 21, 29) := ⟨_, rfl, Nat.le_of_ble_eq_true rfl, Nat.le_of_ble_eq_true rfl, Nat.le_of_ble_eq_true rfl, Or.inl (mm_tw6 131 rfl rfl)⟩
set_option maxRecDepth 100000 in
theorem mm_pf165 : mm_pfP (12, 142, 21, 30) := ⟨_, rfl, Nat.le_of_ble_eq_true rfl, Nat.le_of_ble_eq_true rfl, Nat.le_of_ble_eq_true rfl, Or.inl (mm_tw6 132 rfl rfl)⟩
set_option maxRecDepth 100000 in
theorem mm_pf166 : mm_pfP (12, 145, 21, 31) := ⟨_, rfl, Nat.le_of_ble_eq_true rfl, Nat.le_of_ble_eq_true rfl, Nat.le_of_ble_eq_true rfl, Or.inl (mm_tw6 133 rfl rfl)⟩
set_option maxRecDepth 100000 in
theorem mm_pf167 : mm_pfP (12, 148, 21, 32) := ⟨_, rfl, Nat.le_of_ble_eq_true rfl, Nat.le_of_ble_eq_true rfl, Nat.le_of_ble_eq_true rfl, Or.inl (mm_tw6 134 rfl rfl)⟩
set_option maxRecDepth 100000 in
theorem mm_pf168 : mm_pfP (12, 151, 21, 34) := ⟨_, rfl, Nat.le_of_ble_eq_true rfl, Nat.le_of_ble_eq_true rfl, Nat.le_of_ble_eq_true rfl, Or.inl (mm_tw6 136 rfl rfl)⟩
set_option maxRecDepth 100000 in
theorem mm_pf169 : mm_pfP (12, 154, 21, 35) := ⟨_, rfl, Nat.le_of_ble_eq_true rfl, Nat.le_of_ble_eq_true rfl, Nat.le_of_ble_eq_true rfl, Or.inl (mm_tw6 137 rfl rfl)⟩
set_option maxRecDepth 100000 in
theorem mm_pf170 : mm_pfP (12, 157, 21, 38) := ⟨_, rfl, Nat.le_of_ble_eq_true rfl, Nat.le_of_ble_eq_true rfl, Nat.le_of_ble_eq_true rfl, Or.inl (mm_tw6 140 rfl rfl)⟩
set_option maxRecDepth 100000 in
theorem mm_pf171 : mm_pfP (12, 160, 21, 39) := ⟨_, rfl, Nat.le_of_ble_eq_true rfl, Nat.le_of_ble_eq_true rfl, Nat.le_of_ble_eq_true rfl, Or.inl (mm_tw6 141 rfl rfl)⟩
set_option maxRecDepth 100000 in
theorem mm_pf172 : mm_pfP (12, 163, 21, 42) := ⟨_, rfl, Nat.le_of_ble_eq_true rfl, Nat.le_of_ble_eq_true rfl, Nat.le_of_ble_eq_true rfl, Or.inl (mm_tw6 144 rfl rfl)⟩
set_option maxRecDepth 100000 in
theorem mm_pf173 : mm_pfP (12, 172, 21, 25) := ⟨_, rfl, Nat.le_of_ble_eq_true rfl, Nat.le_of_ble_eq_true rfl, Nat.le_of_ble_eq_true rfl, Or.inl (mm_tw6 127 rfl rfl)⟩
set_option maxRecDepth 100000 in
theorem mm_pf174 : mm_pfP (12, 243, 21, 24) := ⟨_, rfl, Nat.le_of_ble_eq_true rfl, Nat.le_of_ble_eq_true rfl, Nat.le_of_ble_eq_true rfl, Or.inl (mm_tw6 126 rfl rfl)⟩
set_option maxRecDepth 100000 in
theorem mm_pf175 : mm_pfP (12, 334, 21, 33) := ⟨_, rfl, Nat.le_of_ble_eq_true rfl, Nat.le_of_ble_eq_true rfl, Nat.le_of_ble_eq_true rfl, Or.inl (mm_tw6 135 rfl rfl)⟩
set_option maxRecDepth 100000 in
theorem mm_pf176 : mm_pfP (12, 345, 21, 36) := ⟨_, rfl, Nat.le_of_ble_eq_true rfl, Nat.le_of_ble_eq_true rfl, Nat.le_of_ble_eq_true rfl, Or.inl (mm_tw6 138 rfl rfl)⟩
set_option maxRecDepth 100000 in
theorem mm_pf177 : mm_pfP (12, 361, 21, 37) := ⟨_, rfl, Nat.le_of_ble_eq_true rfl, Nat.le_of_ble_eq_true rfl, Nat.le_of_ble_eq_true rfl, Or.inl (mm_tw6 139 rfl rfl)⟩
set_option maxRecDepth 100000 in
theorem mm_pf178 : mm_pfP (12, 377, 21, 40) := ⟨_, rfl, Nat.le_of_ble_eq_true rfl, Nat.le_of_ble_eq_true rfl, Nat.le_of_ble_eq_true rfl, Or.inl (mm_tw6 142 rfl rfl)⟩
set_option maxRecDepth 100000 in
theorem mm_pf179 : mm_pfP (12, 395, 21, 41) := ⟨_, rfl, Nat.le_of_ble_eq_true rfl, Nat.le_of_ble_eq_true rfl, Nat.le_of_ble_eq_true rfl, Or.inl (mm_tw6 143 rfl rfl)⟩
set_option maxRecDepth 100000 in
theorem mm_pf180 : mm_pfP (12, 402, 21, 43) := ⟨_, rfl, Nat.le_of_ble_eq_true rfl, Nat.le_of_ble_eq_true rfl, Nat.le_of_ble_eq_true rfl, Or.inl (mm_tw6 145 rfl rfl)⟩
set_option maxRecDepth 100000 in
theorem mm_pf181 : mm_pfP (12, 408, 21, 46) := ⟨_, rfl, Nat.le_of_ble_eq_true rfl, Nat.le_of_ble_eq_true rfl, Nat.le_of_ble_eq_true rfl, Or.inl (mm_tw6 148 rfl rfl)⟩
set_option maxRecDepth 100000 in
theorem mm_pf182 : mm_pfP (12, 418, 21, 44) := ⟨_, rfl, Nat.le_of_ble_eq_true rfl, Nat.le_of_ble_eq_true rfl, Nat.le_of_ble_eq_true rfl, Or.inl (mm_tw6 146 rfl rfl)⟩
set_option maxRecDepth 100000 in
theorem mm_pf183 : mm_pfP (12, 421, 21, 45) := ⟨_, rfl, Nat.le_of_ble_eq_true rfl, Nat.le_of_ble_eq_true rfl, Nat.le_of_ble_eq_true rfl, Or.inl (mm_tw6 147 rfl rfl)⟩
set_option maxRecDepth 100000 in
theorem mm_pf_ok : ∀ z ∈ mm_pf, mm_pfP z := (List.forall_mem_cons.mpr ⟨mm_pf0, (List.forall_mem_cons.mpr ⟨mm_pf1, (List.forall_mem_cons.mpr ⟨mm_pf2, (List.forall_mem_cons.mpr ⟨mm_pf3, (List.forall_mem_cons.mpr ⟨mm_pf4, (List.forall_mem_cons.mpr ⟨mm_pf5, (List.forall_mem_cons.mpr ⟨mm_pf6, (List.forall_mem_cons.mpr ⟨mm_pf7, (List.forall_mem_cons.mpr ⟨mm_pf8, (List.forall_mem_cons.mpr ⟨mm_pf9, (List.forall_mem_cons.mpr ⟨mm_pf10, (List.forall_mem_cons.mpr ⟨mm_pf11, (List.forall_mem_cons.mpr ⟨mm_pf12, (List.forall_mem_cons.mpr ⟨mm_pf13, (List.forall_mem_cons.mpr ⟨mm_pf14, (List.forall_mem_cons.mpr ⟨mm_pf15, (List.forall_mem_cons.mpr ⟨mm_pf16, (List.forall_mem_cons.mpr ⟨mm_pf17, (List.forall_mem_cons.mpr ⟨mm_pf18, (List.forall_mem_cons.mpr ⟨mm_pf19, (List.forall_mem_cons.mpr ⟨mm_pf20, (List.forall_mem_cons.mpr ⟨mm_pf21, (List.forall_mem_cons.mpr ⟨mm_pf22, (List.forall_mem_cons.mpr ⟨mm_pf23, (List.forall_mem_cons.mpr ⟨mm_pf24, (List.forall_mem_cons.mpr ⟨mm_pf25, (List.forall_mem_cons.mpr ⟨mm_pf26, (List.forall_mem_cons.mpr ⟨mm_pf27, (List.forall_mem_cons.mpr ⟨mm_pf28, (List.forall_mem_cons.mpr ⟨mm_pf29, (List.forall_mem_cons.mpr ⟨mm_pf30, (List.forall_mem_cons.mpr ⟨mm_pf31, (List.forall_mem_cons.mpr ⟨mm_pf32, (List.forall_mem_cons.mpr ⟨mm_pf33, (List.forall_mem_cons.mpr ⟨mm_pf34, (List.forall_mem_cons.mpr ⟨mm_pf35, (List.forall_mem_cons.mpr ⟨mm_pf36, (List.forall_mem_cons.mpr ⟨mm_pf37, (List.forall_mem_cons.mpr ⟨mm_pf38, (List.forall_mem_cons.mpr ⟨mm_pf39, (List.forall_mem_cons.mpr ⟨mm_pf40, (List.forall_mem_cons.mpr ⟨mm_pf41, (List.forall_mem_cons.mpr ⟨mm_pf42, (List.forall_mem_cons.mpr ⟨mm_pf43, (List.forall_mem_cons.mpr ⟨mm_pf44, (List.forall_mem_cons.mpr ⟨mm_pf45, (List.forall_mem_cons.mpr ⟨mm_pf46, (List.forall_mem_cons.mpr ⟨mm_pf47, (List.forall_mem_cons.mpr ⟨mm_pf48, (List.forall_mem_cons.mpr ⟨mm_pf49, (List.forall_mem_cons.mpr ⟨mm_pf50, (List.forall_mem_cons.mpr ⟨mm_pf51, (List.forall_mem_cons.mpr ⟨mm_pf52, (List.forall_mem_cons.mpr ⟨mm_pf53, (List.forall_mem_cons.mpr ⟨mm_pf54, (List.forall_mem_cons.mpr ⟨mm_pf55, (List.forall_mem_cons.mpr ⟨mm_pf56, (List.forall_mem_cons.mpr ⟨mm_pf57, (List.forall_mem_cons.mpr ⟨mm_pf58, (List.forall_mem_cons.mpr ⟨mm_pf59, (List.forall_mem_cons.mpr ⟨mm_pf60, (List.forall_mem_cons.mpr ⟨mm_pf61, (List.forall_mem_cons.mpr ⟨mm_pf62, (List.forall_mem_cons.mpr ⟨mm_pf63, (List.forall_mem_cons.mpr ⟨mm_pf64, (List.forall_mem_cons.mpr ⟨mm_pf65, (List.forall_mem_cons.mpr ⟨mm_pf66, (List.forall_mem_cons.mpr ⟨mm_pf67, (List.forall_mem_cons.mpr ⟨mm_pf68, (List.forall_mem_cons.mpr ⟨mm_pf69, (List.forall_mem_cons.mpr ⟨mm_pf70, (List.forall_mem_cons.mpr ⟨mm_pf71, (List.forall_mem_cons.mpr ⟨mm_pf72, (List.forall_mem_cons.mpr ⟨mm_pf73, (List.forall_mem_cons.mpr ⟨mm_pf74, (List.forall_mem_cons.mpr ⟨mm_pf75, (List.forall_mem_cons.mpr ⟨mm_pf76, (List.forall_mem_cons.mpr ⟨mm_pf77, (List.forall_mem_cons.mpr ⟨mm_pf78, (List.forall_mem_cons.mpr ⟨mm_pf79, (List.forall_mem_cons.mpr ⟨mm_pf80, (List.forall_mem_cons.mpr ⟨mm_pf81, (List.forall_mem_cons.mpr ⟨mm_pf82, (List.forall_mem_cons.mpr ⟨mm_pf83, (List.forall_mem_cons.mpr ⟨mm_pf84, (List.forall_mem_cons.mpr ⟨mm_pf85, (List.forall_mem_cons.mpr ⟨mm_pf86, (List.forall_mem_cons.mpr ⟨mm_pf87, (List.forall_mem_cons.mpr ⟨mm_pf88, (List.forall_mem_cons.mpr ⟨mm_pf89, (List.forall_mem_cons.mpr ⟨mm_pf90, (List.forall_mem_cons.mpr ⟨mm_pf91, (List.forall_mem_cons.mpr ⟨mm_pf92, (List.forall_mem_cons.mpr ⟨mm_pf93, (List.forall_mem_cons.mpr ⟨mm_pf94, (List.forall_mem_cons.mpr ⟨mm_pf95, (List.forall_mem_cons.mpr ⟨mm_pf96, (List.forall_mem_cons.mpr ⟨mm_pf97, (List.forall_mem_cons.mpr ⟨mm_pf98, (List.forall_mem_cons.mpr ⟨mm_pf99, (List.forall_mem_cons.mpr ⟨mm_pf100, (List.forall_mem_cons.mpr ⟨mm_pf101, (List.forall_mem_cons.mpr ⟨mm_pf102, (List.forall_mem_cons.mpr ⟨mm_pf103, (List.forall_mem_cons.mpr ⟨mm_pf104, (List.forall_mem_cons.mpr ⟨mm_pf105, (List.forall_mem_cons.mpr ⟨mm_pf106, (List.forall_mem_cons.mpr ⟨mm_pf107, (List.forall_mem_cons.mpr ⟨mm_pf108, (List.forall_mem_cons.mpr ⟨mm_pf109, (List.forall_mem_cons.mpr ⟨mm_pf110, (List.forall_mem_cons.mpr ⟨mm_pf111, (List.forall_mem_cons.mpr ⟨mm_pf112, (List.forall_mem_cons.mpr ⟨mm_pf113, (List.forall_mem_cons.mpr ⟨mm_pf114, (List.forall_mem_cons.mpr ⟨mm_pf115, (List.forall_mem_cons.mpr ⟨mm_pf116, (List.forall_mem_cons.mpr ⟨mm_pf117, (List.forall_mem_cons.mpr ⟨mm_pf118, (List.forall_mem_cons.mpr ⟨mm_pf119, (List.forall_mem_cons.mpr ⟨mm_pf120, (List.forall_mem_cons.mpr ⟨mm_pf121, (List.forall_mem_cons.mpr ⟨mm_pf122, (List.forall_mem_cons.mpr ⟨mm_pf123, (List.forall_mem_cons.mpr ⟨mm_pf124, (List.forall_mem_cons.mpr ⟨mm_pf125, (List.forall_mem_cons.mpr ⟨mm_pf126, (List.forall_mem_cons.mpr ⟨mm_pf127, (List.forall_mem_cons.mpr ⟨mm_pf128, (List.forall_mem_cons.mpr ⟨mm_pf129, (List.forall_mem_cons.mpr ⟨mm_pf130, (List.forall_mem_cons.mpr ⟨mm_pf131, (List.forall_mem_cons.mpr ⟨mm_pf132, (List.forall_mem_cons.mpr ⟨mm_pf133, (List.forall_mem_cons.mpr ⟨mm_pf134, (List.forall_mem_cons.mpr ⟨mm_pf135, (List.forall_mem_cons.mpr ⟨mm_pf136, (List.forall_mem_cons.mpr ⟨mm_pf137, (List.forall_mem_cons.mpr ⟨mm_pf138, (List.forall_mem_cons.mpr ⟨mm_pf139, (List.forall_mem_cons.mpr ⟨mm_pf140, (List.forall_mem_cons.mpr ⟨mm_pf141, (List.forall_mem_cons.mpr ⟨mm_pf142, (List.forall_mem_cons.mpr ⟨mm_pf143, (List.forall_mem_cons.mpr ⟨mm_pf144, (List.forall_mem_cons.mpr ⟨mm_pf145, (List.forall_mem_cons.mpr ⟨mm_pf146, (List.forall_mem_cons.mpr ⟨mm_pf147, (List.forall_mem_cons.mpr ⟨mm_pf148, (List.forall_mem_cons.mpr ⟨mm_pf149, (List.forall_mem_cons.mpr ⟨mm_pf150, (List.forall_mem_cons.mpr ⟨mm_pf151, (List.forall_mem_cons.mpr ⟨mm_pf152, (List.forall_mem_cons.mpr ⟨mm_pf153, (List.forall_mem_cons.mpr ⟨mm_pf154, (List.forall_mem_cons.mpr ⟨mm_pf155, (List.forall_mem_cons.mpr ⟨mm_pf156, (List.forall_mem_cons.mpr ⟨mm_pf157, (List.forall_mem_cons.mpr ⟨mm_pf158, (List.forall_mem_cons.mpr ⟨mm_pf159, (List.forall_mem_cons.mpr ⟨mm_pf160, (List.forall_mem_cons.mpr ⟨mm_pf161, (List.forall_mem_cons.mpr ⟨mm_pf162, (List.forall_mem_cons.mpr ⟨mm_pf163, (List.forall_mem_cons.mpr ⟨mm_pf164, (List.forall_mem_cons.mpr ⟨mm_pf165, (List.forall_mem_cons.mpr ⟨mm_pf166, (List.forall_mem_cons.mpr ⟨mm_pf167, (List.forall_mem_cons.mpr ⟨mm_pf168, (List.forall_mem_cons.mpr ⟨mm_pf169, (List.forall_mem_cons.mpr ⟨mm_pf170, (List.forall_mem_cons.mpr ⟨mm_pf171, (List.forall_mem_cons.mpr ⟨mm_pf172, (List.forall_mem_cons.mpr ⟨mm_pf173, (List.forall_mem_cons.mpr ⟨mm_pf174, (List.forall_mem_cons.mpr ⟨mm_pf175, (List.forall_mem_cons.mpr ⟨mm_pf176, (List.forall_mem_cons.mpr ⟨mm_pf177, (List.forall_mem_cons.mpr ⟨mm_pf178, (List.forall_mem_cons.mpr ⟨mm_pf179, (List.forall_mem_cons.mpr ⟨mm_pf180, (List.forall_mem_cons.mpr ⟨mm_pf181, (List.forall_mem_cons.mpr ⟨mm_pf182, (List.forall_mem_cons.mpr ⟨mm_pf183, (fun _ h => absurd h List.not_mem_nil)⟩)⟩)⟩)⟩)⟩)⟩)⟩)⟩)⟩)⟩)⟩)⟩)⟩)⟩)⟩)⟩)⟩)⟩)⟩)⟩)⟩)⟩)⟩)⟩)⟩)⟩)⟩)⟩)⟩)⟩)⟩)⟩)⟩)⟩)⟩)⟩)⟩)⟩)⟩)⟩)⟩)⟩)⟩)⟩)⟩)⟩)⟩)⟩)⟩)⟩)⟩)⟩)⟩)⟩)⟩)⟩)⟩)⟩)⟩)⟩)⟩)⟩)⟩)⟩)⟩)⟩)⟩)⟩)⟩)⟩)⟩)⟩)⟩)⟩)⟩)⟩)⟩)⟩)⟩)⟩)⟩)⟩)⟩)⟩)⟩)⟩)⟩)⟩)⟩)⟩)⟩)⟩)⟩)⟩)⟩)⟩)⟩)⟩)⟩)⟩)⟩)⟩)⟩)⟩)⟩)⟩)⟩)⟩)⟩)⟩)⟩)⟩)⟩)⟩)⟩)⟩)⟩)⟩)⟩)⟩)⟩)⟩)⟩)⟩)⟩)⟩)⟩)⟩)⟩)⟩)⟩)⟩)⟩)⟩)⟩)⟩)⟩)⟩)⟩)⟩)⟩)⟩)⟩)⟩)⟩)⟩)⟩)⟩)⟩)⟩)⟩)⟩)⟩)⟩)⟩)⟩)⟩)⟩)⟩)⟩)⟩)⟩)⟩)⟩)⟩)⟩)⟩)⟩)⟩)⟩)⟩)⟩)⟩)⟩)⟩)⟩)⟩)⟩)⟩)⟩)⟩)⟩)⟩)⟩)
def mm_pmP (z : Nat × Nat × Nat × Nat) : Prop := z.2.2.1 < 286 ∧ (z.2.2.2 < 2 → Cond.methodLink (mm_xn z.1) z.2.1 (mm_y z.2.2.1) ∈ mm_TW) ∧ (z.2.2.2 = 2 → ∃ host, Cond.methodLinkNest (mm_xn z.1) z.2.1 (mm_y z.2.2.1) host ∈ mm_NW) ∧ (z.2.2.2 = 0 → mm_sq z.2.2.1 = 0) ∧ (¬ z.2.2.2 = 0 → mm_sq z.2.2.1 = 1)
set_option maxRecDepth 100000 in
theorem mm_pm0 : mm_pmP (0, 33, 1, 0) := ⟨Nat.le_of_ble_eq_true rfl, fun _ => (mm_tw5 55 rfl rfl), fun h => absurd h (by decide), fun _ => rfl, fun h => absurd rfl h⟩
set_option maxRecDepth 100000 in
theorem mm_pm1 : mm_pmP (0, 40, 91, 0) := ⟨Nat.le_of_ble_eq_true rfl, fun _ => (mm_tw5 96 rfl rfl), fun h => absurd h (by decide), fun _ => rfl, fun h => absurd rfl h⟩
set_option maxRecDepth 100000 in
theorem mm_pm2 : mm_pmP (0, 51, 58, 0) := ⟨Nat.le_of_ble_eq_true rfl, fun _ => (mm_tw5 60 rfl rfl), fun h => absurd h (by decide), fun _ => rfl, fun h => absurd rfl h⟩
set_option maxRecDepth 100000 in
theorem mm_pm3 : mm_pmP (0, 57, 90, 0) := ⟨Nat.le_of_ble_eq_true rfl, fun _ => (mm_tw5 61 rfl rfl), fun h => absurd h (by decide), fun _ => rfl, fun h => absurd rfl h⟩
set_option maxRecDepth 100000 in
theorem mm_pm4 : mm_pmP (0, 61, 2, 1) := ⟨Nat.le_of_ble_eq_true rfl, fun _ => (mm_tw5 62 rfl rfl), fun h => absurd h (by decide), fun h => absurd h (by decide), fun _ => rfl⟩
set_option maxRecDepth 100000 in
theorem mm_pm5 : mm_pmP (0, 64, 84, 0) := ⟨Nat.le_of_ble_eq_true rfl, fun _ => (mm_tw5 75 rfl rfl), fun h => absurd h (by decide), fun _ => rfl, fun h => absurd rfl h⟩
set_option maxRecDepth 100000 in
theorem mm_pm6 : mm_pmP (0, 70, 4, 0) := ⟨Nat.le_of_ble_eq_true rfl, fun _ => (mm_tw5 76 rfl rfl), fun h => absurd h (by decide), fun _ => rfl, fun h => absurd rfl h⟩
set_option maxRecDepth 100000 in
theorem mm_pm7 : mm_pmP (0, 76, 92, 0) := ⟨Nat.le_of_ble_eq_true rfl, fun _ => (mm_tw5 87 rfl rfl), fun h => absurd h (by decide), fun _ => rfl, fun h => absurd rfl h⟩
set_option maxRecDepth 100000 in
theorem mm_pm8 : mm_pmP (0, 80, 6, 0) := ⟨Nat.le_of_ble_eq_true rfl, fun _ => (mm_tw5 82 rfl rfl), fun h => absurd h (by decide), fun _ => rfl, fun h => absurd rfl h⟩
set_option maxRecDepth 100000 in
theorem mm_pm9 : mm_pmP (0, 84, 5, 0) := ⟨Nat.le_of_ble_eq_true rfl, fun _ => (mm_tw5 88 rfl rfl), fun h => absurd h (by decide), fun _ => rfl, fun h => absurd rfl h⟩
set_option maxRecDepth 100000 in
theorem mm_pm10 : mm_pmP (0, 88, 3, 1) := ⟨Nat.le_of_ble_eq_true rfl, fun _ => (mm_tw5 97 rfl rfl), fun h => absurd h (by decide), fun h => absurd h (by decide), fun _ => rfl⟩
set_option maxRecDepth 100000 in
theorem mm_pm11 : mm_pmP (0, 104, 93, 0) := ⟨Nat.le_of_ble_eq_true rfl, fun _ => (mm_tw5 86 rfl rfl), fun h => absurd h (by decide), fun _ => rfl, fun h => absurd rfl h⟩
set_option maxRecDepth 100000 in
theorem mm_pm12 : mm_pmP (0, 124, 26, 0) := ⟨Nat.le_of_ble_eq_true rfl, fun _ => (mm_tw5 105 rfl rfl), fun h => absurd h (by decide), fun _ => rfl, fun h => absurd rfl h⟩
set_option maxRecDepth 100000 in
theorem mm_pm13 : mm_pmP (0, 136, 20, 0) := ⟨Nat.le_of_ble_eq_true rfl, fun _ => (mm_tw5 106 rfl rfl), fun h => absurd h (by decide), fun _ => rfl, fun h => absurd rfl h⟩
set_option maxRecDepth 100000 in
theorem mm_pm14 : mm_pmP (1, 25, 10, 1) := ⟨Nat.le_of_ble_eq_true rfl, fun _ => (mm_tw4 71 rfl rfl), fun h => absurd h (by decide), fun h => absurd h (by decide), fun _ => rfl⟩
set_option maxRecDepth 100000 in
theorem mm_pm15 : mm_pmP (1, 29, 11, 1) := ⟨Nat.le_of_ble_eq_true rfl, fun _ => (mm_tw4 79 rfl rfl), fun h => absurd h (by decide), fun h => absurd h (by decide), fun _ => rfl⟩
set_option maxRecDepth 100000 in
theorem mm_pm16 : mm_pmP (1, 33, 12, 0) := ⟨Nat.le_of_ble_eq_true rfl, fun _ => (mm_tw4 83 rfl rfl), fun h => absurd h (by decide), fun _ => rfl, fun h => absurd rfl h⟩
set_option maxRecDepth 100000 in
theorem mm_pm17 : mm_pmP (1, 36, 13, 0) := ⟨Nat.le_of_ble_eq_true rfl, fun _ => (mm_tw4 87 rfl rfl), fun h => absurd h (by decide), fun _ => rfl, fun h => absurd rfl h⟩
set_option maxRecDepth 100000 in
theorem mm_pm18 : mm_pmP (1, 45, 82, 0) := ⟨Nat.le_of_ble_eq_true rfl, fun _ => (mm_tw4 74 rfl rfl), fun h => absurd h (by decide), fun _ => rfl, fun h => absurd rfl h⟩
set_option maxRecDepth 100000 in
theorem mm_pm19 : mm_pmP (1, 49, 51, 0) := ⟨Nat.le_of_ble_eq_true rfl, fun _ => (mm_tw4 78 rfl rfl), fun h => absurd h (by decide), fun _ => rfl, fun h => absurd rfl h⟩
set_option maxRecDepth 100000 in
theorem mm_pm20 : mm_pmP (1, 59, 153, 2) := ⟨Nat.le_of_ble_eq_true rfl, fun h => absurd h (by decide), fun _ => ⟨"HiccupTown", (mm_tn4 82 rfl rfl)⟩, fun h => absurd h (by decide), fun _ => rfl⟩
set_option maxRecDepth 100000 in
theorem mm_pm21 : mm_pmP (1, 66, 14, 0) := ⟨Nat.le_of_ble_eq_true rfl, fun _ => (mm_tw4 91 rfl rfl), fun h => absurd h (by decide), fun _ => rfl, fun h => absurd rfl h⟩
set_option maxRecDepth 100000 in
theorem mm_pm22 : mm_pmP (2, 33, 55, 0) := ⟨Nat.le_of_ble_eq_true rfl, fun _ => (mm_tw3 102 rfl rfl), fun h => absurd h (by decide), fun _ => rfl, fun h => absurd rfl h⟩
set_option maxRecDepth 100000 in
theorem mm_pm23 : mm_pmP (2, 65, 20, 0) := ⟨Nat.le_of_ble_eq_true rfl, fun _ => (mm_tw3 142 rfl rfl), fun h => absurd h (by decide), fun _ => rfl, fun h => absurd rfl h⟩
set_option maxRecDepth 100000 in
theorem mm_pm24 : mm_pmP (2, 72, 18, 0) := ⟨Nat.le_of_ble_eq_true rfl, fun _ => (mm_tw3 134 rfl rfl), fun h => absurd h (by decide), fun _ => rfl, fun h => absurd rfl h⟩
set_option maxRecDepth 100000 in
theorem mm_pm25 : mm_pmP (2, 76, 21, 0) := ⟨Nat.le_of_ble_eq_true rfl, fun _ => (mm_tw3 138 rfl rfl), fun h => absurd h (by decide), fun _ => rfl, fun h => absurd rfl h⟩
set_option maxRecDepth 100000 in
theorem mm_pm26 : mm_pmP (2, 79, 152, 2) := ⟨Nat.le_of_ble_eq_true rfl, fun h => absurd h (by decide), fun _ => ⟨"HiccupTown", (mm_tn3 146 rfl rfl)⟩, fun h => absurd h (by decide), fun _ => rfl⟩
set_option maxRecDepth 100000 in
theorem mm_pm27 : mm_pmP (2, 83, 17, 0) := ⟨Nat.le_of_ble_eq_true rfl, fun _ => (mm_tw3 198 rfl rfl), fun h => absurd h (by decide), fun _ => rfl, fun h => absurd rfl h⟩
set_option maxRecDepth 100000 in
theorem mm_pm28 : mm_pmP (2, 92, 60, 0) := ⟨Nat.le_of_ble_eq_true rfl, fun _ => (mm_tw3 226 rfl rfl), fun h => absurd h (by decide), fun _ => rfl, fun h => absurd rfl h⟩
set_option maxRecDepth 100000 in
theorem mm_pm29 : mm_pmP (2, 96, 27, 0) := ⟨Nat.le_of_ble_eq_true rfl, fun _ => (mm_tw3 175 rfl rfl), fun h => absurd h (by decide), fun _ => rfl, fun h => absurd rfl h⟩
set_option maxRecDepth 100000 in
theorem mm_pm30 : mm_pmP (2, 99, 28, 0) := ⟨Nat.le_of_ble_eq_true rfl, fun _ => (mm_tw3 182 rfl rfl), fun h => absurd h (by decide), fun _ => rfl, fun h => absurd rfl h⟩
set_option maxRecDepth 100000 in
theorem mm_pm31 : mm_pmP (2, 103, 29, 0) := ⟨Nat.le_of_ble_eq_true rfl, fun _ => (mm_tw3 186 rfl rfl), fun h => absurd h (by decide), fun _ => rfl, fun h => absurd rfl h⟩
set_option maxRecDepth 100000 in
theorem mm_pm32 : mm_pmP (2, 106, 30, 0) := ⟨Nat.le_of_ble_eq_true rfl, fun _ => (mm_tw3 190 rfl rfl), fun h => absurd h (by decide), fun _ => rfl, fun h => absurd rfl h⟩
set_option maxRecDepth 100000 in
theorem mm_pm33 : mm_pmP (2, 110, 31, 0) := ⟨Nat.le_of_ble_eq_true rfl, fun _ => (mm_tw3 194 rfl rfl), fun h => absurd h (by decide), fun _ => rfl, fun h => absurd rfl h⟩
set_option maxRecDepth 100000 in
theorem mm_pm34 : mm_pmP (2, 113, 32, 0) := ⟨Nat.le_of_ble_eq_true rfl, fun _ => (mm_tw3 202 rfl rfl), fun h => absurd h (by decide), fun _ => rfl, fun h => absurd rfl h⟩
set_option maxRecDepth 100000 in
theorem mm_pm35 : mm_pmP (2, 116, 33, 0) := ⟨Nat.le_of_ble_eq_true rfl, fun _ => (mm_tw3 210 rfl rfl), fun h => absurd h (by decide), fun _ => rfl, fun h => absurd rfl h⟩
set_option maxRecDepth 100000 in
theorem mm_pm36 : mm_pmP (2, 124, 25, 0) := ⟨Nat.le_of_ble_eq_true rfl, fun _ => (mm_tw3 206 rfl rfl), fun h => absurd h (by decide), fun _ => rfl, fun h => absurd rfl h⟩
set_option maxRecDepth 100000 in
theorem mm_pm37 : mm_pmP (2, 128, 19, 0) := ⟨Nat.le_of_ble_eq_true rfl, fun _ => (mm_tw3 214 rfl rfl), fun h => absurd h (by decide), fun _ => rfl, fun h => absurd rfl h⟩
set_option maxRecDepth 100000 in
theorem mm_pm38 : mm_pmP (2, 131, 34, 0) := ⟨Nat.le_of_ble_eq_true rfl, fun _ => (mm_tw3 218 rfl rfl), fun h => absurd h (by decide), fun _ => rfl, fun h => absurd rfl h⟩
set_option maxRecDepth 100000 in
theorem mm_pm39 : mm_pmP (2, 135, 35, 0) := ⟨Nat.le_of_ble_eq_true rfl, fun _ => (mm_tw3 222 rfl rfl), fun h => absurd h (by decide), fun _ => rfl, fun h => absurd rfl h⟩
set_option maxRecDepth 100000 in
theorem mm_pm40 : mm_pmP (2, 138, 39, 0) := ⟨Nat.le_of_ble_eq_true rfl, fun _ => (mm_tw5 26 rfl rfl), fun h => absurd h (by decide), fun _ => rfl, fun h => absurd rfl h⟩
set_option maxRecDepth 100000 in
theorem mm_pm41 : mm_pmP (2, 141, 41, 1) := ⟨Nat.le_of_ble_eq_true rfl, fun _ => (mm_tw5 30 rfl rfl), fun h => absurd h (by decide), fun h => absurd h (by decide), fun _ => rfl⟩
set_option maxRecDepth 100000 in
theorem mm_pm42 : mm_pmP (2, 144, 42, 1) := ⟨Nat.le_of_ble_eq_true rfl, fun _ => (mm_tw5 34 rfl rfl), fun h => absurd h (by decide), fun h => absurd h (by decide), fun _ => rfl⟩
set_option maxRecDepth 100000 in
theorem mm_pm43 : mm_pmP (2, 147, 40, 0) := ⟨Nat.le_of_ble_eq_true rfl, fun _ => (mm_tw5 38 rfl rfl), fun h => absurd h (by decide), fun _ => rfl, fun h => absurd rfl h⟩
set_option maxRecDepth 100000 in
theorem mm_pm44 : mm_pmP (2, 152, 153, 2) := ⟨Nat.le_of_ble_eq_true rfl, fun h => absurd h (by decide), fun _ => ⟨"HiccupTown", (mm_tn5 37 rfl rfl)⟩, fun h => absurd h (by decide), fun _ => rfl⟩
set_option maxRecDepth 100000 in
theorem mm_pm45 : mm_pmP (2, 155, 44, 0) := ⟨Nat.le_of_ble_eq_true rfl, fun _ => (mm_tw4 161 rfl rfl), fun h => absurd h (by decide), fun _ => rfl, fun h => absurd rfl h⟩
set_option maxRecDepth 100000 in
theorem mm_pm46 : mm_pmP (2, 159, 45, 0) := ⟨Nat.le_of_ble_eq_true rfl, fun _ => (mm_tw4 165 rfl rfl), fun h => absurd h (by decide), fun _ => rfl, fun h => absurd rfl h⟩
set_option maxRecDepth 100000 in
theorem mm_pm47 : mm_pmP (2, 163, 24, 0) := ⟨Nat.le_of_ble_eq_true rfl, fun _ => (mm_tw4 169 rfl rfl), fun h => absurd h (by decide), fun _ => rfl, fun h => absurd rfl h⟩
set_option maxRecDepth 100000 in
theorem mm_pm48 : mm_pmP (3, 25, 16, 0) := ⟨Nat.le_of_ble_eq_true rfl, fun _ => (mm_tw4 1 rfl rfl), fun h => absurd h (by decide), fun _ => rfl, fun h => absurd rfl h⟩
set_option maxRecDepth 100000 in
theorem mm_pm49 : mm_pmP (4, 56, 54, 0) := ⟨Nat.le_of_ble_eq_true rfl, fun _ => (mm_tw3 106 rfl rfl), fun h => absurd h (by decide), fun _ => rfl, fun h => absurd rfl h⟩
set_option maxRecDepth 100000 in
theorem mm_pm50 : mm_pmP (4, 60, 51, 0) := ⟨Nat.le_of_ble_eq_true rfl, fun _ => (mm_tw4 185 rfl rfl), fun h => absurd h (by decide), fun _ => rfl, fun h => absurd rfl h⟩
set_option maxRecDepth 100000 in
theorem mm_pm51 : mm_pmP (4, 64, 58, 0) := ⟨Nat.le_of_ble_eq_true rfl, fun _ => (mm_tw3 34 rfl rfl), fun h => absurd h (by decide), fun _ => rfl, fun h => absurd rfl h⟩
set_option maxRecDepth 100000 in
theorem mm_pm52 : mm_pmP (4, 68, 153, 2) := ⟨Nat.le_of_ble_eq_true rfl, fun h => absurd h (by decide), fun _ => ⟨"HiccupTown", (mm_tn3 230 rfl rfl)⟩, fun h => absurd h (by decide), fun _ => rfl⟩
set_option maxRecDepth 100000 in
theorem mm_pm53 : mm_pmP (5, 18, 62, 0) := ⟨Nat.le_of_ble_eq_true rfl, fun _ => (mm_tw4 118 rfl rfl), fun h => absurd h (by decide), fun _ => rfl, fun h => absurd rfl h⟩
set_option maxRecDepth 100000 in
theorem mm_pm54 : mm_pmP (5, 22, 63, 0) := ⟨Nat.le_of_ble_eq_true rfl, fun _ => (mm_tw4 126 rfl rfl), fun h => absurd h (by decide), fun _ => rfl, fun h => absurd rfl h⟩
set_option maxRecDepth 100000 in
theorem mm_pm55 : mm_pmP (5, 26, 53, 0) := ⟨Nat.le_of_ble_eq_true rfl, fun _ => (mm_tw4 122 rfl rfl), fun h => absurd h (by decide), fun _ => rfl, fun h => absurd rfl h⟩
set_option maxRecDepth 100000 in
theorem mm_pm56 : mm_pmP (5, 35, 64, 0) := ⟨Nat.le_of_ble_eq_true rfl, fun _ => (mm_tw4 130 rfl rfl), fun h => absurd h (by decide), fun _ => rfl, fun h => absurd rfl h⟩
set_option maxRecDepth 100000 in
theorem mm_pm57 : mm_pmP (6, 30, 50, 0) := ⟨Nat.le_of_ble_eq_true rfl, fun _ => (mm_tw3 91 rfl rfl), fun h => absurd h (by decide), fun _ => rfl, fun h => absurd rfl h⟩
set_option maxRecDepth 100000 in
theorem mm_pm58 : mm_pmP (6, 34, 15, 0) := ⟨Nat.le_of_ble_eq_true rfl, fun _ => (mm_tw3 98 rfl rfl), fun h => absurd h (by decide), fun _ => rfl, fun h => absurd rfl h⟩
set_option maxRecDepth 100000 in
theorem mm_pm59 : mm_pmP (6, 37, 67, 0) := ⟨Nat.le_of_ble_eq_true rfl, fun _ => (mm_tw3 110 rfl rfl), fun h => absurd h (by decide), fun _ => rfl, fun h => absurd rfl h⟩
set_option maxRecDepth 100000 in
theorem mm_pm60 : mm_pmP (6, 40, 16, 0) := ⟨Nat.le_of_ble_eq_true rfl, fun _ => (mm_tw5 227 rfl rfl), fun h => absurd h (by decide), fun _ => rfl, fun h => absurd rfl h⟩
set_option maxRecDepth 100000 in
theorem mm_pm61 : mm_pmP (6, 43, 69, 0) := ⟨Nat.le_of_ble_eq_true rfl, fun _ => (mm_tw5 228 rfl rfl), fun h => absurd h (by decide), fun _ => rfl, fun h => absurd rfl h⟩
set_option maxRecDepth 100000 in
theorem mm_pm62 : mm_pmP (7, 31, 67, 0) := ⟨Nat.le_of_ble_eq_true rfl, fun _ => (mm_tw5 123 rfl rfl), fun h => absurd h (by decide), fun _ => rfl, fun h => absurd rfl h⟩
set_option maxRecDepth 100000 in
theorem mm_pm63 : mm_pmP (7, 34, 71, 0) := ⟨Nat.le_of_ble_eq_true rfl, fun _ => (mm_tw5 124 rfl rfl), fun h => absurd h (by decide), fun _ => rfl, fun h => absurd rfl h⟩
set_option maxRecDepth 100000 in
theorem mm_pm64 : mm_pmP (7, 42, 91, 0) := ⟨Nat.le_of_ble_eq_true rfl, fun _ => (mm_tw5 166 rfl rfl), fun h => absurd h (by decide), fun _ => rfl, fun h => absurd rfl h⟩
set_option maxRecDepth 100000 in
theorem mm_pm65 : mm_pmP (7, 48, 72, 0) := ⟨Nat.le_of_ble_eq_true rfl, fun _ => (mm_tw5 128 rfl rfl), fun h => absurd h (by decide), fun _ => rfl, fun h => absurd rfl h⟩
set_option maxRecDepth 100000 in
theorem mm_pm66 : mm_pmP (7, 57, 84, 0) := ⟨Nat.le_of_ble_eq_true rfl, fun _ => (mm_tw5 159 rfl rfl), fun h => absurd h (by decide), fun _ => rfl, fun h => absurd rfl h⟩
set_option maxRecDepth 100000 in
theorem mm_pm67 : mm_pmP (7, 60, 76, 0) := ⟨Nat.le_of_ble_eq_true rfl, fun _ => (mm_tw5 160 rfl rfl), fun h => absurd h (by decide), fun _ => rfl, fun h => absurd rfl h⟩
set_option maxRecDepth 100000 in
theorem mm_pm68 : mm_pmP (7, 64, 73, 0) := ⟨Nat.le_of_ble_eq_true rfl, fun _ => (mm_tw5 132 rfl rfl), fun h => absurd h (by decide), fun _ => rfl, fun h => absurd rfl h⟩
set_option maxRecDepth 100000 in
theorem mm_pm69 : mm_pmP (7, 70, 74, 1) := ⟨Nat.le_of_ble_eq_true rfl, fun _ => (mm_tw5 136 rfl rfl), fun h => absurd h (by decide), fun h => absurd h (by decide), fun _ => rfl⟩
set_option maxRecDepth 100000 in
theorem mm_pm70 : mm_pmP (7, 73, 90, 0) := ⟨Nat.le_of_ble_eq_true rfl, fun _ => (mm_tw5 158 rfl rfl), fun h => absurd h (by decide), fun _ => rfl, fun h => absurd rfl h⟩
set_option maxRecDepth 100000 in
theorem mm_pm71 : mm_pmP (7, 98, 93, 0) := ⟨Nat.le_of_ble_eq_true rfl, fun _ => (mm_tw5 167 rfl rfl), fun h => absurd h (by decide), fun _ => rfl, fun h => absurd rfl h⟩
set_option maxRecDepth 100000 in
theorem mm_pm72 : mm_pmP (7, 102, 75, 1) := ⟨Nat.le_of_ble_eq_true rfl, fun _ => (mm_tw5 168 rfl rfl), fun h => absurd h (by decide), fun h => absurd h (by decide), fun _ => rfl⟩
set_option maxRecDepth 100000 in
theorem mm_pm73 : mm_pmP (7, 105, 92, 0) := ⟨Nat.le_of_ble_eq_true rfl, fun _ => (mm_tw5 177 rfl rfl), fun h => absurd h (by decide), fun _ => rfl, fun h => absurd rfl h⟩
set_option maxRecDepth 100000 in
theorem mm_pm74 : mm_pmP (7, 130, 78, 0) := ⟨Nat.le_of_ble_eq_true rfl, fun _ => (mm_tw5 199 rfl rfl), fun h => absurd h (by decide), fun _ => rfl, fun h => absurd rfl h⟩
set_option maxRecDepth 100000 in
theorem mm_pm75 : mm_pmP (7, 134, 17, 0) := ⟨Nat.le_of_ble_eq_true rfl, fun _ => (mm_tw5 203 rfl rfl), fun h => absurd h (by decide), fun _ => rfl, fun h => absurd rfl h⟩
set_option maxRecDepth 100000 in
theorem mm_pm76 : mm_pmP (7, 139, 23, 0) := ⟨Nat.le_of_ble_eq_true rfl, fun _ => (mm_tw5 204 rfl rfl), fun h => absurd h (by decide), fun _ => rfl, fun h => absurd rfl h⟩
set_option maxRecDepth 100000 in
theorem mm_pm77 : mm_pmP (7, 143, 51, 0) := ⟨Nat.le_of_ble_eq_true rfl, fun _ => (mm_tw5 208 rfl rfl), fun h => absurd h (by decide), fun _ => rfl, fun h => absurd rfl h⟩
set_option maxRecDepth 100000 in
theorem mm_pm78 : mm_pmP (7, 155, 79, 1) := ⟨Nat.le_of_ble_eq_true rfl, fun _ => (mm_tw5 209 rfl rfl), fun h => absurd h (by decide), fun h => absurd h (by decide), fun _ => rfl⟩
set_option maxRecDepth 100000 in
theorem mm_pm79 : mm_pmP (7, 159, 80, 1) := ⟨Nat.le_of_ble_eq_true rfl, fun _ => (mm_tw5 212 rfl rfl), fun h => absurd h (by decide), fun h => absurd h (by decide), fun _ => rfl⟩
set_option maxRecDepth 100000 in
theorem mm_pm80 : mm_pmP (8, 40, 84, 0) := ⟨Nat.le_of_ble_eq_true rfl, fun _ => (mm_tw2 191 rfl rfl), fun h => absurd h (by decide), fun _ => rfl, fun h => absurd rfl h⟩
set_option maxRecDepth 100000 in
theorem mm_pm81 : mm_pmP (8, 43, 85, 0) := ⟨Nat.le_of_ble_eq_true rfl, fun _ => (mm_tw2 195 rfl rfl), fun h => absurd h (by decide), fun _ => rfl, fun h => absurd rfl h⟩
set_option maxRecDepth 100000 in
theorem mm_pm82 : mm_pmP (8, 59, 86, 0) := ⟨Nat.le_of_ble_eq_true rfl, fun _ => (mm_tw2 201 rfl rfl), fun h => absurd h (by decide), fun _ => rfl, fun h => absurd rfl h⟩
set_option maxRecDepth 100000 in
theorem mm_pm83 : mm_pmP (8, 62, 104, 1) := ⟨Nat.le_of_ble_eq_true rfl, fun _ => (mm_tw2 209 rfl rfl), fun h => absurd h (by decide), fun h => absurd h (by decide), fun _ => rfl⟩
set_option maxRecDepth 100000 in
theorem mm_pm84 : mm_pmP (8, 72, 89, 0) := ⟨Nat.le_of_ble_eq_true rfl, fun _ => (mm_tw2 237 rfl rfl), fun h => absurd h (by decide), fun _ => rfl, fun h => absurd rfl h⟩
set_option maxRecDepth 100000 in
theorem mm_pm85 : mm_pmP (8, 76, 90, 0) := ⟨Nat.le_of_ble_eq_true rfl, fun _ => (mm_tw3 6 rfl rfl), fun h => absurd h (by decide), fun _ => rfl, fun h => absurd rfl h⟩
set_option maxRecDepth 100000 in
theorem mm_pm86 : mm_pmP (8, 80, 58, 0) := ⟨Nat.le_of_ble_eq_true rfl, fun _ => (mm_tw3 66 rfl rfl), fun h => absurd h (by decide), fun _ => rfl, fun h => absurd rfl h⟩
set_option maxRecDepth 100000 in
theorem mm_pm87 : mm_pmP (9, 18, 49, 0) := ⟨Nat.le_of_ble_eq_true rfl, fun _ => (mm_tw2 218 rfl rfl), fun h => absurd h (by decide), fun _ => rfl, fun h => absurd rfl h⟩
set_option maxRecDepth 100000 in
theorem mm_pm88 : mm_pmP (9, 39, 95, 0) := ⟨Nat.le_of_ble_eq_true rfl, fun _ => (mm_tw2 223 rfl rfl), fun h => absurd h (by decide), fun _ => rfl, fun h => absurd rfl h⟩
set_option maxRecDepth 100000 in
theorem mm_pm89 : mm_pmP (9, 46, 91, 0) := ⟨Nat.le_of_ble_eq_true rfl, fun _ => (mm_tw3 79 rfl rfl), fun h => absurd h (by decide), fun _ => rfl, fun h => absurd rfl h⟩
set_option maxRecDepth 100000 in
theorem mm_pm90 : mm_pmP (9, 53, 96, 0) := ⟨Nat.le_of_ble_eq_true rfl, fun _ => (mm_tw2 229 rfl rfl), fun h => absurd h (by decide), fun _ => rfl, fun h => absurd rfl h⟩
set_option maxRecDepth 100000 in
theorem mm_pm91 : mm_pmP (9, 59, 97, 0) := ⟨Nat.le_of_ble_eq_true rfl, fun _ => (mm_tw3 9 rfl rfl), fun h => absurd h (by decide), fun _ => rfl, fun h => absurd rfl h⟩
set_option maxRecDepth 100000 in
theorem mm_pm92 : mm_pmP (9, 65, 99, 0) := ⟨Nat.le_of_ble_eq_true rfl, fun _ => (mm_tw3 15 rfl rfl), fun h => absurd h (by decide), fun _ => rfl, fun h => absurd rfl h⟩
set_option maxRecDepth 100000 in
theorem mm_pm93 : mm_pmP (9, 71, 100, 0) := ⟨Nat.le_of_ble_eq_true rfl, fun _ => (mm_tw3 44 rfl rfl), fun h => absurd h (by decide), fun _ => rfl, fun h => absurd rfl h⟩
set_option maxRecDepth 100000 in
theorem mm_pm94 : mm_pmP (9, 77, 101, 0) := ⟨Nat.le_of_ble_eq_true rfl, fun _ => (mm_tw3 52 rfl rfl), fun h => absurd h (by decide), fun _ => rfl, fun h => absurd rfl h⟩
set_option maxRecDepth 100000 in
theorem mm_pm95 : mm_pmP (9, 83, 102, 0) := ⟨Nat.le_of_ble_eq_true rfl, fun _ => (mm_tw3 58 rfl rfl), fun h => absurd h (by decide), fun _ => rfl, fun h => absurd rfl h⟩
set_option maxRecDepth 100000 in
theorem mm_pm96 : mm_pmP (9, 89, 103, 0) := ⟨Nat.le_of_ble_eq_true rfl, fun _ => (mm_tw3 73 rfl rfl), fun h => absurd h (by decide), fun _ => rfl, fun h => absurd rfl h⟩
set_option maxRecDepth 100000 in
theorem mm_pm97 : mm_pmP (9, 92, 90, 0) := ⟨Nat.le_of_ble_eq_true rfl, fun _ => (mm_tw2 233 rfl rfl), fun h => absurd h (by decide), fun _ => rfl, fun h => absurd rfl h⟩
set_option maxRecDepth 100000 in
theorem mm_pm98 : mm_pmP (9, 100, 84, 0) := ⟨Nat.le_of_ble_eq_true rfl, fun _ => (mm_tw3 1 rfl rfl), fun h => absurd h (by decide), fun _ => rfl, fun h => absurd rfl h⟩
set_option maxRecDepth 100000 in
theorem mm_pm99 : mm_pmP (9, 103, 92, 0) := ⟨Nat.le_of_ble_eq_true rfl, fun _ => (mm_tw3 2 rfl rfl), fun h => absurd h (by decide), fun _ => rfl, fun h => absurd rfl h⟩
set_option maxRecDepth 100000 in
theorem mm_pm100 : mm_pmP (9, 114, 52, 0) := ⟨Nat.le_of_ble_eq_true rfl, fun _ => (mm_tw3 23 rfl rfl), fun h => absurd h (by decide), fun _ => rfl, fun h => absurd rfl h⟩
set_option maxRecDepth 100000 in
theorem mm_pm101 : mm_pmP (9, 124, 59, 0) := ⟨Nat.le_of_ble_eq_true rfl, fun _ => (mm_tw3 30 rfl rfl), fun h => absurd h (by decide), fun _ => rfl, fun h => absurd rfl h⟩
set_option maxRecDepth 100000 in
theorem mm_pm102 : mm_pmP (9, 128, 56, 0) := ⟨Nat.le_of_ble_eq_true rfl, fun _ => (mm_tw3 38 rfl rfl), fun h => absurd h (by decide), fun _ => rfl, fun h => absurd rfl h⟩
set_option maxRecDepth 100000 in
theorem mm_pm103 : mm_pmP (9, 132, 98, 0) := ⟨Nat.le_of_ble_eq_true rfl, fun _ => (mm_tw3 19 rfl rfl), fun h => absurd h (by decide), fun _ => rfl, fun h => absurd rfl h⟩
set_option maxRecDepth 100000 in
theorem mm_pm104 : mm_pmP (9, 157, 93, 0) := ⟨Nat.le_of_ble_eq_true rfl, fun _ => (mm_tw3 62 rfl rfl), fun h => absurd h (by decide), fun _ => rfl, fun h => absurd rfl h⟩
set_option maxRecDepth 100000 in
theorem mm_pm105 : mm_pmP (9, 164, 152, 2) := ⟨Nat.le_of_ble_eq_true rfl, fun h => absurd h (by decide), fun _ => ⟨"HiccupTown", (mm_tn3 67 rfl rfl)⟩, fun h => absurd h (by decide), fun _ => rfl⟩
set_option maxRecDepth 100000 in
theorem mm_pm106 : mm_pmP (9, 168, 89, 0) := ⟨Nat.le_of_ble_eq_true rfl, fun _ => (mm_tw3 70 rfl rfl), fun h => absurd h (by decide), fun _ => rfl, fun h => absurd rfl h⟩
set_option maxRecDepth 100000 in
theorem mm_pm107 : mm_pmP (11, 90, 81, 0) := ⟨Nat.le_of_ble_eq_true rfl, fun _ => (mm_tw2 175 rfl rfl), fun h => absurd h (by decide), fun _ => rfl, fun h => absurd rfl h⟩
set_option maxRecDepth 100000 in
theorem mm_pm108 : mm_pmP (11, 94, 83, 0) := ⟨Nat.le_of_ble_eq_true rfl, fun _ => (mm_tw2 187 rfl rfl), fun h => absurd h (by decide), fun _ => rfl, fun h => absurd rfl h⟩
set_option maxRecDepth 100000 in
theorem mm_pm109 : mm_pmP (11, 97, 94, 0) := ⟨Nat.le_of_ble_eq_true rfl, fun _ => (mm_tw2 214 rfl rfl), fun h => absurd h (by decide), fun _ => rfl, fun h => absurd rfl h⟩
set_option maxRecDepth 100000 in
theorem mm_pm110 : mm_pmP (11, 101, 145, 0) := ⟨Nat.le_of_ble_eq_true rfl, fun _ => (mm_tw3 83 rfl rfl), fun h => absurd h (by decide), fun _ => rfl, fun h => absurd rfl h⟩
set_option maxRecDepth 100000 in
theorem mm_pm111 : mm_pmP (11, 112, 65, 0) := ⟨Nat.le_of_ble_eq_true rfl, fun _ => (mm_tw3 87 rfl rfl), fun h => absurd h (by decide), fun _ => rfl, fun h => absurd rfl h⟩
set_option maxRecDepth 100000 in
theorem mm_pm112 : mm_pmP (11, 116, 46, 0) := ⟨Nat.le_of_ble_eq_true rfl, fun _ => (mm_tw3 114 rfl rfl), fun h => absurd h (by decide), fun _ => rfl, fun h => absurd rfl h⟩
set_option maxRecDepth 100000 in
theorem mm_pm113 : mm_pmP (11, 123, 51, 0) := ⟨Nat.le_of_ble_eq_true rfl, fun _ => (mm_tw3 126 rfl rfl), fun h => absurd h (by decide), fun _ => rfl, fun h => absurd rfl h⟩
set_option maxRecDepth 100000 in
theorem mm_pm114 : mm_pmP (11, 146, 17, 0) := ⟨Nat.le_of_ble_eq_true rfl, fun _ => (mm_tw4 148 rfl rfl), fun h => absurd h (by decide), fun _ => rfl, fun h => absurd rfl h⟩
set_option maxRecDepth 100000 in
theorem mm_pm115 : mm_pmP (11, 153, 23, 0) := ⟨Nat.le_of_ble_eq_true rfl, fun _ => (mm_tw6 70 rfl rfl), fun h => absurd h (by decide), fun _ => rfl, fun h => absurd rfl h⟩
set_option maxRecDepth 100000 in
theorem mm_pm116 : mm_pmP (11, 168, 22, 0) := ⟨Nat.le_of_ble_eq_true rfl, fun _ => (mm_tw3 130 rfl rfl), fun h => absurd h (by decide), fun _ => rfl, fun h => absurd rfl h⟩
set_option maxRecDepth 100000 in
theorem mm_pm117 : mm_pmP (11, 175, 55, 0) := ⟨Nat.le_of_ble_eq_true rfl, fun _ => (mm_tw3 151 rfl rfl), fun h => absurd h (by decide), fun _ => rfl, fun h => absurd rfl h⟩
set_option maxRecDepth 100000 in
theorem mm_pm118 : mm_pmP (11, 198, 20, 0) := ⟨Nat.le_of_ble_eq_true rfl, fun _ => (mm_tw3 156 rfl rfl), fun h => absurd h (by decide), fun _ => rfl, fun h => absurd rfl h⟩
set_option maxRecDepth 100000 in
theorem mm_pm119 : mm_pmP (11, 202, 21, 0) := ⟨Nat.le_of_ble_eq_true rfl, fun _ => (mm_tw3 157 rfl rfl), fun h => absurd h (by decide), fun _ => rfl, fun h => absurd rfl h⟩
set_option maxRecDepth 100000 in
theorem mm_pm120 : mm_pmP (11, 205, 146, 0) := ⟨Nat.le_of_ble_eq_true rfl, fun _ => (mm_tw3 162 rfl rfl), fun h => absurd h (by decide), fun _ => rfl, fun h => absurd rfl h⟩
set_option maxRecDepth 100000 in
theorem mm_pm121 : mm_pmP (11, 209, 54, 0) := ⟨Nat.le_of_ble_eq_true rfl, fun _ => (mm_tw4 15 rfl rfl), fun h => absurd h (by decide), fun _ => rfl, fun h => absurd rfl h⟩
set_option maxRecDepth 100000 in
theorem mm_pm122 : mm_pmP (11, 212, 16, 0) := ⟨Nat.le_of_ble_eq_true rfl, fun _ => (mm_tw3 166 rfl rfl), fun h => absurd h (by decide), fun _ => rfl, fun h => absurd rfl h⟩
set_option maxRecDepth 100000 in
theorem mm_pm123 : mm_pmP (11, 216, 19, 0) := ⟨Nat.le_of_ble_eq_true rfl, fun _ => (mm_tw4 28 rfl rfl), fun h => absurd h (by decide), fun _ => rfl, fun h => absurd rfl h⟩
set_option maxRecDepth 100000 in
theorem mm_pm124 : mm_pmP (11, 225, 26, 0) := ⟨Nat.le_of_ble_eq_true rfl, fun _ => (mm_tw3 171 rfl rfl), fun h => absurd h (by decide), fun _ => rfl, fun h => absurd rfl h⟩
set_option maxRecDepth 100000 in
theorem mm_pm125 : mm_pmP (11, 229, 147, 0) := ⟨Nat.le_of_ble_eq_true rfl, fun _ => (mm_tw3 233 rfl rfl), fun h => absurd h (by decide), fun _ => rfl, fun h => absurd rfl h⟩
set_option maxRecDepth 100000 in
theorem mm_pm126 : mm_pmP (11, 233, 48, 0) := ⟨Nat.le_of_ble_eq_true rfl, fun _ => (mm_tw4 34 rfl rfl), fun h => absurd h (by decide), fun _ => rfl, fun h => absurd rfl h⟩
set_option maxRecDepth 100000 in
theorem mm_pm127 : mm_pmP (11, 237, 24, 0) := ⟨Nat.le_of_ble_eq_true rfl, fun _ => (mm_tw4 42 rfl rfl), fun h => absurd h (by decide), fun _ => rfl, fun h => absurd rfl h⟩
set_option maxRecDepth 100000 in
theorem mm_pm128 : mm_pmP (11, 243, 36, 0) := ⟨Nat.le_of_ble_eq_true rfl, fun _ => (mm_tw4 54 rfl rfl), fun h => absurd h (by decide), fun _ => rfl, fun h => absurd rfl h⟩
set_option maxRecDepth 100000 in
theorem mm_pm129 : mm_pmP (11, 246, 153, 1) := ⟨Nat.le_of_ble_eq_true rfl, fun _ => (mm_tw4 62 rfl rfl), fun h => absurd h (by decide), fun h => absurd h (by decide), fun _ => rfl⟩
set_option maxRecDepth 100000 in
theorem mm_pm130 : mm_pmP (11, 249, 9, 0) := ⟨Nat.le_of_ble_eq_true rfl, fun _ => (mm_tw4 67 rfl rfl), fun h => absurd h (by decide), fun _ => rfl, fun h => absurd rfl h⟩
set_option maxRecDepth 100000 in
theorem mm_pm131 : mm_pmP (11, 262, 61, 0) := ⟨Nat.le_of_ble_eq_true rfl, fun _ => (mm_tw4 114 rfl rfl), fun h => absurd h (by decide), fun _ => rfl, fun h => absurd rfl h⟩
set_option maxRecDepth 100000 in
theorem mm_pm132 : mm_pmP (11, 271, 18, 0) := ⟨Nat.le_of_ble_eq_true rfl, fun _ => (mm_tw4 142 rfl rfl), fun h => absurd h (by decide), fun _ => rfl, fun h => absurd rfl h⟩
set_option maxRecDepth 100000 in
theorem mm_pm133 : mm_pmP (11, 274, 53, 0) := ⟨Nat.le_of_ble_eq_true rfl, fun _ => (mm_tw4 143 rfl rfl), fun h => absurd h (by decide), fun _ => rfl, fun h => absurd rfl h⟩
set_option maxRecDepth 100000 in
theorem mm_pm134 : mm_pmP (11, 277, 37, 0) := ⟨Nat.le_of_ble_eq_true rfl, fun _ => (mm_tw4 149 rfl rfl), fun h => absurd h (by decide), fun _ => rfl, fun h => absurd rfl h⟩
set_option maxRecDepth 100000 in
theorem mm_pm135 : mm_pmP (11, 280, 43, 0) := ⟨Nat.le_of_ble_eq_true rfl, fun _ => (mm_tw4 157 rfl rfl), fun h => absurd h (by decide), fun _ => rfl, fun h => absurd rfl h⟩
set_option maxRecDepth 100000 in
theorem mm_pm136 : mm_pmP (11, 286, 57, 0) := ⟨Nat.le_of_ble_eq_true rfl, fun _ => (mm_tw4 181 rfl rfl), fun h => absurd h (by decide), fun _ => rfl, fun h => absurd rfl h⟩
set_option maxRecDepth 100000 in
theorem mm_pm137 : mm_pmP (11, 290, 149, 0) := ⟨Nat.le_of_ble_eq_true rfl, fun _ => (mm_tw4 186 rfl rfl), fun h => absurd h (by decide), fun _ => rfl, fun h => absurd rfl h⟩
set_option maxRecDepth 100000 in
theorem mm_pm138 : mm_pmP (11, 296, 150, 0) := ⟨Nat.le_of_ble_eq_true rfl, fun _ => (mm_tw4 195 rfl rfl), fun h => absurd h (by decide), fun _ => rfl, fun h => absurd rfl h⟩
set_option maxRecDepth 100000 in
theorem mm_pm139 : mm_pmP (11, 299, 151, 0) := ⟨Nat.le_of_ble_eq_true rfl, fun _ => (mm_tw5 7 rfl rfl), fun h => absurd h (by decide), fun _ => rfl, fun h => absurd rfl h⟩
set_option maxRecDepth 100000 in
theorem mm_pm140 : mm_pmP (11, 308, 38, 0) := ⟨Nat.le_of_ble_eq_true rfl, fun _ => (mm_tw5 22 rfl rfl), fun h => absurd h (by decide), fun _ => rfl, fun h => absurd rfl h⟩
set_option maxRecDepth 100000 in
theorem mm_pm141 : mm_pmP (11, 311, 0, 0) := ⟨Nat.le_of_ble_eq_true rfl, fun _ => (mm_tw5 50 rfl rfl), fun h => absurd h (by decide), fun _ => rfl, fun h => absurd rfl h⟩
set_option maxRecDepth 100000 in
theorem mm_pm142 : mm_pmP (11, 315, 7, 0) := ⟨Nat.le_of_ble_eq_true rfl, fun _ => (mm_tw5 101 rfl rfl), fun h => absurd h (by decide), fun _ => rfl, fun h => absurd rfl h⟩
set_option maxRecDepth 100000 in
theorem mm_pm143 : mm_pmP (11, 322, 8, 0) := ⟨Nat.le_of_ble_eq_true rfl, fun _ => (mm_tw5 111 rfl rfl), fun h => absurd h (by decide), fun _ => rfl, fun h => absurd rfl h⟩
set_option maxRecDepth 100000 in
theorem mm_pm144 : mm_pmP (11, 325, 70, 0) := ⟨Nat.le_of_ble_eq_true rfl, fun _ => (mm_tw5 119 rfl rfl), fun h => absurd h (by decide), fun _ => rfl, fun h => absurd rfl h⟩
set_option maxRecDepth 100000 in
theorem mm_pm145 : mm_pmP (11, 331, 69, 0) := ⟨Nat.le_of_ble_eq_true rfl, fun _ => (mm_tw5 183 rfl rfl), fun h => absurd h (by decide), fun _ => rfl, fun h => absurd rfl h⟩
set_option maxRecDepth 100000 in
theorem mm_pm146 : mm_pmP (11, 337, 68, 0) := ⟨Nat.le_of_ble_eq_true rfl, fun _ => (mm_tw5 191 rfl rfl), fun h => absurd h (by decide), fun _ => rfl, fun h => absurd rfl h⟩
set_option maxRecDepth 100000 in
theorem mm_pm147 : mm_pmP (11, 343, 77, 0) := ⟨Nat.le_of_ble_eq_true rfl, fun _ => (mm_tw5 195 rfl rfl), fun h => absurd h (by decide), fun _ => rfl, fun h => absurd rfl h⟩
set_option maxRecDepth 100000 in
theorem mm_pm148 : mm_pmP (11, 347, 87, 0) := ⟨Nat.le_of_ble_eq_true rfl, fun _ => (mm_tw5 219 rfl rfl), fun h => absurd h (by decide), fun _ => rfl, fun h => absurd rfl h⟩
set_option maxRecDepth 100000 in
theorem mm_pm149 : mm_pmP (11, 351, 66, 0) := ⟨Nat.le_of_ble_eq_true rfl, fun _ => (mm_tw5 223 rfl rfl), fun h => absurd h (by decide), fun _ => rfl, fun h => absurd rfl h⟩
set_option maxRecDepth 100000 in
theorem mm_pm150 : mm_pmP (11, 360, 47, 0) := ⟨Nat.le_of_ble_eq_true rfl, fun _ => (mm_tw3 237 rfl rfl), fun h => absurd h (by decide), fun _ => rfl, fun h => absurd rfl h⟩
set_option maxRecDepth 100000 in
theorem mm_pm151 : mm_pmP (11, 365, 148, 0) := ⟨Nat.le_of_ble_eq_true rfl, fun _ => (mm_tw4 190 rfl rfl), fun h => absurd h (by decide), fun _ => rfl, fun h => absurd rfl h⟩
set_option maxRecDepth 100000 in
theorem mm_pm152 : mm_pmP (12, 14, 156, 0) := ⟨Nat.le_of_ble_eq_true rfl, fun _ => (mm_tw6 80 rfl rfl), fun h => absurd h (by decide), fun _ => rfl, fun h => absurd rfl h⟩
set_option maxRecDepth 100000 in
theorem mm_pm153 : mm_pmP (12, 33, 167, 1) := ⟨Nat.le_of_ble_eq_true rfl, fun _ => (mm_tw7 20 rfl rfl), fun h => absurd h (by decide), fun h => absurd h (by decide), fun _ => rfl⟩
set_option maxRecDepth 100000 in
theorem mm_pm154 : mm_pmP (12, 37, 166, 1) := ⟨Nat.le_of_ble_eq_true rfl, fun _ => (mm_tw7 23 rfl rfl), fun h => absurd h (by decide), fun h => absurd h (by decide), fun _ => rfl⟩
set_option maxRecDepth 100000 in
theorem mm_pm155 : mm_pmP (12, 50, 165, 0) := ⟨Nat.le_of_ble_eq_true rfl, fun _ => (mm_tw7 26 rfl rfl), fun h => absurd h (by decide), fun _ => rfl, fun h => absurd rfl h⟩
set_option maxRecDepth 100000 in
theorem mm_pm156 : mm_pmP (12, 58, 169, 1) := ⟨Nat.le_of_ble_eq_true rfl, fun _ => (mm_tw7 43 rfl rfl), fun h => absurd h (by decide), fun h => absurd h (by decide), fun _ => rfl⟩
set_option maxRecDepth 100000 in
theorem mm_pm157 : mm_pmP (12, 62, 170, 1) := ⟨Nat.le_of_ble_eq_true rfl, fun _ => (mm_tw7 40 rfl rfl), fun h => absurd h (by decide), fun h => absurd h (by decide), fun _ => rfl⟩
set_option maxRecDepth 100000 in
theorem mm_pm158 : mm_pmP (12, 72, 174, 0) := ⟨Nat.le_of_ble_eq_true rfl, fun _ => (mm_tw7 50 rfl rfl), fun h => absurd h (by decide), fun _ => rfl, fun h => absurd rfl h⟩
set_option maxRecDepth 100000 in
theorem mm_pm159 : mm_pmP (12, 75, 160, 1) := ⟨Nat.le_of_ble_eq_true rfl, fun _ => (mm_tw7 62 rfl rfl), fun h => absurd h (by decide), fun h => absurd h (by decide), fun _ => rfl⟩
set_option maxRecDepth 100000 in
theorem mm_pm160 : mm_pmP (12, 82, 168, 0) := ⟨Nat.le_of_ble_eq_true rfl, fun _ => (mm_tw7 16 rfl rfl), fun h => absurd h (by decide), fun _ => rfl, fun h => absurd rfl h⟩
set_option maxRecDepth 100000 in
theorem mm_pm161 : mm_pmP (12, 86, 172, 0) := ⟨Nat.le_of_ble_eq_true rfl, fun _ => (mm_tw7 123 rfl rfl), fun h => absurd h (by decide), fun _ => rfl, fun h => absurd rfl h⟩
set_option maxRecDepth 100000 in
theorem mm_pm162 : mm_pmP (12, 89, 159, 0) := ⟨Nat.le_of_ble_eq_true rfl, fun _ => (mm_tw7 12 rfl rfl), fun h => absurd h (by decide), fun _ => rfl, fun h => absurd rfl h⟩
set_option maxRecDepth 100000 in
theorem mm_pm163 : mm_pmP (12, 166, 178, 0) := ⟨Nat.le_of_ble_eq_true rfl, fun _ => (mm_tw6 94 rfl rfl), fun h => absurd h (by decide), fun _ => rfl, fun h => absurd rfl h⟩
set_option maxRecDepth 100000 in
theorem mm_pm164 : mm_pmP (12, 169, 179, 0) := ⟨Nat.le_of_ble_eq_true rfl, fun _ => (mm_tw6 98 rfl rfl), fun h => absurd h (by decide), fun _ => rfl, fun h => absurd rfl h⟩
set_option maxRecDepth 100000 in
theorem mm_pm165 : mm_pmP (12, 176, 180, 1) := ⟨Nat.le_of_ble_eq_true rfl, fun _ => (mm_tw7 89 rfl rfl), fun h => absurd h (by decide), fun h => absurd h (by decide), fun _ => rfl⟩
set_option maxRecDepth 100000 in
theorem mm_pm166 : mm_pmP (12, 180, 173, 0) := ⟨Nat.le_of_ble_eq_true rfl, fun _ => (mm_tw7 81 rfl rfl), fun h => absurd h (by decide), fun _ => rfl, fun h => absurd rfl h⟩
set_option maxRecDepth 100000 in
theorem mm_pm167 : mm_pmP (12, 184, 181, 0) := ⟨Nat.le_of_ble_eq_true rfl, fun _ => (mm_tw7 85 rfl rfl), fun h => absurd h (by decide), fun _ => rfl, fun h => absurd rfl h⟩
set_option maxRecDepth 100000 in
theorem mm_pm168 : mm_pmP (12, 187, 185, 0) := ⟨Nat.le_of_ble_eq_true rfl, fun _ => (mm_tw7 54 rfl rfl), fun h => absurd h (by decide), fun _ => rfl, fun h => absurd rfl h⟩
set_option maxRecDepth 100000 in
theorem mm_pm169 : mm_pmP (12, 190, 175, 0) := ⟨Nat.le_of_ble_eq_true rfl, fun _ => (mm_tw7 58 rfl rfl), fun h => absurd h (by decide), fun _ => rfl, fun h => absurd rfl h⟩
set_option maxRecDepth 100000 in
theorem mm_pm170 : mm_pmP (12, 194, 184, 0) := ⟨Nat.le_of_ble_eq_true rfl, fun _ => (mm_tw7 65 rfl rfl), fun h => absurd h (by decide), fun _ => rfl, fun h => absurd rfl h⟩
set_option maxRecDepth 100000 in
theorem mm_pm171 : mm_pmP (12, 198, 183, 0) := ⟨Nat.le_of_ble_eq_true rfl, fun _ => (mm_tw7 73 rfl rfl), fun h => absurd h (by decide), fun _ => rfl, fun h => absurd rfl h⟩
set_option maxRecDepth 100000 in
theorem mm_pm172 : mm_pmP (12, 201, 182, 0) := ⟨Nat.le_of_ble_eq_true rfl, fun _ => (mm_tw7 77 rfl rfl), fun h => absurd h (by decide), fun _ => rfl, fun h => absurd rfl h⟩
set_option maxRecDepth 100000 in
theorem mm_pm173 : mm_pmP (12, 204, 188, 0) := ⟨Nat.le_of_ble_eq_true rfl, fun _ => (mm_tw7 96 rfl rfl), fun h => absurd h (by decide), fun _ => rfl, fun h => absurd rfl h⟩
set_option maxRecDepth 100000 in
theorem mm_pm174 : mm_pmP (12, 207, 171, 0) := ⟨Nat.le_of_ble_eq_true rfl, fun _ => (mm_tw7 36 rfl rfl), fun h => absurd h (by decide), fun _ => rfl, fun h => absurd rfl h⟩
set_option maxRecDepth 100000 in
theorem mm_pm175 : mm_pmP (12, 210, 191, 0) := ⟨Nat.le_of_ble_eq_true rfl, fun _ => (mm_tw7 108 rfl rfl), fun h => absurd h (by decide), fun _ => rfl, fun h => absurd rfl h⟩
set_option maxRecDepth 100000 in
theorem mm_pm176 : mm_pmP (12, 213, 161, 1) := ⟨Nat.le_of_ble_eq_true rfl, fun _ => (mm_tw7 112 rfl rfl), fun h => absurd h (by decide), fun h => absurd h (by decide), fun _ => rfl⟩
set_option maxRecDepth 100000 in
theorem mm_pm177 : mm_pmP (12, 216, 186, 0) := ⟨Nat.le_of_ble_eq_true rfl, fun _ => (mm_tw7 46 rfl rfl), fun h => absurd h (by decide), fun _ => rfl, fun h => absurd rfl h⟩
set_option maxRecDepth 100000 in
theorem mm_pm178 : mm_pmP (12, 219, 187, 0) := ⟨Nat.le_of_ble_eq_true rfl, fun _ => (mm_tw7 69 rfl rfl), fun h => absurd h (by decide), fun _ => rfl, fun h => absurd rfl h⟩
set_option maxRecDepth 100000 in
theorem mm_pm179 : mm_pmP (12, 222, 189, 0) := ⟨Nat.le_of_ble_eq_true rfl, fun _ => (mm_tw7 92 rfl rfl), fun h => absurd h (by decide), fun _ => rfl, fun h => absurd rfl h⟩
set_option maxRecDepth 100000 in
theorem mm_pm180 : mm_pmP (12, 225, 190, 0) := ⟨Nat.le_of_ble_eq_true rfl, fun _ => (mm_tw7 100 rfl rfl), fun h => absurd h (by decide), fun _ => rfl, fun h => absurd rfl h⟩
set_option maxRecDepth 100000 in
theorem mm_pm181 : mm_pmP (12, 228, 192, 0) := ⟨Nat.le_of_ble_eq_true rfl, fun _ => (mm_tw7 104 rfl rfl), fun h => absurd h (by decide), fun _ => rfl, fun h => absurd rfl h⟩
set_option maxRecDepth 100000 in
theorem mm_pm182 : mm_pmP (12, 231, 193, 0) := ⟨Nat.le_of_ble_eq_true rfl, fun _ => (mm_tw7 115 rfl rfl), fun h => absurd h (by decide), fun _ => rfl, fun h => absurd rfl h⟩
set_option maxRecDepth 100000 in
theorem mm_pm183 : mm_pmP (12, 234, 177, 0) := ⟨Nat.le_of_ble_eq_true rfl, fun _ => (mm_tw7 8 rfl rfl), fun h => absurd h (by decide), fun _ => rfl, fun h => absurd rfl h⟩
set_option maxRecDepth 100000 in
theorem mm_pm184 : mm_pmP (12, 237, 194, 0) := ⟨Nat.le_of_ble_eq_true rfl, fun _ => (mm_tw7 32 rfl rfl), fun h => absurd h (by decide), fun _ => rfl, fun h => absurd rfl h⟩
set_option maxRecDepth 100000 in
theorem mm_pm185 : mm_pmP (12, 240, 176, 0) := ⟨Nat.le_of_ble_eq_true rfl, fun _ => (mm_tw7 119 rfl rfl), fun h => absurd h (by decide), fun _ => rfl, fun h => absurd rfl h⟩
set_option maxRecDepth 100000 in
theorem mm_pm186 : mm_pmP (12, 246, 202, 0) := ⟨Nat.le_of_ble_eq_true rfl, fun _ => (mm_tw7 155 rfl rfl), fun h => absurd h (by decide), fun _ => rfl, fun h => absurd rfl h⟩
set_option maxRecDepth 100000 in
theorem mm_pm187 : mm_pmP (12, 249, 200, 0) := ⟨Nat.le_of_ble_eq_true rfl, fun _ => (mm_tw7 143 rfl rfl), fun h => absurd h (by decide), fun _ => rfl, fun h => absurd rfl h⟩
set_option maxRecDepth 100000 in
theorem mm_pm188 : mm_pmP (12, 252, 203, 0) := ⟨Nat.le_of_ble_eq_true rfl, fun _ => (mm_tw7 151 rfl rfl), fun h => absurd h (by decide), fun _ => rfl, fun h => absurd rfl h⟩
set_option maxRecDepth 100000 in
theorem mm_pm189 : mm_pmP (12, 255, 198, 0) := ⟨Nat.le_of_ble_eq_true rfl, fun _ => (mm_tw7 135 rfl rfl), fun h => absurd h (by decide), fun _ => rfl, fun h => absurd rfl h⟩
set_option maxRecDepth 100000 in
theorem mm_pm190 : mm_pmP (12, 258, 155, 0) := ⟨Nat.le_of_ble_eq_true rfl, fun _ => (mm_tw7 139 rfl rfl), fun h => absurd h (by decide), fun _ => rfl, fun h => absurd rfl h⟩
set_option maxRecDepth 100000 in
theorem mm_pm191 : mm_pmP (12, 261, 204, 0) := ⟨Nat.le_of_ble_eq_true rfl, fun _ => (mm_tw7 147 rfl rfl), fun h => absurd h (by decide), fun _ => rfl, fun h => absurd rfl h⟩
set_option maxRecDepth 100000 in
theorem mm_pm192 : mm_pmP (12, 264, 199, 0) := ⟨Nat.le_of_ble_eq_true rfl, fun _ => (mm_tw7 163 rfl rfl), fun h => absurd h (by decide), fun _ => rfl, fun h => absurd rfl h⟩
set_option maxRecDepth 100000 in
theorem mm_pm193 : mm_pmP (12, 267, 197, 0) := ⟨Nat.le_of_ble_eq_true rfl, fun _ => (mm_tw7 171 rfl rfl), fun h => absurd h (by decide), fun _ => rfl, fun h => absurd rfl h⟩
set_option maxRecDepth 100000 in
theorem mm_pm194 : mm_pmP (12, 270, 210, 0) := ⟨Nat.le_of_ble_eq_true rfl, fun _ => (mm_tw7 191 rfl rfl), fun h => absurd h (by decide), fun _ => rfl, fun h => absurd rfl h⟩
set_option maxRecDepth 100000 in
theorem mm_pm195 : mm_pmP (12, 273, 162, 1) := ⟨Nat.le_of_ble_eq_true rfl, fun _ => (mm_tw7 203 rfl rfl), fun h => absurd h (by decide), fun h => absurd h (by decide), fun _ => rfl⟩
set_option maxRecDepth 100000 in
theorem mm_pm196 : mm_pmP (12, 277, 212, 0) := ⟨Nat.le_of_ble_eq_true rfl, fun _ => (mm_tw7 206 rfl rfl), fun h => absurd h (by decide), fun _ => rfl, fun h => absurd rfl h⟩
set_option maxRecDepth 100000 in
theorem mm_pm197 : mm_pmP (12, 280, 211, 0) := ⟨Nat.le_of_ble_eq_true rfl, fun _ => (mm_tw7 187 rfl rfl), fun h => absurd h (by decide), fun _ => rfl, fun h => absurd rfl h⟩
set_option maxRecDepth 100000 in
theorem mm_pm198 : mm_pmP (12, 283, 209, 0) := ⟨Nat.le_of_ble_eq_true rfl, fun _ => (mm_tw7 195 rfl rfl), fun h => absurd h (by decide), fun _ => rfl, fun h => absurd rfl h⟩
set_option maxRecDepth 100000 in
theorem mm_pm199 : mm_pmP (12, 286, 213, 0) := ⟨Nat.le_of_ble_eq_true rfl, fun _ => (mm_tw7 199 rfl rfl), fun h => absurd h (by decide), fun _ => rfl, fun h => absurd rfl h⟩
set_option maxRecDepth 100000 in
theorem mm_pm200 : mm_pmP (12, 290, 214, 0) := ⟨Nat.le_of_ble_eq_true rfl, fun _ => (mm_tw7 183 rfl rfl), fun h => absurd h (by decide), fun _ => rfl, fun h => absurd rfl h⟩
set_option maxRecDepth 100000 in
theorem mm_pm201 : mm_pmP (12, 294, 201, 0) := ⟨Nat.le_of_ble_eq_true rfl, fun _ => (mm_tw8 6 rfl rfl), fun h => absurd h (by decide), fun _ => rfl, fun h => absurd rfl h⟩
set_option maxRecDepth 100000 in
theorem mm_pm202 : mm_pmP (12, 297, 222, 0) := ⟨Nat.le_of_ble_eq_true rfl, fun _ => (mm_tw8 10 rfl rfl), fun h => absurd h (by decide), fun _ => rfl, fun h => absurd rfl h⟩
set_option maxRecDepth 100000 in
theorem mm_pm203 : mm_pmP (12, 300, 223, 0) := ⟨Nat.le_of_ble_eq_true rfl, fun _ => (mm_tw8 2 rfl rfl), fun h => absurd h (by decide), fun _ => rfl, fun h => absurd rfl h⟩
set_option maxRecDepth 100000 in
theorem mm_pm204 : mm_pmP (12, 303, 224, 0) := ⟨Nat.le_of_ble_eq_true rfl, fun _ => (mm_tw7 238 rfl rfl), fun h => absurd h (by decide), fun _ => rfl, fun h => absurd rfl h⟩
set_option maxRecDepth 100000 in
theorem mm_pm205 : mm_pmP (12, 306, 226, 0) := ⟨Nat.le_of_ble_eq_true rfl, fun _ => (mm_tw8 18 rfl rfl), fun h => absurd h (by decide), fun _ => rfl, fun h => absurd rfl h⟩
set_option maxRecDepth 100000 in
theorem mm_pm206 : mm_pmP (12, 309, 229, 0) := ⟨Nat.le_of_ble_eq_true rfl, fun _ => (mm_tw8 34 rfl rfl), fun h => absurd h (by decide), fun _ => rfl, fun h => absurd rfl h⟩
set_option maxRecDepth 100000 in
theorem mm_pm207 : mm_pmP (12, 313, 230, 0) := ⟨Nat.le_of_ble_eq_true rfl, fun _ => (mm_tw8 39 rfl rfl), fun h => absurd h (by decide), fun _ => rfl, fun h => absurd rfl h⟩
set_option maxRecDepth 100000 in
theorem mm_pm208 : mm_pmP (12, 316, 231, 0) := ⟨Nat.le_of_ble_eq_true rfl, fun _ => (mm_tw8 30 rfl rfl), fun h => absurd h (by decide), fun _ => rfl, fun h => absurd rfl h⟩
set_option maxRecDepth 100000 in
theorem mm_pm209 : mm_pmP (12, 319, 164, 1) := ⟨Nat.le_of_ble_eq_true rfl, fun _ => (mm_tw8 55 rfl rfl), fun h => absurd h (by decide), fun h => absurd h (by decide), fun _ => rfl⟩
set_option maxRecDepth 100000 in
theorem mm_pm210 : mm_pmP (12, 322, 236, 0) := ⟨Nat.le_of_ble_eq_true rfl, fun _ => (mm_tw8 62 rfl rfl), fun h => absurd h (by decide), fun _ => rfl, fun h => absurd rfl h⟩
set_option maxRecDepth 100000 in
theorem mm_pm211 : mm_pmP (12, 325, 237, 0) := ⟨Nat.le_of_ble_eq_true rfl, fun _ => (mm_tw8 66 rfl rfl), fun h => absurd h (by decide), fun _ => rfl, fun h => absurd rfl h⟩
set_option maxRecDepth 100000 in
theorem mm_pm212 : mm_pmP (12, 328, 242, 0) := ⟨Nat.le_of_ble_eq_true rfl, fun _ => (mm_tw8 90 rfl rfl), fun h => absurd h (by decide), fun _ => rfl, fun h => absurd rfl h⟩
set_option maxRecDepth 100000 in
theorem mm_pm213 : mm_pmP (12, 331, 243, 0) := ⟨Nat.le_of_ble_eq_true rfl, fun _ => (mm_tw8 86 rfl rfl), fun h => absurd h (by decide), fun _ => rfl, fun h => absurd rfl h⟩
set_option maxRecDepth 100000 in
theorem mm_pm214 : mm_pmP (12, 337, 163, 1) := ⟨Nat.le_of_ble_eq_true rfl, fun _ => (mm_tw8 110 rfl rfl), fun h => absurd h (by decide), fun h => absurd h (by decide), fun _ => rfl⟩
set_option maxRecDepth 100000 in
theorem mm_pm215 : mm_pmP (12, 339, 246, 0) := ⟨Nat.le_of_ble_eq_true rfl, fun _ => (mm_tw8 106 rfl rfl), fun h => absurd h (by decide), fun _ => rfl, fun h => absurd rfl h⟩
set_option maxRecDepth 100000 in
theorem mm_pm216 : mm_pmP (12, 342, 247, 0) := ⟨Nat.le_of_ble_eq_true rfl, fun _ => (mm_tw8 102 rfl rfl), fun h => absurd h (by decide), fun _ => rfl, fun h => absurd rfl h⟩
set_option maxRecDepth 100000 in
theorem mm_pm217 : mm_pmP (12, 348, 251, 0) := ⟨Nat.le_of_ble_eq_true rfl, fun _ => (mm_tw8 121 rfl rfl), fun h => absurd h (by decide), fun _ => rfl, fun h => absurd rfl h⟩
set_option maxRecDepth 100000 in
theorem mm_pm218 : mm_pmP (12, 352, 250, 0) := ⟨Nat.le_of_ble_eq_true rfl, fun _ => (mm_tw8 125 rfl rfl), fun h => absurd h (by decide), fun _ => rfl, fun h => absurd rfl h⟩
set_option maxRecDepth 100000 in
theorem mm_pm219 : mm_pmP (12, 355, 252, 0) := ⟨Nat.le_of_ble_eq_true rfl, fun _ => (mm_tw8 133 rfl rfl), fun h => absurd h (by decide), fun _ => rfl, fun h => absurd rfl h⟩
set_option maxRecDepth 100000 in
theorem mm_pm220 : mm_pmP (12, 358, 253, 0) := ⟨Nat.le_of_ble_eq_true rfl, fun _ => (mm_tw8 129 rfl rfl), fun h => absurd h (by decide), fun _ => rfl, fun h => absurd rfl h⟩
set_option maxRecDepth 100000 in
theorem mm_pm221 : mm_pmP (12, 365, 256, 0) := ⟨Nat.le_of_ble_eq_true rfl, fun _ => (mm_tw8 149 rfl rfl), fun h => absurd h (by decide), fun _ => rfl, fun h => absurd rfl h⟩
set_option maxRecDepth 100000 in
theorem mm_pm222 : mm_pmP (12, 368, 257, 0) := ⟨Nat.le_of_ble_eq_true rfl, fun _ => (mm_tw8 154 rfl rfl), fun h => absurd h (by decide), fun _ => rfl, fun h => absurd rfl h⟩
set_option maxRecDepth 100000 in
theorem mm_pm223 : mm_pmP (12, 371, 258, 0) := ⟨Nat.le_of_ble_eq_true rfl, fun _ => (mm_tw8 145 rfl rfl), fun h => absurd h (by decide), fun _ => rfl, fun h => absurd rfl h⟩
set_option maxRecDepth 100000 in
theorem mm_pm224 : mm_pmP (12, 374, 262, 0) := ⟨Nat.le_of_ble_eq_true rfl, fun _ => (mm_tw8 178 rfl rfl), fun h => absurd h (by decide), fun _ => rfl, fun h => absurd rfl h⟩
set_option maxRecDepth 100000 in
theorem mm_pm225 : mm_pmP (12, 380, 264, 0) := ⟨Nat.le_of_ble_eq_true rfl, fun _ => (mm_tw8 170 rfl rfl), fun h => absurd h (by decide), fun _ => rfl, fun h => absurd rfl h⟩
set_option maxRecDepth 100000 in
theorem mm_pm226 : mm_pmP (12, 383, 263, 0) := ⟨Nat.le_of_ble_eq_true rfl, fun _ => (mm_tw8 174 rfl rfl), fun h => absurd h (by decide), fun _ => rfl, fun h => absurd rfl h⟩
set_option maxRecDepth 100000 in
theorem mm_pm227 : mm_pmP (12, 386, 261, 0) := ⟨Nat.le_of_ble_eq_true rfl, fun _ => (mm_tw8 182 rfl rfl), fun h => absurd h (by decide), fun _ => rfl, fun h => absurd rfl h⟩
set_option maxRecDepth 100000 in
theorem mm_pm228 : mm_pmP (12, 389, 265, 0) := ⟨Nat.le_of_ble_eq_true rfl, fun _ => (mm_tw8 166 rfl rfl), fun h => absurd h (by decide), fun _ => rfl, fun h => absurd rfl h⟩
set_option maxRecDepth 100000 in
theorem mm_pm229 : mm_pmP (12, 392, 266, 0) := ⟨Nat.le_of_ble_eq_true rfl, fun _ => (mm_tw8 186 rfl rfl), fun h => absurd h (by decide), fun _ => rfl, fun h => absurd rfl h⟩
set_option maxRecDepth 100000 in
theorem mm_pm230 : mm_pmP (12, 398, 268, 0) := ⟨Nat.le_of_ble_eq_true rfl, fun _ => (mm_tw8 190 rfl rfl), fun h => absurd h (by decide), fun _ => rfl, fun h => absurd rfl h⟩
set_option maxRecDepth 100000 in
theorem mm_pm231 : mm_pmP (12, 405, 272, 0) := ⟨Nat.le_of_ble_eq_true rfl, fun _ => (mm_tw8 206 rfl rfl), fun h => absurd h (by decide), fun _ => rfl, fun h => absurd rfl h⟩
set_option maxRecDepth 100000 in
theorem mm_pm232 : mm_pmP (12, 411, 270, 0) := ⟨Nat.le_of_ble_eq_true rfl, fun _ => (mm_tw8 222 rfl rfl), fun h => absurd h (by decide), fun _ => rfl, fun h => absurd rfl h⟩
set_option maxRecDepth 100000 in
theorem mm_pm233 : mm_pmP (12, 415, 273, 0) := ⟨Nat.le_of_ble_eq_true rfl, fun _ => (mm_tw8 210 rfl rfl), fun h => absurd h (by decide), fun _ => rfl, fun h => absurd rfl h⟩
set_option maxRecDepth 100000 in
theorem mm_pm234 : mm_pmP (12, 424, 275, 0) := ⟨Nat.le_of_ble_eq_true rfl, fun _ => (mm_tw8 214 rfl rfl), fun h => absurd h (by decide), fun _ => rfl, fun h => absurd rfl h⟩
set_option maxRecDepth 100000 in
theorem mm_pm235 : mm_pmP (12, 427, 274, 0) := ⟨Nat.le_of_ble_eq_true rfl, fun _ => (mm_tw8 218 rfl rfl), fun h => absurd h (by decide), fun _ => rfl, fun h => absurd rfl h⟩
set_option maxRecDepth 100000 in
theorem mm_pm236 : mm_pmP (12, 430, 276, 0) := ⟨Nat.le_of_ble_eq_true rfl, fun _ => (mm_tw8 226 rfl rfl), fun h => absurd h (by decide), fun _ => rfl, fun h => absurd rfl h⟩
set_option maxRecDepth 100000 in
theorem mm_pm237 : mm_pmP (12, 433, 277, 0) := ⟨Nat.le_of_ble_eq_true rfl, fun _ => (mm_tw8 230 rfl rfl), fun h => absurd h (by decide), fun _ => rfl, fun h => absurd rfl h⟩
set_option maxRecDepth 100000 in
theorem mm_pm238 : mm_pmP (12, 436, 271, 0) := ⟨Nat.le_of_ble_eq_true rfl, fun _ => (mm_tw8 202 rfl rfl), fun h => absurd h (by decide), fun _ => rfl, fun h => absurd rfl h⟩
set_option maxRecDepth 100000 in
theorem mm_pm239 : mm_pmP (12, 439, 279, 0) := ⟨Nat.le_of_ble_eq_true rfl, fun _ => (mm_tw8 238 rfl rfl), fun h => absurd h (by decide), fun _ => rfl, fun h => absurd rfl h⟩
set_option maxRecDepth 100000 in
theorem mm_pm_ok : ∀ z ∈ mm_pm, mm_pmP z := (List.forall_mem_cons.mpr ⟨mm_pm0, (List.forall_mem_cons.mpr ⟨mm_pm1, (List.forall_mem_cons.mpr ⟨mm_pm2, (List.forall_mem_cons.mpr ⟨mm_pm3, (List.forall_mem_cons.mpr ⟨mm_pm4, (List.forall_mem_cons.mpr ⟨mm_pm5, (List.forall_mem_cons.mpr ⟨mm_pm6, (List.forall_mem_cons.mpr ⟨mm_pm7, (List.forall_mem_cons.mpr ⟨mm_pm8, (List.forall_mem_cons.mpr ⟨mm_pm9, (List.forall_mem_cons.mpr ⟨mm_pm10, (List.forall_mem_cons.mpr ⟨mm_pm11, (List.forall_mem_cons.mpr ⟨mm_pm12, (List.forall_mem_cons.mpr ⟨mm_pm13, (List.forall_mem_cons.mpr ⟨mm_pm14, (List.forall_mem_cons.mpr ⟨mm_pm15, (List.forall_mem_cons.mpr ⟨mm_pm16, (List.forall_mem_cons.mpr ⟨mm_pm17, (List.forall_mem_cons.mpr ⟨mm_pm18, (List.forall_mem_cons.mpr ⟨mm_pm19, (List.forall_mem_cons.mpr ⟨mm_pm20, (List.forall_mem_cons.mpr ⟨mm_pm21, (List.forall_mem_cons.mpr ⟨mm_pm22, (List.forall_mem_cons.mpr ⟨mm_pm23, (List.forall_mem_cons.mpr ⟨mm_pm24, (List.forall_mem_cons.mpr ⟨mm_pm25, (List.forall_mem_cons.mpr ⟨mm_pm26, (List.forall_mem_cons.mpr ⟨mm_pm27, (List.forall_mem_cons.mpr ⟨mm_pm28, (List.forall_mem_cons.mpr ⟨mm_pm29, (List.forall_mem_cons.mpr ⟨mm_pm30, (List.forall_mem_cons.mpr ⟨mm_pm31, (List.forall_mem_cons.mpr ⟨mm_pm32, (List.forall_mem_cons.mpr ⟨mm_pm33, (List.forall_mem_cons.mpr ⟨mm_pm34, (List.forall_mem_cons.mpr ⟨mm_pm35, (List.forall_mem_cons.mpr ⟨mm_pm36, (List.forall_mem_cons.mpr ⟨mm_pm37, (List.forall_mem_cons.mpr ⟨mm_pm38, (List.forall_mem_cons.mpr ⟨mm_pm39, (List.forall_mem_cons.mpr ⟨mm_pm40, (List.forall_mem_cons.mpr ⟨mm_pm41, (List.forall_mem_cons.mpr ⟨mm_pm42, (List.forall_mem_cons.mpr ⟨mm_pm43, (List.forall_mem_cons.mpr ⟨mm_pm44, (List.forall_mem_cons.mpr ⟨mm_pm45, (List.forall_mem_cons.mpr ⟨mm_pm46, (List.forall_mem_cons.mpr ⟨mm_pm47, (List.forall_mem_cons.mpr ⟨mm_pm48, (List.forall_mem_cons.mpr ⟨mm_pm49, (List.forall_mem_cons.mpr ⟨mm_pm50, (List.forall_mem_cons.mpr ⟨mm_pm51, (List.forall_mem_cons.mpr ⟨mm_pm52, (List.forall_mem_cons.mpr ⟨mm_pm53, (List.forall_mem_cons.mpr ⟨mm_pm54, (List.forall_mem_cons.mpr ⟨mm_pm55, (List.forall_mem_cons.mpr ⟨mm_pm56, (List.forall_mem_cons.mpr ⟨mm_pm57, (List.forall_mem_cons.mpr ⟨mm_pm58, (List.forall_mem_cons.mpr ⟨mm_pm59, (List.forall_mem_cons.mpr ⟨mm_pm60, (List.forall_mem_cons.mpr ⟨mm_pm61, (List.forall_mem_cons.mpr ⟨mm_pm62, (List.forall_mem_cons.mpr ⟨mm_pm63, (List.forall_mem_cons.mpr ⟨mm_pm64, (List.forall_mem_cons.mpr ⟨mm_pm65, (List.forall_mem_cons.mpr ⟨mm_pm66, (List.forall_mem_cons.mpr ⟨mm_pm67, (List.forall_mem_cons.mpr ⟨mm_pm68, (List.forall_mem_cons.mpr ⟨mm_pm69, (List.forall_mem_cons.mpr ⟨mm_pm70, (List.forall_mem_cons.mpr ⟨mm_pm71, (List.forall_mem_cons.mpr ⟨mm_pm72, (List.forall_mem_cons.mpr ⟨mm_pm73, (List.forall_mem_cons.mpr ⟨mm_pm74, (List.forall_mem_cons.mpr ⟨mm_pm75, (List.forall_mem_cons.mpr ⟨mm_pm76, (List.forall_mem_cons.mpr ⟨mm_pm77, (List.forall_mem_cons.mpr ⟨mm_pm78, (List.forall_mem_cons.mpr ⟨mm_pm79, (List.forall_mem_cons.mpr ⟨mm_pm80, (List.forall_mem_cons.mpr ⟨mm_pm81, (List.forall_mem_cons.mpr ⟨mm_pm82, (List.forall_mem_cons.mpr ⟨mm_pm83, (List.forall_mem_cons.mpr ⟨mm_pm84, (List.forall_mem_cons.mpr ⟨mm_pm85, (List.forall_mem_cons.mpr ⟨mm_pm86, (List.forall_mem_cons.mpr ⟨mm_pm87, (List.forall_mem_cons.mpr ⟨mm_pm88, (List.forall_mem_cons.mpr ⟨mm_pm89, (List.forall_mem_cons.mpr ⟨mm_pm90, (List.forall_mem_cons.mpr ⟨mm_pm91, (List.forall_mem_cons.mpr ⟨mm_pm92, (List.forall_mem_cons.mpr ⟨mm_pm93, (List.forall_mem_cons.mpr ⟨mm_pm94, (List.forall_mem_cons.mpr ⟨mm_pm95, (List.forall_mem_cons.mpr ⟨mm_pm96, (List.forall_mem_cons.mpr ⟨mm_pm97, (List.forall_mem_cons.mpr ⟨mm_pm98, (List.forall_mem_cons.mpr ⟨mm_pm99, (List.forall_mem_cons.mpr ⟨mm_pm100, (List.forall_mem_cons.mpr ⟨mm_pm101, (List.forall_mem_cons.mpr ⟨mm_pm102, (List.forall_mem_cons.mpr ⟨mm_pm103, (List.forall_mem_cons.mpr ⟨mm_pm104, (List.forall_mem_cons.mpr ⟨mm_pm105, (List.forall_mem_cons.mpr ⟨mm_pm106, (List.forall_mem_cons.mpr ⟨mm_pm107, (List.forall_mem_cons.mpr ⟨mm_pm108, (List.forall_mem_cons.mpr ⟨mm_pm109, (List.forall_mem_cons.mpr ⟨mm_pm110, (List.forall_mem_cons.mpr ⟨mm_pm111, (List.forall_mem_cons.mpr ⟨mm_pm112, (List.forall_mem_cons.mpr ⟨mm_pm113, (List.forall_mem_cons.mpr ⟨mm_pm114, (List.forall_mem_cons.mpr ⟨mm_pm115, (List.forall_mem_cons.mpr ⟨mm_pm116, (List.forall_mem_cons.mpr ⟨mm_pm117, (List.forall_mem_cons.mpr ⟨mm_pm118, (List.forall_mem_cons.mpr ⟨mm_pm119, (List.forall_mem_cons.mpr ⟨mm_pm120, (List.forall_mem_cons.mpr ⟨mm_pm121, (List.forall_mem_cons.mpr ⟨mm_pm122, (List.forall_mem_cons.mpr ⟨mm_pm123, (List.forall_mem_cons.mpr ⟨mm_pm124, (List.forall_mem_cons.mpr ⟨mm_pm125, (List.forall_mem_cons.mpr ⟨mm_pm126, (List.forall_mem_cons.mpr ⟨mm_pm127, (List.forall_mem_cons.mpr ⟨mm_pm128, (List.forall_mem_cons.mpr ⟨mm_pm129, (List.forall_mem_cons.mpr ⟨mm_pm130, (List.forall_mem_cons.mpr ⟨mm_pm131, (List.forall_mem_cons.mpr ⟨mm_pm132, (List.forall_mem_cons.mpr ⟨mm_pm133, (List.forall_mem_cons.mpr ⟨mm_pm134, (List.forall_mem_cons.mpr ⟨mm_pm135, (List.forall_mem_cons.mpr ⟨mm_pm136, (List.forall_mem_cons.mpr ⟨mm_pm137, (List.forall_mem_cons.mpr ⟨mm_pm138, (List.forall_mem_cons.mpr ⟨mm_pm139, (List.forall_mem_cons.mpr ⟨mm_pm140, (List.forall_mem_cons.mpr ⟨mm_pm141, (List.forall_mem_cons.mpr ⟨mm_pm142, (List.forall_mem_cons.mpr ⟨mm_pm143, (List.forall_mem_cons.mpr ⟨mm_pm144, (List.forall_mem_cons.mpr ⟨mm_pm145, (List.forall_mem_cons.mpr ⟨mm_pm146, (List.forall_mem_cons.mpr ⟨mm_pm147, (List.forall_mem_cons.mpr ⟨mm_pm148, (List.forall_mem_cons.mpr ⟨mm_pm149, (List.forall_mem_cons.mpr ⟨mm_pm150, (List.forall_mem_cons.mpr ⟨mm_pm151, (List.forall_mem_cons.mpr ⟨mm_pm152, (List.forall_mem_cons.mpr ⟨mm_pm153, (List.forall_mem_cons.mpr ⟨mm_pm154, (List.forall_mem_cons.mpr ⟨mm_pm155, (List.forall_mem_cons.mpr ⟨mm_pm156, (List.forall_mem_cons.mpr ⟨mm_pm157, (List.forall_mem_cons.mpr ⟨mm_pm158, (List.forall_mem_cons.mpr ⟨mm_pm159, (List.forall_mem_cons.mpr ⟨mm_pm160, (List.forall_mem_cons.mpr ⟨mm_pm161, (List.forall_mem_cons.mpr ⟨mm_pm162, (List.forall_mem_cons.mpr ⟨mm_pm163, (List.forall_mem_cons.mpr ⟨mm_pm164, (List.forall_mem_cons.mpr ⟨mm_pm165, (List.forall_mem_cons.mpr ⟨mm_pm166, (List.forall_mem_cons.mpr ⟨mm_pm167, (List.forall_mem_cons.mpr ⟨mm_pm168, (List.forall_mem_cons.mpr ⟨mm_pm169, (List.forall_mem_cons.mpr ⟨mm_pm170, (List.forall_mem_cons.mpr ⟨mm_pm171, (List.forall_mem_cons.mpr ⟨mm_pm172, (List.forall_mem_cons.mpr ⟨mm_pm173, (List.forall_mem_cons.mpr ⟨mm_pm174, (List.forall_mem_cons.mpr ⟨mm_pm175, (List.forall_mem_cons.mpr ⟨mm_pm176, (List.forall_mem_cons.mpr ⟨mm_pm177, (List.forall_mem_cons.mpr ⟨mm_pm178, (List.forall_mem_cons.mpr ⟨mm_pm179, (List.forall_mem_cons.mpr ⟨mm_pm180, (List.forall_mem_cons.mpr ⟨mm_pm181, (List.forall_mem_cons.mpr ⟨mm_pm182, (List.forall_mem_cons.mpr ⟨mm_pm183, (List.forall_mem_cons.mpr ⟨mm_pm184, (List.forall_mem_cons.mpr ⟨mm_pm185, (List.forall_mem_cons.mpr ⟨mm_pm186, (List.forall_mem_cons.mpr ⟨mm_pm187, (List.forall_mem_cons.mpr ⟨mm_pm188, (List.forall_mem_cons.mpr ⟨mm_pm189, (List.forall_mem_cons.mpr ⟨mm_pm190, (List.forall_mem_cons.mpr ⟨mm_pm191, (List.forall_mem_cons.mpr ⟨mm_pm192, (List.forall_mem_cons.mpr ⟨mm_pm193, (List.forall_mem_cons.mpr ⟨mm_pm194, (List.forall_mem_cons.mpr ⟨mm_pm195, (List.forall_mem_cons.mpr ⟨mm_pm196, (List.forall_mem_cons.mpr ⟨mm_pm197, (List.forall_mem_cons.mpr ⟨mm_pm198, (List.forall_mem_cons.mpr ⟨mm_pm199, (List.forall_mem_cons.mpr ⟨mm_pm200, (List.forall_mem_cons.mpr ⟨mm_pm201, (List.forall_mem_cons.mpr ⟨mm_pm202, (List.forall_mem_cons.mpr ⟨mm_pm203, (List.forall_mem_cons.mpr ⟨mm_pm204, (List.forall_mem_cons.mpr ⟨mm_pm205, (List.forall_mem_cons.mpr ⟨mm_pm206, (List.forall_mem_cons.mpr ⟨mm_pm207, (List.forall_mem_cons.mpr ⟨mm_pm208, (List.forall_mem_cons.mpr ⟨mm_pm209, (List.forall_mem_cons.mpr ⟨mm_pm210, (List.forall_mem_cons.mpr ⟨mm_pm211, (List.forall_mem_cons.mpr ⟨mm_pm212, (List.forall_mem_cons.mpr ⟨mm_pm213, (List.forall_mem_cons.mpr ⟨mm_pm214, (List.forall_mem_cons.mpr ⟨mm_pm215, (List.forall_mem_cons.mpr ⟨mm_pm216, (List.forall_mem_cons.mpr ⟨mm_pm217, (List.forall_mem_cons.mpr ⟨mm_pm218, (List.forall_mem_cons.mpr ⟨mm_pm219, (List.forall_mem_cons.mpr ⟨mm_pm220, (List.forall_mem_cons.mpr ⟨mm_pm221, (List.forall_mem_cons.mpr ⟨mm_pm222, (List.forall_mem_cons.mpr ⟨mm_pm223, (List.forall_mem_cons.mpr ⟨mm_pm224, (List.forall_mem_cons.mpr ⟨mm_pm225, (List.forall_mem_cons.mpr ⟨mm_pm226, (List.forall_mem_cons.mpr ⟨mm_pm227, (List.forall_mem_cons.mpr ⟨mm_pm228, (List.forall_mem_cons.mpr ⟨mm_pm229, (List.forall_mem_cons.mpr ⟨mm_pm230, (List.forall_mem_cons.mpr ⟨mm_pm231, (List.forall_mem_cons.mpr ⟨mm_pm232, (List.forall_mem_cons.mpr ⟨mm_pm233, (List.forall_mem_cons.mpr ⟨mm_pm234, (List.forall_mem_cons.mpr ⟨mm_pm235, (List.forall_mem_cons.mpr ⟨mm_pm236, (List.forall_mem_cons.mpr ⟨mm_pm237, (List.forall_mem_cons.mpr ⟨mm_pm238, (List.forall_mem_cons.mpr ⟨mm_pm239, (fun _ h => absurd h List.not_mem_nil)⟩)⟩)⟩)⟩)⟩)⟩)⟩)⟩)⟩)⟩)⟩)⟩)⟩)⟩)⟩)⟩)⟩)⟩)⟩)⟩)⟩)⟩)⟩)⟩)⟩)⟩)⟩)⟩)⟩)⟩)⟩)⟩)⟩)⟩)⟩)⟩)⟩)⟩)⟩)⟩)⟩)⟩)⟩)⟩)⟩)⟩)⟩)⟩)⟩)⟩)⟩)⟩)⟩)⟩)⟩)⟩)⟩)⟩)⟩)⟩)⟩)⟩)⟩)⟩)⟩)⟩)⟩)⟩)⟩)⟩)⟩)⟩)⟩)⟩)⟩)⟩)⟩)⟩)⟩)⟩)⟩)⟩)⟩)⟩)⟩)⟩)⟩)⟩)⟩)⟩)⟩)⟩)⟩)⟩)⟩)⟩)⟩)⟩)⟩)⟩)⟩)⟩)⟩)⟩)⟩)⟩)⟩)⟩)⟩)⟩)⟩)⟩)⟩)⟩)⟩)⟩)⟩)⟩)⟩)⟩)⟩)⟩)⟩)⟩)⟩)⟩)⟩)⟩)⟩)⟩)⟩)⟩)⟩)⟩)⟩)⟩)⟩)⟩)⟩)⟩)⟩)⟩)⟩)⟩)⟩)⟩)⟩)⟩)⟩)⟩)⟩)⟩)⟩)⟩)⟩)⟩)⟩)⟩)⟩)⟩)⟩)⟩)⟩)⟩)⟩)⟩)⟩)⟩)⟩)⟩)⟩)⟩)⟩)⟩)⟩)⟩)⟩)⟩)⟩)⟩)⟩)⟩)⟩)⟩)⟩)⟩)⟩)⟩)⟩)⟩)⟩)⟩)⟩)⟩)⟩)⟩)⟩)⟩)⟩)⟩)⟩)⟩)⟩)⟩)⟩)⟩)⟩)⟩)⟩)⟩)⟩)⟩)⟩)⟩)⟩)⟩)⟩)⟩)⟩)⟩)⟩)⟩)⟩)⟩)⟩)⟩)⟩)⟩)⟩)⟩)⟩)⟩)⟩)⟩)⟩)⟩)⟩)⟩)⟩)⟩)
def mm_pkP (z : Nat × Nat × Int) : Prop := Cond.constant (mm_xn z.1) z.2.1 (Int32.ofInt z.2.2) ∈ mm_TW ∧ -2147483648 ≤ z.2.2 ∧ z.2.2 < 2147483648
set_option maxRecDepth 100000 in
theorem mm_pk_ok : ∀ z ∈ mm_pk, mm_pkP z := (List.forall_mem_cons.mpr ⟨⟨(mm_tw5 33 rfl rfl), by decide, by decide⟩, (List.forall_mem_cons.mpr ⟨⟨(mm_tw8 38 rfl rfl), by decide, by decide⟩, (List.forall_mem_cons.mpr ⟨⟨(mm_tw8 153 rfl rfl), by decide, by decide⟩, (fun _ h => absurd h List.not_mem_nil)⟩)⟩)⟩)
def mm_plP (z : Nat × Nat × Int) : Prop := Cond.constantLong (mm_xn z.1) z.2.1 (Int64.ofInt z.2.2) ∈ mm_TW ∧ -9223372036854775808 ≤ z.2.2 ∧ z.2.2 < 9223372036854775808
set_option maxRecDepth 100000 in
theorem mm_pl_ok : ∀ z ∈ mm_pl, mm_plP z := (List.forall_mem_cons.mpr ⟨⟨(mm_tw7 30 rfl rfl), by decide, by decide⟩, (List.forall_mem_cons.mpr ⟨⟨(mm_tw7 31 rfl rfl), by decide, by decide⟩, (fun _ h => absurd h List.not_mem_nil)⟩)⟩)
def mm_qP (q : Nat) : Prop := mm_rok q ∧ Cond.code (mm_y q) (mm_b q) (mm_prog q).2 (mm_r q) ∈ mm_TW ∧ Cond.initialized (mm_y q).cls ∈ mm_TW ∧ (mm_sq q = 1 → Cond.static (mm_y q) ∈ mm_TW) ∧ (mm_sq q = 0 → Cond.instanceMethod (mm_y q) ∈ mm_TW ∧ Cond.selects (mm_y q).cls (mm_y q) (mm_y q) ∈ mm_TW ∧ ∃ r : vw_C, vwCl[mm_xt (mm_xq q) - 10]? = some r ∧ r.1 = (mm_y q).cls ∧ 10 ≤ mm_xt (mm_xq q) ∧ mm_xt (mm_xq q) < 22) ∧
  (mm_y q).cls = mm_xn (mm_xq q) ∧ (mm_prog q).2 ≤ 9 ∧ plainName (mm_y q).cls = true ∧ (mm_y q).cls ≠ "java/lang/invoke/MethodHandle" ∧ (mm_y q).cls ≠ "java/lang/invoke/VarHandle" ∧ (parseMethodDescriptor (mm_y q).desc).map (fun d => d.parameters.length) = some (mm_na q)
set_option maxRecDepth 100000 in
theorem mm_q0 : mm_qP 0 := ⟨mm_rk0, (mm_tw5 53 rfl rfl), (mm_tw1 13 rfl rfl), fun h => absurd h (by decide +kernel), fun _ => ⟨(mm_tw5 51 rfl rfl), (mm_tw5 52 rfl rfl), _, rfl, rfl, Nat.le_of_ble_eq_true rfl, Nat.le_of_ble_eq_true rfl⟩, rfl, Nat.le_of_ble_eq_true rfl, by decide +kernel, by decide +kernel, by decide +kernel, by decide +kernel⟩
set_option maxRecDepth 100000 in
theorem mm_q1 : mm_qP 1 := ⟨mm_rk1, (mm_tw5 58 rfl rfl), (mm_tw1 13 rfl rfl), fun h => absurd h (by decide +kernel), fun _ => ⟨(mm_tw5 57 rfl rfl), (mm_tp 38 (by decide +kernel) rfl), _, rfl, rfl, Nat.le_of_ble_eq_true rfl, Nat.le_of_ble_eq_true rfl⟩, rfl, Nat.le_of_ble_eq_true rfl, by decide +kernel, by decide +kernel, by decide +kernel, by decide +kernel⟩
set_option maxRecDepth 100000 in
theorem mm_q2 : mm_qP 2 := ⟨mm_rk2, (mm_tw5 64 rfl rfl), (mm_tw1 13 rfl rfl), fun _ => (mm_tw5 63 rfl rfl), fun h => absurd h (by decide +kernel), rfl, Nat.le_of_ble_eq_true rfl, by decide +kernel, by decide +kernel, by decide +kernel, by decide +kernel⟩
set_option maxRecDepth 100000 in
theorem mm_q3 : mm_qP 3 := ⟨mm_rk3, (mm_tw5 99 rfl rfl), (mm_tw1 13 rfl rfl), fun _ => (mm_tw5 98 rfl rfl), fun h => absurd h (by decide +kernel), rfl, Nat.le_of_ble_eq_true rfl, by decide +kernel, by decide +kernel, by decide +kernel, by decide +kernel⟩
set_option maxRecDepth 100000 in
theorem mm_q4 : mm_qP 4 := ⟨mm_rk4, (mm_tw5 79 rfl rfl), (mm_tw1 13 rfl rfl), fun h => absurd h (by decide +kernel), fun _ => ⟨(mm_tw5 78 rfl rfl), (mm_tp 39 (by decide +kernel) rfl), _, rfl, rfl, Nat.le_of_ble_eq_true rfl, Nat.le_of_ble_eq_true rfl⟩, rfl, Nat.le_of_ble_eq_true rfl, by decide +kernel, by decide +kernel, by decide +kernel, by decide +kernel⟩
set_option maxRecDepth 100000 in
theorem mm_q5 : mm_qP 5 := ⟨mm_rk5, (mm_tw5 91 rfl rfl), (mm_tw1 13 rfl rfl), fun h => absurd h (by decide +kernel), fun _ => ⟨(mm_tw5 90 rfl rfl), (mm_tp 41 (by decide +kernel) rfl), _, rfl, rfl, Nat.le_of_ble_eq_true rfl, Nat.le_of_ble_eq_true rfl⟩, rfl, Nat.le_of_ble_eq_true rfl, by decide +kernel, by decide +kernel, by decide +kernel, by decide +kernel⟩
set_option maxRecDepth 100000 in
theorem mm_q6 : mm_qP 6 := ⟨mm_rk6, (mm_tw5 85 rfl rfl), (mm_tw1 13 rfl rfl), fun h => absurd h (by decide +kernel), fun _ => ⟨(mm_tw5 84 rfl rfl), (mm_tp 40 (by decide +kernel) rfl), _, rfl, rfl, Nat.le_of_ble_eq_true rfl, Nat.le_of_ble_eq_true rfl⟩, rfl, Nat.le_of_ble_eq_true rfl, by decide +kernel, by decide +kernel, by decide +kernel, by decide +kernel⟩
set_option maxRecDepth 100000 in
theorem mm_q7 : mm_qP 7 := ⟨mm_rk7, (mm_tw5 104 rfl rfl), (mm_tw1 13 rfl rfl), fun h => absurd h (by decide +kernel), fun _ => ⟨(mm_tw5 102 rfl rfl), (mm_tw5 103 rfl rfl), _, rfl, rfl, Nat.le_of_ble_eq_true rfl, Nat.le_of_ble_eq_true rfl⟩, rfl, Nat.le_of_ble_eq_true rfl, by decide +kernel, by decide +kernel, by decide +kernel, by decide +kernel⟩
set_option maxRecDepth 100000 in
theorem mm_q8 : mm_qP 8 := ⟨mm_rk8, (mm_tw5 114 rfl rfl), (mm_tw1 13 rfl rfl), fun h => absurd h (by decide +kernel), fun _ => ⟨(mm_tw5 112 rfl rfl), (mm_tw5 113 rfl rfl), _, rfl, rfl, Nat.le_of_ble_eq_true rfl, Nat.le_of_ble_eq_true rfl⟩, rfl, Nat.le_of_ble_eq_true rfl, by decide +kernel, by decide +kernel, by decide +kernel, by decide +kernel⟩
set_option maxRecDepth 100000 in
theorem mm_q9 : mm_qP 9 := ⟨mm_rk9, (mm_tw4 70 rfl rfl), (mm_tw1 11 rfl rfl), fun h => absurd h (by decide +kernel), fun _ => ⟨(mm_tw4 68 rfl rfl), (mm_tw4 69 rfl rfl), _, rfl, rfl, Nat.le_of_ble_eq_true rfl, Nat.le_of_ble_eq_true rfl⟩, rfl, Nat.le_of_ble_eq_true rfl, by decide +kernel, by decide +kernel, by decide +kernel, by decide +kernel⟩
set_option maxRecDepth 100000 in
theorem mm_q10 : mm_qP 10 := ⟨mm_rk10, (mm_tw4 73 rfl rfl), (mm_tw1 11 rfl rfl), fun _ => (mm_tw4 72 rfl rfl), fun h => absurd h (by decide +kernel), rfl, Nat.le_of_ble_eq_true rfl, by decide +kernel, by decide +kernel, by decide +kernel, by decide +kernel⟩
set_option maxRecDepth 100000 in
theorem mm_q11 : mm_qP 11 := ⟨mm_rk11, (mm_tw4 81 rfl rfl), (mm_tw1 11 rfl rfl), fun _ => (mm_tw4 80 rfl rfl), fun h => absurd h (by decide +kernel), rfl, Nat.le_of_ble_eq_true rfl, by decide +kernel, by decide +kernel, by decide +kernel, by decide +kernel⟩
set_option maxRecDepth 100000 in
theorem mm_q12 : mm_qP 12 := ⟨mm_rk12, (mm_tw4 86 rfl rfl), (mm_tw1 11 rfl rfl), fun h => absurd h (by decide +kernel), fun _ => ⟨(mm_tw4 85 rfl rfl), (mm_tp 24 (by decide +kernel) rfl), _, rfl, rfl, Nat.le_of_ble_eq_true rfl, Nat.le_of_ble_eq_true rfl⟩, rfl, Nat.le_of_ble_eq_true rfl, by decide +kernel, by decide +kernel, by decide +kernel, by decide +kernel⟩
set_option maxRecDepth 100000 in
theorem mm_q13 : mm_qP 13 := ⟨mm_rk13, (mm_tw4 90 rfl rfl), (mm_tw1 11 rfl rfl), fun h => absurd h (by decide +kernel), fun _ => ⟨(mm_tw4 89 rfl rfl), (mm_tp 25 (by decide +kernel) rfl), _, rfl, rfl, Nat.le_of_ble_eq_true rfl, Nat.le_of_ble_eq_true rfl⟩, rfl, Nat.le_of_ble_eq_true rfl, by decide +kernel, by decide +kernel, by decide +kernel, by decide +kernel⟩
set_option maxRecDepth 100000 in
theorem mm_q14 : mm_qP 14 := ⟨mm_rk14, (mm_tw4 94 rfl rfl), (mm_tw1 11 rfl rfl), fun h => absurd h (by decide +kernel), fun _ => ⟨(mm_tw4 93 rfl rfl), (mm_tp 26 (by decide +kernel) rfl), _, rfl, rfl, Nat.le_of_ble_eq_true rfl, Nat.le_of_ble_eq_true rfl⟩, rfl, Nat.le_of_ble_eq_true rfl, by decide +kernel, by decide +kernel, by decide +kernel, by decide +kernel⟩
set_option maxRecDepth 100000 in
theorem mm_q15 : mm_qP 15 := ⟨mm_rk15, (mm_tw3 101 rfl rfl), (mm_tw1 8 rfl rfl), fun h => absurd h (by decide +kernel), fun _ => ⟨(mm_tw3 99 rfl rfl), (mm_tw3 100 rfl rfl), _, rfl, rfl, Nat.le_of_ble_eq_true rfl, Nat.le_of_ble_eq_true rfl⟩, rfl, Nat.le_of_ble_eq_true rfl, by decide +kernel, by decide +kernel, by decide +kernel, by decide +kernel⟩
set_option maxRecDepth 100000 in
theorem mm_q16 : mm_qP 16 := ⟨mm_rk16, (mm_tw3 169 rfl rfl), (mm_tw1 8 rfl rfl), fun h => absurd h (by decide +kernel), fun _ => ⟨(mm_tw3 167 rfl rfl), (mm_tw3 168 rfl rfl), _, rfl, rfl, Nat.le_of_ble_eq_true rfl, Nat.le_of_ble_eq_true rfl⟩, rfl, Nat.le_of_ble_eq_true rfl, by decide +kernel, by decide +kernel, by decide +kernel, by decide +kernel⟩
set_option maxRecDepth 100000 in
theorem mm_q17 : mm_qP 17 := ⟨mm_rk17, (mm_tw3 201 rfl rfl), (mm_tw1 8 rfl rfl), fun h => absurd h (by decide +kernel), fun _ => ⟨(mm_tw3 199 rfl rfl), (mm_tw3 200 rfl rfl), _, rfl, rfl, Nat.le_of_ble_eq_true rfl, Nat.le_of_ble_eq_true rfl⟩, rfl, Nat.le_of_ble_eq_true rfl, by decide +kernel, by decide +kernel, by decide +kernel, by decide +kernel⟩
set_option maxRecDepth 100000 in
theorem mm_q18 : mm_qP 18 := ⟨mm_rk18, (mm_tw3 137 rfl rfl), (mm_tw1 8 rfl rfl), fun h => absurd h (by decide +kernel), fun _ => ⟨(mm_tw3 135 rfl rfl), (mm_tw3 136 rfl rfl), _, rfl, rfl, Nat.le_of_ble_eq_true rfl, Nat.le_of_ble_eq_true rfl⟩, rfl, Nat.le_of_ble_eq_true rfl, by decide +kernel, by decide +kernel, by decide +kernel, by decide +kernel⟩
set_option maxRecDepth 100000 in
theorem mm_q19 : mm_qP 19 := ⟨mm_rk19, (mm_tw3 217 rfl rfl), (mm_tw1 8 rfl rfl), fun h => absurd h (by decide +kernel), fun _ => ⟨(mm_tw3 215 rfl rfl), (mm_tw3 216 rfl rfl), _, rfl, rfl, Nat.le_of_ble_eq_true rfl, Nat.le_of_ble_eq_true rfl⟩, rfl, Nat.le_of_ble_eq_true rfl, by decide +kernel, by decide +kernel, by decide +kernel, by decide +kernel⟩
set_option maxRecDepth 100000 in
theorem mm_q20 : mm_qP 20 := ⟨mm_rk20, (mm_tw3 145 rfl rfl), (mm_tw1 8 rfl rfl), fun h => absurd h (by decide +kernel), fun _ => ⟨(mm_tw3 143 rfl rfl), (mm_tw3 144 rfl rfl), _, rfl, rfl, Nat.le_of_ble_eq_true rfl, Nat.le_of_ble_eq_true rfl⟩, rfl, Nat.le_of_ble_eq_true rfl, by decide +kernel, by decide +kernel, by decide +kernel, by decide +kernel⟩
set_option maxRecDepth 100000 in
theorem mm_q21 : mm_qP 21 := ⟨mm_rk21, (mm_tw3 141 rfl rfl), (mm_tw1 8 rfl rfl), fun h => absurd h (by decide +kernel), fun _ => ⟨(mm_tw3 139 rfl rfl), (mm_tw3 140 rfl rfl), _, rfl, rfl, Nat.le_of_ble_eq_true rfl, Nat.le_of_ble_eq_true rfl⟩, rfl, Nat.le_of_ble_eq_true rfl, by decide +kernel, by decide +kernel, by decide +kernel, by decide +kernel⟩
set_option maxRecDepth 100000 in
theorem mm_q22 : mm_qP 22 := ⟨mm_rk22, (mm_tw3 133 rfl rfl), (mm_tw1 8 rfl rfl), fun h => absurd h (by decide +kernel), fun _ => ⟨(mm_tw3 131 rfl rfl), (mm_tw3 132 rfl rfl), _, rfl, rfl, Nat.le_of_ble_eq_true rfl, Nat.le_of_ble_eq_true rfl⟩, rfl, Nat.le_of_ble_eq_true rfl, by decide +kernel, by decide +kernel, by decide +kernel, by decide +kernel⟩
set_option maxRecDepth 100000 in
theorem mm_q23 : mm_qP 23 := ⟨mm_rk23, (mm_tw5 207 rfl rfl), (mm_tw1 8 rfl rfl), fun h => absurd h (by decide +kernel), fun _ => ⟨(mm_tw5 205 rfl rfl), (mm_tw5 206 rfl rfl), _, rfl, rfl, Nat.le_of_ble_eq_true rfl, Nat.le_of_ble_eq_true rfl⟩, rfl, Nat.le_of_ble_eq_true rfl, by decide +kernel, by decide +kernel, by decide +kernel, by decide +kernel⟩
set_option maxRecDepth 100000 in
theorem mm_q24 : mm_qP 24 := ⟨mm_rk24, (mm_tw4 45 rfl rfl), (mm_tw1 8 rfl rfl), fun h => absurd h (by decide +kernel), fun _ => ⟨(mm_tw4 43 rfl rfl), (mm_tw4 44 rfl rfl), _, rfl, rfl, Nat.le_of_ble_eq_true rfl, Nat.le_of_ble_eq_true rfl⟩, rfl, Nat.le_of_ble_eq_true rfl, by decide +kernel, by decide +kernel, by decide +kernel, by decide +kernel⟩
set_option maxRecDepth 100000 in
theorem mm_q25 : mm_qP 25 := ⟨mm_rk25, (mm_tw3 209 rfl rfl), (mm_tw1 8 rfl rfl), fun h => absurd h (by decide +kernel), fun _ => ⟨(mm_tw3 208 rfl rfl), (mm_tp 19 (by decide +kernel) rfl), _, rfl, rfl, Nat.le_of_ble_eq_true rfl, Nat.le_of_ble_eq_true rfl⟩, rfl, Nat.le_of_ble_eq_true rfl, by decide +kernel, by decide +kernel, by decide +kernel, by decide +kernel⟩
set_option maxRecDepth 100000 in
theorem mm_q26 : mm_qP 26 := ⟨mm_rk26, (mm_tw3 174 rfl rfl), (mm_tw1 8 rfl rfl), fun h => absurd h (by decide +kernel), fun _ => ⟨(mm_tw3 172 rfl rfl), (mm_tw3 173 rfl rfl), _, rfl, rfl, Nat.le_of_ble_eq_true rfl, Nat.le_of_ble_eq_true rfl⟩, rfl, Nat.le_of_ble_eq_true rfl, by decide +kernel, by decide +kernel, by decide +kernel, by decide +kernel⟩
set_option maxRecDepth 100000 in
theorem mm_q27 : mm_qP 27 := ⟨mm_rk27, (mm_tw3 178 rfl rfl), (mm_tw1 8 rfl rfl), fun h => absurd h (by decide +kernel), fun _ => ⟨(mm_tw3 177 rfl rfl), (mm_tp 13 (by decide +kernel) rfl), _, rfl, rfl, Nat.le_of_ble_eq_true rfl, Nat.le_of_ble_eq_true rfl⟩, rfl, Nat.le_of_ble_eq_true rfl, by decide +kernel, by decide +kernel, by decide +kernel, by decide +kernel⟩
set_option maxRecDepth 100000 in
theorem mm_q28 : mm_qP 28 := ⟨mm_rk28, (mm_tw3 185 rfl rfl), (mm_tw1 8 rfl rfl), fun h => absurd h (by decide +kernel), fun _ => ⟨(mm_tw3 184 rfl rfl), (mm_tp 14 (by decide +kernel) rfl), _, rfl, rfl, Nat.le_of_ble_eq_true rfl, Nat.le_of_ble_eq_true rfl⟩, rfl, Nat.le_of_ble_eq_true rfl, by decide +kernel, by decide +kernel, by decide +kernel, by decide +kernel⟩
set_option maxRecDepth 100000 in
theorem mm_q29 : mm_qP 29 := ⟨mm_rk29, (mm_tw3 189 rfl rfl), (mm_tw1 8 rfl rfl), fun h => absurd h (by decide +kernel), fun _ => ⟨(mm_tw3 188 rfl rfl), (mm_tp 15 (by decide +kernel) rfl), _, rfl, rfl, Nat.le_of_ble_eq_true rfl, Nat.le_of_ble_eq_true rfl⟩, rfl, Nat.le_of_ble_eq_true rfl, by decide +kernel, by decide +kernel, by decide +kernel, by decide +kernel⟩
set_option maxRecDepth 100000 in
theorem mm_q30 : mm_qP 30 := ⟨mm_rk30, (mm_tw3 193 rfl rfl), (mm_tw1 8 rfl rfl), fun h => absurd h (by decide +kernel), fun _ => ⟨(mm_tw3 192 rfl rfl), (mm_tp 16 (by decide +kernel) rfl), _, rfl, rfl, Nat.le_of_ble_eq_true rfl, Nat.le_of_ble_eq_true rfl⟩, rfl, Nat.le_of_ble_eq_true rfl, by decide +kernel, by decide +kernel, by decide +kernel, by decide +kernel⟩
set_option maxRecDepth 100000 in
theorem mm_q31 : mm_qP 31 := ⟨mm_rk31, (mm_tw3 197 rfl rfl), (mm_tw1 8 rfl rfl), fun h => absurd h (by decide +kernel), fun _ => ⟨(mm_tw3 196 rfl rfl), (mm_tp 17 (by decide +kernel) rfl), _, rfl, rfl, Nat.le_of_ble_eq_true rfl, Nat.le_of_ble_eq_true rfl⟩, rfl, Nat.le_of_ble_eq_true rfl, by decide +kernel, by decide +kernel, by decide +kernel, by decide +kernel⟩
set_option maxRecDepth 100000 in
theorem mm_q32 : mm_qP 32 := ⟨mm_rk32, (mm_tw3 205 rfl rfl), (mm_tw1 8 rfl rfl), fun h => absurd h (by decide +kernel), fun _ => ⟨(mm_tw3 204 rfl rfl), (mm_tp 18 (by decide +kernel) rfl), _, rfl, rfl, Nat.le_of_ble_eq_true rfl, Nat.le_of_ble_eq_true rfl⟩, rfl, Nat.le_of_ble_eq_true rfl, by decide +kernel, by decide +kernel, by decide +kernel, by decide +kernel⟩
set_option maxRecDepth 100000 in
theorem mm_q33 : mm_qP 33 := ⟨mm_rk33, (mm_tw3 213 rfl rfl), (mm_tw1 8 rfl rfl), fun h => absurd h (by decide +kernel), fun _ => ⟨(mm_tw3 212 rfl rfl), (mm_tp 20 (by decide +kernel) rfl), _, rfl, rfl, Nat.le_of_ble_eq_true rfl, Nat.le_of_ble_eq_true rfl⟩, rfl, Nat.le_of_ble_eq_true rfl, by decide +kernel, by decide +kernel, by decide +kernel, by decide +kernel⟩
set_option maxRecDepth 100000 in
theorem mm_q34 : mm_qP 34 := ⟨mm_rk34, (mm_tw3 221 rfl rfl), (mm_tw1 8 rfl rfl), fun h => absurd h (by decide +kernel), fun _ => ⟨(mm_tw3 220 rfl rfl), (mm_tp 21 (by decide +kernel) rfl), _, rfl, rfl, Nat.le_of_ble_eq_true rfl, Nat.le_of_ble_eq_true rfl⟩, rfl, Nat.le_of_ble_eq_true rfl, by decide +kernel, by decide +kernel, by decide +kernel, by decide +kernel⟩
set_option maxRecDepth 100000 in
theorem mm_q35 : mm_qP 35 := ⟨mm_rk35, (mm_tw3 225 rfl rfl), (mm_tw1 8 rfl rfl), fun h => absurd h (by decide +kernel), fun _ => ⟨(mm_tw3 224 rfl rfl), (mm_tp 22 (by decide +kernel) rfl), _, rfl, rfl, Nat.le_of_ble_eq_true rfl, Nat.le_of_ble_eq_true rfl⟩, rfl, Nat.le_of_ble_eq_true rfl, by decide +kernel, by decide +kernel, by decide +kernel, by decide +kernel⟩
set_option maxRecDepth 100000 in
theorem mm_q36 : mm_qP 36 := ⟨mm_rk36, (mm_tw4 57 rfl rfl), (mm_tw1 8 rfl rfl), fun h => absurd h (by decide +kernel), fun _ => ⟨(mm_tw4 55 rfl rfl), (mm_tw4 56 rfl rfl), _, rfl, rfl, Nat.le_of_ble_eq_true rfl, Nat.le_of_ble_eq_true rfl⟩, rfl, Nat.le_of_ble_eq_true rfl, by decide +kernel, by decide +kernel, by decide +kernel, by decide +kernel⟩
set_option maxRecDepth 100000 in
theorem mm_q37 : mm_qP 37 := ⟨mm_rk37, (mm_tw4 152 rfl rfl), (mm_tw1 8 rfl rfl), fun h => absurd h (by decide +kernel), fun _ => ⟨(mm_tw4 150 rfl rfl), (mm_tw4 151 rfl rfl), _, rfl, rfl, Nat.le_of_ble_eq_true rfl, Nat.le_of_ble_eq_true rfl⟩, rfl, Nat.le_of_ble_eq_true rfl, by decide +kernel, by decide +kernel, by decide +kernel, by decide +kernel⟩
set_option maxRecDepth 100000 in
theorem mm_q38 : mm_qP 38 := ⟨mm_rk38, (mm_tw5 25 rfl rfl), (mm_tw1 8 rfl rfl), fun h => absurd h (by decide +kernel), fun _ => ⟨(mm_tw5 23 rfl rfl), (mm_tw5 24 rfl rfl), _, rfl, rfl, Nat.le_of_ble_eq_true rfl, Nat.le_of_ble_eq_true rfl⟩, rfl, Nat.le_of_ble_eq_true rfl, by decide +kernel, by decide +kernel, by decide +kernel, by decide +kernel⟩
set_option maxRecDepth 100000 in
theorem mm_q39 : mm_qP 39 := ⟨mm_rk39, (mm_tw5 29 rfl rfl), (mm_tw1 8 rfl rfl), fun h => absurd h (by decide +kernel), fun _ => ⟨(mm_tw5 28 rfl rfl), (mm_tp 36 (by decide +kernel) rfl), _, rfl, rfl, Nat.le_of_ble_eq_true rfl, Nat.le_of_ble_eq_true rfl⟩, rfl, Nat.le_of_ble_eq_true rfl, by decide +kernel, by decide +kernel, by decide +kernel, by decide +kernel⟩
set_option maxRecDepth 100000 in
theorem mm_q40 : mm_qP 40 := ⟨mm_rk40, (mm_tw5 41 rfl rfl), (mm_tw1 8 rfl rfl), fun h => absurd h (by decide +kernel), fun _ => ⟨(mm_tw5 40 rfl rfl), (mm_tp 37 (by decide +kernel) rfl), _, rfl, rfl, Nat.le_of_ble_eq_true rfl, Nat.le_of_ble_eq_true rfl⟩, rfl, Nat.le_of_ble_eq_true rfl, by decide +kernel, by decide +kernel, by decide +kernel, by decide +kernel⟩
set_option maxRecDepth 100000 in
theorem mm_q41 : mm_qP 41 := ⟨mm_rk41, (mm_tw5 32 rfl rfl), (mm_tw1 8 rfl rfl), fun _ => (mm_tw5 31 rfl rfl), fun h => absurd h (by decide +kernel), rfl, Nat.le_of_ble_eq_true rfl, by decide +kernel, by decide +kernel, by decide +kernel, by decide +kernel⟩
set_option maxRecDepth 100000 in
theorem mm_q42 : mm_qP 42 := ⟨mm_rk42, (mm_tw5 36 rfl rfl), (mm_tw1 8 rfl rfl), fun _ => (mm_tw5 35 rfl rfl), fun h => absurd h (by decide +kernel), rfl, Nat.le_of_ble_eq_true rfl, by decide +kernel, by decide +kernel, by decide +kernel, by decide +kernel⟩
set_option maxRecDepth 100000 in
theorem mm_q43 : mm_qP 43 := ⟨mm_rk43, (mm_tw4 160 rfl rfl), (mm_tw1 8 rfl rfl), fun h => absurd h (by decide +kernel), fun _ => ⟨(mm_tw4 158 rfl rfl), (mm_tw4 159 rfl rfl), _, rfl, rfl, Nat.le_of_ble_eq_true rfl, Nat.le_of_ble_eq_true rfl⟩, rfl, Nat.le_of_ble_eq_true rfl, by decide +kernel, by decide +kernel, by decide +kernel, by decide +kernel⟩
set_option maxRecDepth 100000 in
theorem mm_q44 : mm_qP 44 := ⟨mm_rk44, (mm_tw4 164 rfl rfl), (mm_tw1 8 rfl rfl), fun h => absurd h (by decide +kernel), fun _ => ⟨(mm_tw4 163 rfl rfl), (mm_tp 30 (by decide +kernel) rfl), _, rfl, rfl, Nat.le_of_ble_eq_true rfl, Nat.le_of_ble_eq_true rfl⟩, rfl, Nat.le_of_ble_eq_true rfl, by decide +kernel, by decide +kernel, by decide +kernel, by decide +kernel⟩
set_option maxRecDepth 100000 in
theorem mm_q45 : mm_qP 45 := ⟨mm_rk45, (mm_tw4 168 rfl rfl), (mm_tw1 8 rfl rfl), fun h => absurd h (by decide +kernel), fun _ => ⟨(mm_tw4 167 rfl rfl), (mm_tp 31 (by decide +kernel) rfl), _, rfl, rfl, Nat.le_of_ble_eq_true rfl, Nat.le_of_ble_eq_true rfl⟩, rfl, Nat.le_of_ble_eq_true rfl, by decide +kernel, by decide +kernel, by decide +kernel, by decide +kernel⟩
set_option maxRecDepth 100000 in
theorem mm_q46 : mm_qP 46 := ⟨mm_rk46, (mm_tw3 117 rfl rfl), (mm_tw1 10 rfl rfl), fun h => absurd h (by decide +kernel), fun _ => ⟨(mm_tw3 115 rfl rfl), (mm_tw3 116 rfl rfl), _, rfl, rfl, Nat.le_of_ble_eq_true rfl, Nat.le_of_ble_eq_true rfl⟩, rfl, Nat.le_of_ble_eq_true rfl, by decide +kernel, by decide +kernel, by decide +kernel, by decide +kernel⟩
set_option maxRecDepth 100000 in
theorem mm_q47 : mm_qP 47 := ⟨mm_rk47, (mm_tw4 0 rfl rfl), (mm_tw1 10 rfl rfl), fun h => absurd h (by decide +kernel), fun _ => ⟨(mm_tw3 238 rfl rfl), (mm_tw3 239 rfl rfl), _, rfl, rfl, Nat.le_of_ble_eq_true rfl, Nat.le_of_ble_eq_true rfl⟩, rfl, Nat.le_of_ble_eq_true rfl, by decide +kernel, by decide +kernel, by decide +kernel, by decide +kernel⟩
set_option maxRecDepth 100000 in
theorem mm_q48 : mm_qP 48 := ⟨mm_rk48, (mm_tw4 37 rfl rfl), (mm_tw1 10 rfl rfl), fun h => absurd h (by decide +kernel), fun _ => ⟨(mm_tw4 35 rfl rfl), (mm_tw4 36 rfl rfl), _, rfl, rfl, Nat.le_of_ble_eq_true rfl, Nat.le_of_ble_eq_true rfl⟩, rfl, Nat.le_of_ble_eq_true rfl, by decide +kernel, by decide +kernel, by decide +kernel, by decide +kernel⟩
set_option maxRecDepth 100000 in
theorem mm_q49 : mm_qP 49 := ⟨mm_rk49, (mm_tw2 221 rfl rfl), (mm_tw1 6 rfl rfl), fun h => absurd h (by decide +kernel), fun _ => ⟨(mm_tw2 219 rfl rfl), (mm_tw2 220 rfl rfl), _, rfl, rfl, Nat.le_of_ble_eq_true rfl, Nat.le_of_ble_eq_true rfl⟩, rfl, Nat.le_of_ble_eq_true rfl, by decide +kernel, by decide +kernel, by decide +kernel, by decide +kernel⟩
set_option maxRecDepth 100000 in
theorem mm_q50 : mm_qP 50 := ⟨mm_rk50, (mm_tw3 94 rfl rfl), (mm_tw1 6 rfl rfl), fun h => absurd h (by decide +kernel), fun _ => ⟨(mm_tw3 92 rfl rfl), (mm_tw3 93 rfl rfl), _, rfl, rfl, Nat.le_of_ble_eq_true rfl, Nat.le_of_ble_eq_true rfl⟩, rfl, Nat.le_of_ble_eq_true rfl, by decide +kernel, by decide +kernel, by decide +kernel, by decide +kernel⟩
set_option maxRecDepth 100000 in
theorem mm_q51 : mm_qP 51 := ⟨mm_rk51, (mm_tw3 129 rfl rfl), (mm_tw1 6 rfl rfl), fun h => absurd h (by decide +kernel), fun _ => ⟨(mm_tw3 127 rfl rfl), (mm_tw3 128 rfl rfl), _, rfl, rfl, Nat.le_of_ble_eq_true rfl, Nat.le_of_ble_eq_true rfl⟩, rfl, Nat.le_of_ble_eq_true rfl, by decide +kernel, by decide +kernel, by decide +kernel, by decide +kernel⟩
set_option maxRecDepth 100000 in
theorem mm_q52 : mm_qP 52 := ⟨mm_rk52, (mm_tw3 26 rfl rfl), (mm_tw1 6 rfl rfl), fun h => absurd h (by decide +kernel), fun _ => ⟨(mm_tw3 24 rfl rfl), (mm_tw3 25 rfl rfl), _, rfl, rfl, Nat.le_of_ble_eq_true rfl, Nat.le_of_ble_eq_true rfl⟩, rfl, Nat.le_of_ble_eq_true rfl, by decide +kernel, by decide +kernel, by decide +kernel, by decide +kernel⟩
set_option maxRecDepth 100000 in
theorem mm_q53 : mm_qP 53 := ⟨mm_rk53, (mm_tw4 125 rfl rfl), (mm_tw1 6 rfl rfl), fun h => absurd h (by decide +kernel), fun _ => ⟨(mm_tw4 123 rfl rfl), (mm_tw4 124 rfl rfl), _, rfl, rfl, Nat.le_of_ble_eq_true rfl, Nat.le_of_ble_eq_true rfl⟩, rfl, Nat.le_of_ble_eq_true rfl, by decide +kernel, by decide +kernel, by decide +kernel, by decide +kernel⟩
set_option maxRecDepth 100000 in
theorem mm_q54 : mm_qP 54 := ⟨mm_rk54, (mm_tw3 109 rfl rfl), (mm_tw1 6 rfl rfl), fun h => absurd h (by decide +kernel), fun _ => ⟨(mm_tw3 107 rfl rfl), (mm_tw3 108 rfl rfl), _, rfl, rfl, Nat.le_of_ble_eq_true rfl, Nat.le_of_ble_eq_true rfl⟩, rfl, Nat.le_of_ble_eq_true rfl, by decide +kernel, by decide +kernel, by decide +kernel, by decide +kernel⟩
set_option maxRecDepth 100000 in
theorem mm_q55 : mm_qP 55 := ⟨mm_rk55, (mm_tw3 105 rfl rfl), (mm_tw1 6 rfl rfl), fun h => absurd h (by decide +kernel), fun _ => ⟨(mm_tw3 103 rfl rfl), (mm_tw3 104 rfl rfl), _, rfl, rfl, Nat.le_of_ble_eq_true rfl, Nat.le_of_ble_eq_true rfl⟩, rfl, Nat.le_of_ble_eq_true rfl, by decide +kernel, by decide +kernel, by decide +kernel, by decide +kernel⟩
set_option maxRecDepth 100000 in
theorem mm_q56 : mm_qP 56 := ⟨mm_rk56, (mm_tw3 41 rfl rfl), (mm_tw1 6 rfl rfl), fun h => absurd h (by decide +kernel), fun _ => ⟨(mm_tw3 39 rfl rfl), (mm_tw3 40 rfl rfl), _, rfl, rfl, Nat.le_of_ble_eq_true rfl, Nat.le_of_ble_eq_true rfl⟩, rfl, Nat.le_of_ble_eq_true rfl, by decide +kernel, by decide +kernel, by decide +kernel, by decide +kernel⟩
set_option maxRecDepth 100000 in
theorem mm_q57 : mm_qP 57 := ⟨mm_rk57, (mm_tw4 184 rfl rfl), (mm_tw1 6 rfl rfl), fun h => absurd h (by decide +kernel), fun _ => ⟨(mm_tw4 182 rfl rfl), (mm_tw4 183 rfl rfl), _, rfl, rfl, Nat.le_of_ble_eq_true rfl, Nat.le_of_ble_eq_true rfl⟩, rfl, Nat.le_of_ble_eq_true rfl, by decide +kernel, by decide +kernel, by decide +kernel, by decide +kernel⟩
set_option maxRecDepth 100000 in
theorem mm_q58 : mm_qP 58 := ⟨mm_rk58, (mm_tw3 37 rfl rfl), (mm_tw1 6 rfl rfl), fun h => absurd h (by decide +kernel), fun _ => ⟨(mm_tw3 35 rfl rfl), (mm_tw3 36 rfl rfl), _, rfl, rfl, Nat.le_of_ble_eq_true rfl, Nat.le_of_ble_eq_true rfl⟩, rfl, Nat.le_of_ble_eq_true rfl, by decide +kernel, by decide +kernel, by decide +kernel, by decide +kernel⟩
set_option maxRecDepth 100000 in
theorem mm_q59 : mm_qP 59 := ⟨mm_rk59, (mm_tw3 33 rfl rfl), (mm_tw1 6 rfl rfl), fun h => absurd h (by decide +kernel), fun _ => ⟨(mm_tw3 31 rfl rfl), (mm_tw3 32 rfl rfl), _, rfl, rfl, Nat.le_of_ble_eq_true rfl, Nat.le_of_ble_eq_true rfl⟩, rfl, Nat.le_of_ble_eq_true rfl, by decide +kernel, by decide +kernel, by decide +kernel, by decide +kernel⟩
set_option maxRecDepth 100000 in
theorem mm_q60 : mm_qP 60 := ⟨mm_rk60, (mm_tw3 229 rfl rfl), (mm_tw1 6 rfl rfl), fun h => absurd h (by decide +kernel), fun _ => ⟨(mm_tw3 227 rfl rfl), (mm_tw3 228 rfl rfl), _, rfl, rfl, Nat.le_of_ble_eq_true rfl, Nat.le_of_ble_eq_true rfl⟩, rfl, Nat.le_of_ble_eq_true rfl, by decide +kernel, by decide +kernel, by decide +kernel, by decide +kernel⟩
set_option maxRecDepth 100000 in
theorem mm_q61 : mm_qP 61 := ⟨mm_rk61, (mm_tw4 117 rfl rfl), (mm_tw1 12 rfl rfl), fun h => absurd h (by decide +kernel), fun _ => ⟨(mm_tw4 115 rfl rfl), (mm_tw4 116 rfl rfl), _, rfl, rfl, Nat.le_of_ble_eq_true rfl, Nat.le_of_ble_eq_true rfl⟩, rfl, Nat.le_of_ble_eq_true rfl, by decide +kernel, by decide +kernel, by decide +kernel, by decide +kernel⟩
set_option maxRecDepth 100000 in
theorem mm_q62 : mm_qP 62 := ⟨mm_rk62, (mm_tw4 121 rfl rfl), (mm_tw1 12 rfl rfl), fun h => absurd h (by decide +kernel), fun _ => ⟨(mm_tw4 120 rfl rfl), (mm_tp 27 (by decide +kernel) rfl), _, rfl, rfl, Nat.le_of_ble_eq_true rfl, Nat.le_of_ble_eq_true rfl⟩, rfl, Nat.le_of_ble_eq_true rfl, by decide +kernel, by decide +kernel, by decide +kernel, by decide +kernel⟩
set_option maxRecDepth 100000 in
theorem mm_q63 : mm_qP 63 := ⟨mm_rk63, (mm_tw4 129 rfl rfl), (mm_tw1 12 rfl rfl), fun h => absurd h (by decide +kernel), fun _ => ⟨(mm_tw4 128 rfl rfl), (mm_tp 28 (by decide +kernel) rfl), _, rfl, rfl, Nat.le_of_ble_eq_true rfl, Nat.le_of_ble_eq_true rfl⟩, rfl, Nat.le_of_ble_eq_true rfl, by decide +kernel, by decide +kernel, by decide +kernel, by decide +kernel⟩
set_option maxRecDepth 100000 in
theorem mm_q64 : mm_qP 64 := ⟨mm_rk64, (mm_tw4 133 rfl rfl), (mm_tw1 12 rfl rfl), fun h => absurd h (by decide +kernel), fun _ => ⟨(mm_tw4 132 rfl rfl), (mm_tp 29 (by decide +kernel) rfl), _, rfl, rfl, Nat.le_of_ble_eq_true rfl, Nat.le_of_ble_eq_true rfl⟩, rfl, Nat.le_of_ble_eq_true rfl, by decide +kernel, by decide +kernel, by decide +kernel, by decide +kernel⟩
set_option maxRecDepth 100000 in
theorem mm_q65 : mm_qP 65 := ⟨mm_rk65, (mm_tw3 90 rfl rfl), (mm_tw1 7 rfl rfl), fun h => absurd h (by decide +kernel), fun _ => ⟨(mm_tw3 88 rfl rfl), (mm_tw3 89 rfl rfl), _, rfl, rfl, Nat.le_of_ble_eq_true rfl, Nat.le_of_ble_eq_true rfl⟩, rfl, Nat.le_of_ble_eq_true rfl, by decide +kernel, by decide +kernel, by decide +kernel, by decide +kernel⟩
set_option maxRecDepth 100000 in
theorem mm_q66 : mm_qP 66 := ⟨mm_rk66, (mm_tw5 226 rfl rfl), (mm_tw1 7 rfl rfl), fun h => absurd h (by decide +kernel), fun _ => ⟨(mm_tw5 224 rfl rfl), (mm_tw5 225 rfl rfl), _, rfl, rfl, Nat.le_of_ble_eq_true rfl, Nat.le_of_ble_eq_true rfl⟩, rfl, Nat.le_of_ble_eq_true rfl, by decide +kernel, by decide +kernel, by decide +kernel, by decide +kernel⟩
set_option maxRecDepth 100000 in
theorem mm_q67 : mm_qP 67 := ⟨mm_rk67, (mm_tw3 113 rfl rfl), (mm_tw1 9 rfl rfl), fun h => absurd h (by decide +kernel), fun _ => ⟨(mm_tw3 111 rfl rfl), (mm_tw3 112 rfl rfl), _, rfl, rfl, Nat.le_of_ble_eq_true rfl, Nat.le_of_ble_eq_true rfl⟩, rfl, Nat.le_of_ble_eq_true rfl, by decide +kernel, by decide +kernel, by decide +kernel, by decide +kernel⟩
set_option maxRecDepth 100000 in
theorem mm_q68 : mm_qP 68 := ⟨mm_rk68, (mm_tw5 194 rfl rfl), (mm_tw1 9 rfl rfl), fun h => absurd h (by decide +kernel), fun _ => ⟨(mm_tw5 192 rfl rfl), (mm_tw5 193 rfl rfl), _, rfl, rfl, Nat.le_of_ble_eq_true rfl, Nat.le_of_ble_eq_true rfl⟩, rfl, Nat.le_of_ble_eq_true rfl, by decide +kernel, by decide +kernel, by decide +kernel, by decide +kernel⟩
set_option maxRecDepth 100000 in
theorem mm_q69 : mm_qP 69 := ⟨mm_rk69, (mm_tw5 186 rfl rfl), (mm_tw1 9 rfl rfl), fun h => absurd h (by decide +kernel), fun _ => ⟨(mm_tw5 184 rfl rfl), (mm_tw5 185 rfl rfl), _, rfl, rfl, Nat.le_of_ble_eq_true rfl, Nat.le_of_ble_eq_true rfl⟩, rfl, Nat.le_of_ble_eq_true rfl, by decide +kernel, by decide +kernel, by decide +kernel, by decide +kernel⟩
set_option maxRecDepth 100000 in
theorem mm_q70 : mm_qP 70 := ⟨mm_rk70, (mm_tw5 122 rfl rfl), (mm_tw1 9 rfl rfl), fun h => absurd h (by decide +kernel), fun _ => ⟨(mm_tw5 120 rfl rfl), (mm_tw5 121 rfl rfl), _, rfl, rfl, Nat.le_of_ble_eq_true rfl, Nat.le_of_ble_eq_true rfl⟩, rfl, Nat.le_of_ble_eq_true rfl, by decide +kernel, by decide +kernel, by decide +kernel, by decide +kernel⟩
set_option maxRecDepth 100000 in
theorem mm_q71 : mm_qP 71 := ⟨mm_rk71, (mm_tw5 127 rfl rfl), (mm_tw1 9 rfl rfl), fun h => absurd h (by decide +kernel), fun _ => ⟨(mm_tw5 126 rfl rfl), (mm_tp 42 (by decide +kernel) rfl), _, rfl, rfl, Nat.le_of_ble_eq_true rfl, Nat.le_of_ble_eq_true rfl⟩, rfl, Nat.le_of_ble_eq_true rfl, by decide +kernel, by decide +kernel, by decide +kernel, by decide +kernel⟩
set_option maxRecDepth 100000 in
theorem mm_q72 : mm_qP 72 := ⟨mm_rk72, (mm_tw5 131 rfl rfl), (mm_tw1 9 rfl rfl), fun h => absurd h (by decide +kernel), fun _ => ⟨(mm_tw5 130 rfl rfl), (mm_tp 43 (by decide +kernel) rfl), _, rfl, rfl, Nat.le_of_ble_eq_true rfl, Nat.le_of_ble_eq_true rfl⟩, rfl, Nat.le_of_ble_eq_true rfl, by decide +kernel, by decide +kernel, by decide +kernel, by decide +kernel⟩
set_option maxRecDepth 100000 in
theorem mm_q73 : mm_qP 73 := ⟨mm_rk73, (mm_tw5 135 rfl rfl), (mm_tw1 9 rfl rfl), fun h => absurd h (by decide +kernel), fun _ => ⟨(mm_tw5 134 rfl rfl), (mm_tp 44 (by decide +kernel) rfl), _, rfl, rfl, Nat.le_of_ble_eq_true rfl, Nat.le_of_ble_eq_true rfl⟩, rfl, Nat.le_of_ble_eq_true rfl, by decide +kernel, by decide +kernel, by decide +kernel, by decide +kernel⟩
set_option maxRecDepth 100000 in
theorem mm_q74 : mm_qP 74 := ⟨mm_rk74, (mm_tw5 138 rfl rfl), (mm_tw1 9 rfl rfl), fun _ => (mm_tw5 137 rfl rfl), fun h => absurd h (by decide +kernel), rfl, Nat.le_of_ble_eq_true rfl, by decide +kernel, by decide +kernel, by decide +kernel, by decide +kernel⟩
set_option maxRecDepth 100000 in
theorem mm_q75 : mm_qP 75 := ⟨mm_rk75, (mm_tw5 170 rfl rfl), (mm_tw1 9 rfl rfl), fun _ => (mm_tw5 169 rfl rfl), fun h => absurd h (by decide +kernel), rfl, Nat.le_of_ble_eq_true rfl, by decide +kernel, by decide +kernel, by decide +kernel, by decide +kernel⟩
set_option maxRecDepth 100000 in
theorem mm_q76 : mm_qP 76 := ⟨mm_rk76, (mm_tw5 163 rfl rfl), (mm_tw1 9 rfl rfl), fun h => absurd h (by decide +kernel), fun _ => ⟨(mm_tw5 162 rfl rfl), (mm_tp 45 (by decide +kernel) rfl), _, rfl, rfl, Nat.le_of_ble_eq_true rfl, Nat.le_of_ble_eq_true rfl⟩, rfl, Nat.le_of_ble_eq_true rfl, by decide +kernel, by decide +kernel, by decide +kernel, by decide +kernel⟩
set_option maxRecDepth 100000 in
theorem mm_q77 : mm_qP 77 := ⟨mm_rk77, (mm_tw5 198 rfl rfl), (mm_tw1 9 rfl rfl), fun h => absurd h (by decide +kernel), fun _ => ⟨(mm_tw5 196 rfl rfl), (mm_tw5 197 rfl rfl), _, rfl, rfl, Nat.le_of_ble_eq_true rfl, Nat.le_of_ble_eq_true rfl⟩, rfl, Nat.le_of_ble_eq_true rfl, by decide +kernel, by decide +kernel, by decide +kernel, by decide +kernel⟩
set_option maxRecDepth 100000 in
theorem mm_q78 : mm_qP 78 := ⟨mm_rk78, (mm_tw5 202 rfl rfl), (mm_tw1 9 rfl rfl), fun h => absurd h (by decide +kernel), fun _ => ⟨(mm_tw5 201 rfl rfl), (mm_tp 46 (by decide +kernel) rfl), _, rfl, rfl, Nat.le_of_ble_eq_true rfl, Nat.le_of_ble_eq_true rfl⟩, rfl, Nat.le_of_ble_eq_true rfl, by decide +kernel, by decide +kernel, by decide +kernel, by decide +kernel⟩
set_option maxRecDepth 100000 in
theorem mm_q79 : mm_qP 79 := ⟨mm_rk79, (mm_tw5 211 rfl rfl), (mm_tw1 9 rfl rfl), fun _ => (mm_tw5 210 rfl rfl), fun h => absurd h (by decide +kernel), rfl, Nat.le_of_ble_eq_true rfl, by decide +kernel, by decide +kernel, by decide +kernel, by decide +kernel⟩
set_option maxRecDepth 100000 in
theorem mm_q80 : mm_qP 80 := ⟨mm_rk80, (mm_tw5 214 rfl rfl), (mm_tw1 9 rfl rfl), fun _ => (mm_tw5 213 rfl rfl), fun h => absurd h (by decide +kernel), rfl, Nat.le_of_ble_eq_true rfl, by decide +kernel, by decide +kernel, by decide +kernel, by decide +kernel⟩
set_option maxRecDepth 100000 in
theorem mm_q81 : mm_qP 81 := ⟨mm_rk81, (mm_tw2 178 rfl rfl), (mm_tw1 2 rfl rfl), fun h => absurd h (by decide +kernel), fun _ => ⟨(mm_tw2 176 rfl rfl), (mm_tw2 177 rfl rfl), _, rfl, rfl, Nat.le_of_ble_eq_true rfl, Nat.le_of_ble_eq_true rfl⟩, rfl, Nat.le_of_ble_eq_true rfl, by decide +kernel, by decide +kernel, by decide +kernel, by decide +kernel⟩
set_option maxRecDepth 100000 in
theorem mm_q82 : mm_qP 82 := ⟨mm_rk82, (mm_tw4 77 rfl rfl), (mm_tw1 2 rfl rfl), fun h => absurd h (by decide +kernel), fun _ => ⟨(mm_tw4 75 rfl rfl), (mm_tw4 76 rfl rfl), _, rfl, rfl, Nat.le_of_ble_eq_true rfl, Nat.le_of_ble_eq_true rfl⟩, rfl, Nat.le_of_ble_eq_true rfl, by decide +kernel, by decide +kernel, by decide +kernel, by decide +kernel⟩
set_option maxRecDepth 100000 in
theorem mm_q83 : mm_qP 83 := ⟨mm_rk83, (mm_tw2 190 rfl rfl), (mm_tw1 2 rfl rfl), fun h => absurd h (by decide +kernel), fun _ => ⟨(mm_tw2 188 rfl rfl), (mm_tw2 189 rfl rfl), _, rfl, rfl, Nat.le_of_ble_eq_true rfl, Nat.le_of_ble_eq_true rfl⟩, rfl, Nat.le_of_ble_eq_true rfl, by decide +kernel, by decide +kernel, by decide +kernel, by decide +kernel⟩
set_option maxRecDepth 100000 in
theorem mm_q84 : mm_qP 84 := ⟨mm_rk84, (mm_tw2 194 rfl rfl), (mm_tw1 2 rfl rfl), fun h => absurd h (by decide +kernel), fun _ => ⟨(mm_tw2 192 rfl rfl), (mm_tw2 193 rfl rfl), _, rfl, rfl, Nat.le_of_ble_eq_true rfl, Nat.le_of_ble_eq_true rfl⟩, rfl, Nat.le_of_ble_eq_true rfl, by decide +kernel, by decide +kernel, by decide +kernel, by decide +kernel⟩
set_option maxRecDepth 100000 in
theorem mm_q85 : mm_qP 85 := ⟨mm_rk85, (mm_tw2 198 rfl rfl), (mm_tw1 2 rfl rfl), fun h => absurd h (by decide +kernel), fun _ => ⟨(mm_tw2 197 rfl rfl), (mm_tp 0 (by decide +kernel) rfl), _, rfl, rfl, Nat.le_of_ble_eq_true rfl, Nat.le_of_ble_eq_true rfl⟩, rfl, Nat.le_of_ble_eq_true rfl, by decide +kernel, by decide +kernel, by decide +kernel, by decide +kernel⟩
set_option maxRecDepth 100000 in
theorem mm_q86 : mm_qP 86 := ⟨mm_rk86, (mm_tw2 204 rfl rfl), (mm_tw1 2 rfl rfl), fun h => absurd h (by decide +kernel), fun _ => ⟨(mm_tw2 203 rfl rfl), (mm_tp 1 (by decide +kernel) rfl), _, rfl, rfl, Nat.le_of_ble_eq_true rfl, Nat.le_of_ble_eq_true rfl⟩, rfl, Nat.le_of_ble_eq_true rfl, by decide +kernel, by decide +kernel, by decide +kernel, by decide +kernel⟩
set_option maxRecDepth 100000 in
theorem mm_q87 : mm_qP 87 := ⟨mm_rk87, (mm_tw5 222 rfl rfl), (mm_tw1 1 rfl rfl), fun h => absurd h (by decide +kernel), fun _ => ⟨(mm_tw5 221 rfl rfl), (mm_tp 47 (by decide +kernel) rfl), _, rfl, rfl, Nat.le_of_ble_eq_true rfl, Nat.le_of_ble_eq_true rfl⟩, rfl, Nat.le_of_ble_eq_true rfl, by decide +kernel, by decide +kernel, by decide +kernel, by decide +kernel⟩
set_option maxRecDepth 100000 in
theorem mm_q88 : mm_qP 88 := ⟨mm_rk88, (mm_tw2 204 rfl rfl), (mm_tw1 2 rfl rfl), fun h => absurd h (by decide +kernel), fun _ => ⟨(mm_tw2 203 rfl rfl), (mm_tp 1 (by decide +kernel) rfl), _, rfl, rfl, Nat.le_of_ble_eq_true rfl, Nat.le_of_ble_eq_true rfl⟩, rfl, Nat.le_of_ble_eq_true rfl, by decide +kernel, by decide +kernel, by decide +kernel, by decide +kernel⟩
set_option maxRecDepth 100000 in
theorem mm_q89 : mm_qP 89 := ⟨mm_rk89, (mm_tw3 0 rfl rfl), (mm_tw1 2 rfl rfl), fun h => absurd h (by decide +kernel), fun _ => ⟨(mm_tw2 238 rfl rfl), (mm_tw2 239 rfl rfl), _, rfl, rfl, Nat.le_of_ble_eq_true rfl, Nat.le_of_ble_eq_true rfl⟩, rfl, Nat.le_of_ble_eq_true rfl, by decide +kernel, by decide +kernel, by decide +kernel, by decide +kernel⟩
set_option maxRecDepth 100000 in
theorem mm_q90 : mm_qP 90 := ⟨mm_rk90, (mm_tw2 236 rfl rfl), (mm_tw1 2 rfl rfl), fun h => absurd h (by decide +kernel), fun _ => ⟨(mm_tw2 234 rfl rfl), (mm_tw2 235 rfl rfl), _, rfl, rfl, Nat.le_of_ble_eq_true rfl, Nat.le_of_ble_eq_true rfl⟩, rfl, Nat.le_of_ble_eq_true rfl, by decide +kernel, by decide +kernel, by decide +kernel, by decide +kernel⟩
set_option maxRecDepth 100000 in
theorem mm_q91 : mm_qP 91 := ⟨mm_rk91, (mm_tw3 82 rfl rfl), (mm_tw1 2 rfl rfl), fun h => absurd h (by decide +kernel), fun _ => ⟨(mm_tw3 80 rfl rfl), (mm_tw3 81 rfl rfl), _, rfl, rfl, Nat.le_of_ble_eq_true rfl, Nat.le_of_ble_eq_true rfl⟩, rfl, Nat.le_of_ble_eq_true rfl, by decide +kernel, by decide +kernel, by decide +kernel, by decide +kernel⟩
set_option maxRecDepth 100000 in
theorem mm_q92 : mm_qP 92 := ⟨mm_rk92, (mm_tw3 5 rfl rfl), (mm_tw1 2 rfl rfl), fun h => absurd h (by decide +kernel), fun _ => ⟨(mm_tw3 3 rfl rfl), (mm_tw3 4 rfl rfl), _, rfl, rfl, Nat.le_of_ble_eq_true rfl, Nat.le_of_ble_eq_true rfl⟩, rfl, Nat.le_of_ble_eq_true rfl, by decide +kernel, by decide +kernel, by decide +kernel, by decide +kernel⟩
set_option maxRecDepth 100000 in
theorem mm_q93 : mm_qP 93 := ⟨mm_rk93, (mm_tw3 65 rfl rfl), (mm_tw1 2 rfl rfl), fun h => absurd h (by decide +kernel), fun _ => ⟨(mm_tw3 63 rfl rfl), (mm_tw3 64 rfl rfl), _, rfl, rfl, Nat.le_of_ble_eq_true rfl, Nat.le_of_ble_eq_true rfl⟩, rfl, Nat.le_of_ble_eq_true rfl, by decide +kernel, by decide +kernel, by decide +kernel, by decide +kernel⟩
set_option maxRecDepth 100000 in
theorem mm_q94 : mm_qP 94 := ⟨mm_rk94, (mm_tw2 217 rfl rfl), (mm_tw1 5 rfl rfl), fun h => absurd h (by decide +kernel), fun _ => ⟨(mm_tw2 215 rfl rfl), (mm_tw2 216 rfl rfl), _, rfl, rfl, Nat.le_of_ble_eq_true rfl, Nat.le_of_ble_eq_true rfl⟩, rfl, Nat.le_of_ble_eq_true rfl, by decide +kernel, by decide +kernel, by decide +kernel, by decide +kernel⟩
set_option maxRecDepth 100000 in
theorem mm_q95 : mm_qP 95 := ⟨mm_rk95, (mm_tw2 226 rfl rfl), (mm_tw1 5 rfl rfl), fun h => absurd h (by decide +kernel), fun _ => ⟨(mm_tw2 225 rfl rfl), (mm_tp 2 (by decide +kernel) rfl), _, rfl, rfl, Nat.le_of_ble_eq_true rfl, Nat.le_of_ble_eq_true rfl⟩, rfl, Nat.le_of_ble_eq_true rfl, by decide +kernel, by decide +kernel, by decide +kernel, by decide +kernel⟩
set_option maxRecDepth 100000 in
theorem mm_q96 : mm_qP 96 := ⟨mm_rk96, (mm_tw2 232 rfl rfl), (mm_tw1 5 rfl rfl), fun h => absurd h (by decide +kernel), fun _ => ⟨(mm_tw2 231 rfl rfl), (mm_tp 3 (by decide +kernel) rfl), _, rfl, rfl, Nat.le_of_ble_eq_true rfl, Nat.le_of_ble_eq_true rfl⟩, rfl, Nat.le_of_ble_eq_true rfl, by decide +kernel, by decide +kernel, by decide +kernel, by decide +kernel⟩
set_option maxRecDepth 100000 in
theorem mm_q97 : mm_qP 97 := ⟨mm_rk97, (mm_tw3 12 rfl rfl), (mm_tw1 5 rfl rfl), fun h => absurd h (by decide +kernel), fun _ => ⟨(mm_tw3 11 rfl rfl), (mm_tp 4 (by decide +kernel) rfl), _, rfl, rfl, Nat.le_of_ble_eq_true rfl, Nat.le_of_ble_eq_true rfl⟩, rfl, Nat.le_of_ble_eq_true rfl, by decide +kernel, by decide +kernel, by decide +kernel, by decide +kernel⟩
set_option maxRecDepth 100000 in
theorem mm_q98 : mm_qP 98 := ⟨mm_rk98, (mm_tw3 22 rfl rfl), (mm_tw1 5 rfl rfl), fun h => absurd h (by decide +kernel), fun _ => ⟨(mm_tw3 21 rfl rfl), (mm_tp 6 (by decide +kernel) rfl), _, rfl, rfl, Nat.le_of_ble_eq_true rfl, Nat.le_of_ble_eq_true rfl⟩, rfl, Nat.le_of_ble_eq_true rfl, by decide +kernel, by decide +kernel, by decide +kernel, by decide +kernel⟩
set_option maxRecDepth 100000 in
theorem mm_q99 : mm_qP 99 := ⟨mm_rk99, (mm_tw3 18 rfl rfl), (mm_tw1 5 rfl rfl), fun h => absurd h (by decide +kernel), fun _ => ⟨(mm_tw3 17 rfl rfl), (mm_tp 5 (by decide +kernel) rfl), _, rfl, rfl, Nat.le_of_ble_eq_true rfl, Nat.le_of_ble_eq_true rfl⟩, rfl, Nat.le_of_ble_eq_true rfl, by decide +kernel, by decide +kernel, by decide +kernel, by decide +kernel⟩
set_option maxRecDepth 100000 in
theorem mm_q100 : mm_qP 100 := ⟨mm_rk100, (mm_tw3 47 rfl rfl), (mm_tw1 5 rfl rfl), fun h => absurd h (by decide +kernel), fun _ => ⟨(mm_tw3 46 rfl rfl), (mm_tp 7 (by decide +kernel) rfl), _, rfl, rfl, Nat.le_of_ble_eq_true rfl, Nat.le_of_ble_eq_true rfl⟩, rfl, Nat.le_of_ble_eq_true rfl, by decide +kernel, by decide +kernel, by decide +kernel, by decide +kernel⟩
set_option maxRecDepth 100000 in
theorem mm_q101 : mm_qP 101 := ⟨mm_rk101, (mm_tw3 55 rfl rfl), (mm_tw1 5 rfl rfl), fun h => absurd h (by decide +kernel), fun _ => ⟨(mm_tw3 54 rfl rfl), (mm_tp 8 (by decide +kernel) rfl), _, rfl, rfl, Nat.le_of_ble_eq_true rfl, Nat.le_of_ble_eq_true rfl⟩, rfl, Nat.le_of_ble_eq_true rfl, by decide +kernel, by decide +kernel, by decide +kernel, by decide +kernel⟩
set_option maxRecDepth 100000 in
theorem mm_q102 : mm_qP 102 := ⟨mm_rk102, (mm_tw3 61 rfl rfl), (mm_tw1 5 rfl rfl), fun h => absurd h (by decide +kernel), fun _ => ⟨(mm_tw3 60 rfl rfl), (mm_tp 9 (by decide +kernel) rfl), _, rfl, rfl, Nat.le_of_ble_eq_true rfl, Nat.le_of_ble_eq_true rfl⟩, rfl, Nat.le_of_ble_eq_true rfl, by decide +kernel, by decide +kernel, by decide +kernel, by decide +kernel⟩
set_option maxRecDepth 100000 in
theorem mm_q103 : mm_qP 103 := ⟨mm_rk103, (mm_tw3 76 rfl rfl), (mm_tw1 5 rfl rfl), fun h => absurd h (by decide +kernel), fun _ => ⟨(mm_tw3 75 rfl rfl), (mm_tp 10 (by decide +kernel) rfl), _, rfl, rfl, Nat.le_of_ble_eq_true rfl, Nat.le_of_ble_eq_true rfl⟩, rfl, Nat.le_of_ble_eq_true rfl, by decide +kernel, by decide +kernel, by decide +kernel, by decide +kernel⟩
set_option maxRecDepth 100000 in
theorem mm_q104 : mm_qP 104 := ⟨mm_rk104, (mm_tw2 211 rfl rfl), (mm_tw1 4 rfl rfl), fun _ => (mm_tw2 210 rfl rfl), fun h => absurd h (by decide +kernel), rfl, Nat.le_of_ble_eq_true rfl, by decide +kernel, by decide +kernel, by decide +kernel, by decide +kernel⟩
set_option maxRecDepth 100000 in
theorem mm_q105 : mm_qP 105 := ⟨mm_rk105, (mm_tw2 174 rfl rfl), (mm_tw1 1 rfl rfl), fun h => absurd h (by decide +kernel), fun _ => ⟨(mm_tw2 172 rfl rfl), (mm_tw2 173 rfl rfl), _, rfl, rfl, Nat.le_of_ble_eq_true rfl, Nat.le_of_ble_eq_true rfl⟩, rfl, Nat.le_of_ble_eq_true rfl, by decide +kernel, by decide +kernel, by decide +kernel, by decide +kernel⟩
set_option maxRecDepth 100000 in
theorem mm_q106 : mm_qP 106 := ⟨mm_rk106, (mm_tw2 182 rfl rfl), (mm_tw1 1 rfl rfl), fun h => absurd h (by decide +kernel), fun _ => ⟨(mm_tw2 180 rfl rfl), (mm_tw2 181 rfl rfl), _, rfl, rfl, Nat.le_of_ble_eq_true rfl, Nat.le_of_ble_eq_true rfl⟩, rfl, Nat.le_of_ble_eq_true rfl, by decide +kernel, by decide +kernel, by decide +kernel, by decide +kernel⟩
set_option maxRecDepth 100000 in
theorem mm_q107 : mm_qP 107 := ⟨mm_rk107, (mm_tw2 186 rfl rfl), (mm_tw1 1 rfl rfl), fun h => absurd h (by decide +kernel), fun _ => ⟨(mm_tw2 184 rfl rfl), (mm_tw2 185 rfl rfl), _, rfl, rfl, Nat.le_of_ble_eq_true rfl, Nat.le_of_ble_eq_true rfl⟩, rfl, Nat.le_of_ble_eq_true rfl, by decide +kernel, by decide +kernel, by decide +kernel, by decide +kernel⟩
set_option maxRecDepth 100000 in
theorem mm_q108 : mm_qP 108 := ⟨mm_rk108, (mm_tw3 121 rfl rfl), (mm_tw1 1 rfl rfl), fun h => absurd h (by decide +kernel), fun _ => ⟨(mm_tw3 119 rfl rfl), (mm_tw3 120 rfl rfl), _, rfl, rfl, Nat.le_of_ble_eq_true rfl, Nat.le_of_ble_eq_true rfl⟩, rfl, Nat.le_of_ble_eq_true rfl, by decide +kernel, by decide +kernel, by decide +kernel, by decide +kernel⟩
set_option maxRecDepth 100000 in
theorem mm_q109 : mm_qP 109 := ⟨mm_rk109, (mm_tw3 125 rfl rfl), (mm_tw1 1 rfl rfl), fun h => absurd h (by decide +kernel), fun _ => ⟨(mm_tw3 123 rfl rfl), (mm_tw3 124 rfl rfl), _, rfl, rfl, Nat.le_of_ble_eq_true rfl, Nat.le_of_ble_eq_true rfl⟩, rfl, Nat.le_of_ble_eq_true rfl, by decide +kernel, by decide +kernel, by decide +kernel, by decide +kernel⟩
set_option maxRecDepth 100000 in
theorem mm_q110 : mm_qP 110 := ⟨mm_rk110, (mm_tw3 150 rfl rfl), (mm_tw1 1 rfl rfl), fun h => absurd h (by decide +kernel), fun _ => ⟨(mm_tw3 148 rfl rfl), (mm_tw3 149 rfl rfl), _, rfl, rfl, Nat.le_of_ble_eq_true rfl, Nat.le_of_ble_eq_true rfl⟩, rfl, Nat.le_of_ble_eq_true rfl, by decide +kernel, by decide +kernel, by decide +kernel, by decide +kernel⟩
set_option maxRecDepth 100000 in
theorem mm_q111 : mm_qP 111 := ⟨mm_rk111, (mm_tw3 155 rfl rfl), (mm_tw1 1 rfl rfl), fun h => absurd h (by decide +kernel), fun _ => ⟨(mm_tw3 153 rfl rfl), (mm_tw3 154 rfl rfl), _, rfl, rfl, Nat.le_of_ble_eq_true rfl, Nat.le_of_ble_eq_true rfl⟩, rfl, Nat.le_of_ble_eq_true rfl, by decide +kernel, by decide +kernel, by decide +kernel, by decide +kernel⟩
set_option maxRecDepth 100000 in
theorem mm_q112 : mm_qP 112 := ⟨mm_rk112, (mm_tw3 161 rfl rfl), (mm_tw1 1 rfl rfl), fun h => absurd h (by decide +kernel), fun _ => ⟨(mm_tw3 159 rfl rfl), (mm_tw3 160 rfl rfl), _, rfl, rfl, Nat.le_of_ble_eq_true rfl, Nat.le_of_ble_eq_true rfl⟩, rfl, Nat.le_of_ble_eq_true rfl, by decide +kernel, by decide +kernel, by decide +kernel, by decide +kernel⟩
set_option maxRecDepth 100000 in
theorem mm_q113 : mm_qP 113 := ⟨mm_rk113, (mm_tw4 6 rfl rfl), (mm_tw1 1 rfl rfl), fun h => absurd h (by decide +kernel), fun _ => ⟨(mm_tw4 4 rfl rfl), (mm_tw4 5 rfl rfl), _, rfl, rfl, Nat.le_of_ble_eq_true rfl, Nat.le_of_ble_eq_true rfl⟩, rfl, Nat.le_of_ble_eq_true rfl, by decide +kernel, by decide +kernel, by decide +kernel, by decide +kernel⟩
set_option maxRecDepth 100000 in
theorem mm_q114 : mm_qP 114 := ⟨mm_rk114, (mm_tw4 10 rfl rfl), (mm_tw1 1 rfl rfl), fun h => absurd h (by decide +kernel), fun _ => ⟨(mm_tw4 8 rfl rfl), (mm_tw4 9 rfl rfl), _, rfl, rfl, Nat.le_of_ble_eq_true rfl, Nat.le_of_ble_eq_true rfl⟩, rfl, Nat.le_of_ble_eq_true rfl, by decide +kernel, by decide +kernel, by decide +kernel, by decide +kernel⟩
set_option maxRecDepth 100000 in
theorem mm_q115 : mm_qP 115 := ⟨mm_rk115, (mm_tw4 14 rfl rfl), (mm_tw1 1 rfl rfl), fun h => absurd h (by decide +kernel), fun _ => ⟨(mm_tw4 12 rfl rfl), (mm_tw4 13 rfl rfl), _, rfl, rfl, Nat.le_of_ble_eq_true rfl, Nat.le_of_ble_eq_true rfl⟩, rfl, Nat.le_of_ble_eq_true rfl, by decide +kernel, by decide +kernel, by decide +kernel, by decide +kernel⟩
set_option maxRecDepth 100000 in
theorem mm_q116 : mm_qP 116 := ⟨mm_rk116, (mm_tw4 19 rfl rfl), (mm_tw1 1 rfl rfl), fun h => absurd h (by decide +kernel), fun _ => ⟨(mm_tw4 17 rfl rfl), (mm_tw4 18 rfl rfl), _, rfl, rfl, Nat.le_of_ble_eq_true rfl, Nat.le_of_ble_eq_true rfl⟩, rfl, Nat.le_of_ble_eq_true rfl, by decide +kernel, by decide +kernel, by decide +kernel, by decide +kernel⟩
set_option maxRecDepth 100000 in
theorem mm_q117 : mm_qP 117 := ⟨mm_rk117, (mm_tw4 23 rfl rfl), (mm_tw1 1 rfl rfl), fun h => absurd h (by decide +kernel), fun _ => ⟨(mm_tw4 21 rfl rfl), (mm_tw4 22 rfl rfl), _, rfl, rfl, Nat.le_of_ble_eq_true rfl, Nat.le_of_ble_eq_true rfl⟩, rfl, Nat.le_of_ble_eq_true rfl, by decide +kernel, by decide +kernel, by decide +kernel, by decide +kernel⟩
set_option maxRecDepth 100000 in
theorem mm_q118 : mm_qP 118 := ⟨mm_rk118, (mm_tw4 27 rfl rfl), (mm_tw1 1 rfl rfl), fun h => absurd h (by decide +kernel), fun _ => ⟨(mm_tw4 25 rfl rfl), (mm_tw4 26 rfl rfl), _, rfl, rfl, Nat.le_of_ble_eq_true rfl, Nat.le_of_ble_eq_true rfl⟩, rfl, Nat.le_of_ble_eq_true rfl, by decide +kernel, by decide +kernel, by decide +kernel, by decide +kernel⟩
set_option maxRecDepth 100000 in
theorem mm_q119 : mm_qP 119 := ⟨mm_rk119, (mm_tw4 33 rfl rfl), (mm_tw1 1 rfl rfl), fun h => absurd h (by decide +kernel), fun _ => ⟨(mm_tw4 31 rfl rfl), (mm_tw4 32 rfl rfl), _, rfl, rfl, Nat.le_of_ble_eq_true rfl, Nat.le_of_ble_eq_true rfl⟩, rfl, Nat.le_of_ble_eq_true rfl, by decide +kernel, by decide +kernel, by decide +kernel, by decide +kernel⟩
set_option maxRecDepth 100000 in
theorem mm_q120 : mm_qP 120 := ⟨mm_rk120, (mm_tw4 41 rfl rfl), (mm_tw1 1 rfl rfl), fun h => absurd h (by decide +kernel), fun _ => ⟨(mm_tw4 39 rfl rfl), (mm_tw4 40 rfl rfl), _, rfl, rfl, Nat.le_of_ble_eq_true rfl, Nat.le_of_ble_eq_true rfl⟩, rfl, Nat.le_of_ble_eq_true rfl, by decide +kernel, by decide +kernel, by decide +kernel, by decide +kernel⟩
set_option maxRecDepth 100000 in
theorem mm_q121 : mm_qP 121 := ⟨mm_rk121, (mm_tw4 49 rfl rfl), (mm_tw1 1 rfl rfl), fun h => absurd h (by decide +kernel), fun _ => ⟨(mm_tw4 47 rfl rfl), (mm_tw4 48 rfl rfl), _, rfl, rfl, Nat.le_of_ble_eq_true rfl, Nat.le_of_ble_eq_true rfl⟩, rfl, Nat.le_of_ble_eq_true rfl, by decide +kernel, by decide +kernel, by decide +kernel, by decide +kernel⟩
set_option maxRecDepth 100000 in
theorem mm_q122 : mm_qP 122 := ⟨mm_rk122, (mm_tw4 53 rfl rfl), (mm_tw1 1 rfl rfl), fun h => absurd h (by decide +kernel), fun _ => ⟨(mm_tw4 51 rfl rfl), (mm_tw4 52 rfl rfl), _, rfl, rfl, Nat.le_of_ble_eq_true rfl, Nat.le_of_ble_eq_true rfl⟩, rfl, Nat.le_of_ble_eq_true rfl, by decide +kernel, by decide +kernel, by decide +kernel, by decide +kernel⟩
set_option maxRecDepth 100000 in
theorem mm_q123 : mm_qP 123 := ⟨mm_rk123, (mm_tw4 61 rfl rfl), (mm_tw1 1 rfl rfl), fun h => absurd h (by decide +kernel), fun _ => ⟨(mm_tw4 59 rfl rfl), (mm_tw4 60 rfl rfl), _, rfl, rfl, Nat.le_of_ble_eq_true rfl, Nat.le_of_ble_eq_true rfl⟩, rfl, Nat.le_of_ble_eq_true rfl, by decide +kernel, by decide +kernel, by decide +kernel, by decide +kernel⟩
set_option maxRecDepth 100000 in
theorem mm_q124 : mm_qP 124 := ⟨mm_rk124, (mm_tw4 66 rfl rfl), (mm_tw1 1 rfl rfl), fun h => absurd h (by decide +kernel), fun _ => ⟨(mm_tw4 64 rfl rfl), (mm_tw4 65 rfl rfl), _, rfl, rfl, Nat.le_of_ble_eq_true rfl, Nat.le_of_ble_eq_true rfl⟩, rfl, Nat.le_of_ble_eq_true rfl, by decide +kernel, by decide +kernel, by decide +kernel, by decide +kernel⟩
set_option maxRecDepth 100000 in
theorem mm_q125 : mm_qP 125 := ⟨mm_rk125, (mm_tw4 101 rfl rfl), (mm_tw1 1 rfl rfl), fun h => absurd h (by decide +kernel), fun _ => ⟨(mm_tw4 99 rfl rfl), (mm_tw4 100 rfl rfl), _, rfl, rfl, Nat.le_of_ble_eq_true rfl, Nat.le_of_ble_eq_true rfl⟩, rfl, Nat.le_of_ble_eq_true rfl, by decide +kernel, by decide +kernel, by decide +kernel, by decide +kernel⟩
set_option maxRecDepth 100000 in
theorem mm_q126 : mm_qP 126 := ⟨mm_rk126, (mm_tw4 105 rfl rfl), (mm_tw1 1 rfl rfl), fun h => absurd h (by decide +kernel), fun _ => ⟨(mm_tw4 103 rfl rfl), (mm_tw4 104 rfl rfl), _, rfl, rfl, Nat.le_of_ble_eq_true rfl, Nat.le_of_ble_eq_true rfl⟩, rfl, Nat.le_of_ble_eq_true rfl, by decide +kernel, by decide +kernel, by decide +kernel, by decide +kernel⟩
set_option maxRecDepth 100000 in
theorem mm_q127 : mm_qP 127 := ⟨mm_rk127, (mm_tw4 109 rfl rfl), (mm_tw1 1 rfl rfl), fun h => absurd h (by decide +kernel), fun _ => ⟨(mm_tw4 107 rfl rfl), (mm_tw4 108 rfl rfl), _, rfl, rfl, Nat.le_of_ble_eq_true rfl, Nat.le_of_ble_eq_true rfl⟩, rfl, Nat.le_of_ble_eq_true rfl, by decide +kernel, by decide +kernel, by decide +kernel, by decide +kernel⟩
set_option maxRecDepth 100000 in
theorem mm_q128 : mm_qP 128 := ⟨mm_rk128, (mm_tw4 113 rfl rfl), (mm_tw1 1 rfl rfl), fun h => absurd h (by decide +kernel), fun _ => ⟨(mm_tw4 111 rfl rfl), (mm_tw4 112 rfl rfl), _, rfl, rfl, Nat.le_of_ble_eq_true rfl, Nat.le_of_ble_eq_true rfl⟩, rfl, Nat.le_of_ble_eq_true rfl, by decide +kernel, by decide +kernel, by decide +kernel, by decide +kernel⟩
set_option maxRecDepth 100000 in
theorem mm_q129 : mm_qP 129 := ⟨mm_rk129, (mm_tw4 137 rfl rfl), (mm_tw1 1 rfl rfl), fun h => absurd h (by decide +kernel), fun _ => ⟨(mm_tw4 135 rfl rfl), (mm_tw4 136 rfl rfl), _, rfl, rfl, Nat.le_of_ble_eq_true rfl, Nat.le_of_ble_eq_true rfl⟩, rfl, Nat.le_of_ble_eq_true rfl, by decide +kernel, by decide +kernel, by decide +kernel, by decide +kernel⟩
set_option maxRecDepth 100000 in
theorem mm_q130 : mm_qP 130 := ⟨mm_rk130, (mm_tw4 141 rfl rfl), (mm_tw1 1 rfl rfl), fun h => absurd h (by decide +kernel), fun _ => ⟨(mm_tw4 139 rfl rfl), (mm_tw4 140 rfl rfl), _, rfl, rfl, Nat.le_of_ble_eq_true rfl, Nat.le_of_ble_eq_true rfl⟩, rfl, Nat.le_of_ble_eq_true rfl, by decide +kernel, by decide +kernel, by decide +kernel, by decide +kernel⟩
set_option maxRecDepth 100000 in
theorem mm_q131 : mm_qP 131 := ⟨mm_rk131, (mm_tw4 147 rfl rfl), (mm_tw1 1 rfl rfl), fun h => absurd h (by decide +kernel), fun _ => ⟨(mm_tw4 145 rfl rfl), (mm_tw4 146 rfl rfl), _, rfl, rfl, Nat.le_of_ble_eq_true rfl, Nat.le_of_ble_eq_true rfl⟩, rfl, Nat.le_of_ble_eq_true rfl, by decide +kernel, by decide +kernel, by decide +kernel, by decide +kernel⟩
set_option maxRecDepth 100000 in
theorem mm_q132 : mm_qP 132 := ⟨mm_rk132, (mm_tw4 156 rfl rfl), (mm_tw1 1 rfl rfl), fun h => absurd h (by decide +kernel), fun _ => ⟨(mm_tw4 154 rfl rfl), (mm_tw4 155 rfl rfl), _, rfl, rfl, Nat.le_of_ble_eq_true rfl, Nat.le_of_ble_eq_true rfl⟩, rfl, Nat.le_of_ble_eq_true rfl, by decide +kernel, by decide +kernel, by decide +kernel, by decide +kernel⟩
set_option maxRecDepth 100000 in
theorem mm_q133 : mm_qP 133 := ⟨mm_rk133, (mm_tw4 176 rfl rfl), (mm_tw1 1 rfl rfl), fun h => absurd h (by decide +kernel), fun _ => ⟨(mm_tw4 174 rfl rfl), (mm_tw4 175 rfl rfl), _, rfl, rfl, Nat.le_of_ble_eq_true rfl, Nat.le_of_ble_eq_true rfl⟩, rfl, Nat.le_of_ble_eq_true rfl, by decide +kernel, by decide +kernel, by decide +kernel, by decide +kernel⟩
set_option maxRecDepth 100000 in
theorem mm_q134 : mm_qP 134 := ⟨mm_rk134, (mm_tw4 180 rfl rfl), (mm_tw1 1 rfl rfl), fun h => absurd h (by decide +kernel), fun _ => ⟨(mm_tw4 178 rfl rfl), (mm_tw4 179 rfl rfl), _, rfl, rfl, Nat.le_of_ble_eq_true rfl, Nat.le_of_ble_eq_true rfl⟩, rfl, Nat.le_of_ble_eq_true rfl, by decide +kernel, by decide +kernel, by decide +kernel, by decide +kernel⟩
set_option maxRecDepth 100000 in
theorem mm_q135 : mm_qP 135 := ⟨mm_rk135, (mm_tw5 17 rfl rfl), (mm_tw1 1 rfl rfl), fun h => absurd h (by decide +kernel), fun _ => ⟨(mm_tw5 15 rfl rfl), (mm_tw5 16 rfl rfl), _, rfl, rfl, Nat.le_of_ble_eq_true rfl, Nat.le_of_ble_eq_true rfl⟩, rfl, Nat.le_of_ble_eq_true rfl, by decide +kernel, by decide +kernel, by decide +kernel, by decide +kernel⟩
set_option maxRecDepth 100000 in
theorem mm_q136 : mm_qP 136 := ⟨mm_rk136, (mm_tw5 21 rfl rfl), (mm_tw1 1 rfl rfl), fun h => absurd h (by decide +kernel), fun _ => ⟨(mm_tw5 19 rfl rfl), (mm_tw5 20 rfl rfl), _, rfl, rfl, Nat.le_of_ble_eq_true rfl, Nat.le_of_ble_eq_true rfl⟩, rfl, Nat.le_of_ble_eq_true rfl, by decide +kernel, by decide +kernel, by decide +kernel, by decide +kernel⟩
set_option maxRecDepth 100000 in
theorem mm_q137 : mm_qP 137 := ⟨mm_rk137, (mm_tw5 45 rfl rfl), (mm_tw1 1 rfl rfl), fun h => absurd h (by decide +kernel), fun _ => ⟨(mm_tw5 43 rfl rfl), (mm_tw5 44 rfl rfl), _, rfl, rfl, Nat.le_of_ble_eq_true rfl, Nat.le_of_ble_eq_true rfl⟩, rfl, Nat.le_of_ble_eq_true rfl, by decide +kernel, by decide +kernel, by decide +kernel, by decide +kernel⟩
set_option maxRecDepth 100000 in
theorem mm_q138 : mm_qP 138 := ⟨mm_rk138, (mm_tw5 49 rfl rfl), (mm_tw1 1 rfl rfl), fun h => absurd h (by decide +kernel), fun _ => ⟨(mm_tw5 47 rfl rfl), (mm_tw5 48 rfl rfl), _, rfl, rfl, Nat.le_of_ble_eq_true rfl, Nat.le_of_ble_eq_true rfl⟩, rfl, Nat.le_of_ble_eq_true rfl, by decide +kernel, by decide +kernel, by decide +kernel, by decide +kernel⟩
set_option maxRecDepth 100000 in
theorem mm_q139 : mm_qP 139 := ⟨mm_rk139, (mm_tw5 110 rfl rfl), (mm_tw1 1 rfl rfl), fun h => absurd h (by decide +kernel), fun _ => ⟨(mm_tw5 108 rfl rfl), (mm_tw5 109 rfl rfl), _, rfl, rfl, Nat.le_of_ble_eq_true rfl, Nat.le_of_ble_eq_true rfl⟩, rfl, Nat.le_of_ble_eq_true rfl, by decide +kernel, by decide +kernel, by decide +kernel, by decide +kernel⟩
set_option maxRecDepth 100000 in
theorem mm_q140 : mm_qP 140 := ⟨mm_rk140, (mm_tw5 118 rfl rfl), (mm_tw1 1 rfl rfl), fun h => absurd h (by decide +kernel), fun _ => ⟨(mm_tw5 116 rfl rfl), (mm_tw5 117 rfl rfl), _, rfl, rfl, Nat.le_of_ble_eq_true rfl, Nat.le_of_ble_eq_true rfl⟩, rfl, Nat.le_of_ble_eq_true rfl, by decide +kernel, by decide +kernel, by decide +kernel, by decide +kernel⟩
set_option maxRecDepth 100000 in
theorem mm_q141 : mm_qP 141 := ⟨mm_rk141, (mm_tw5 190 rfl rfl), (mm_tw1 1 rfl rfl), fun h => absurd h (by decide +kernel), fun _ => ⟨(mm_tw5 188 rfl rfl), (mm_tw5 189 rfl rfl), _, rfl, rfl, Nat.le_of_ble_eq_true rfl, Nat.le_of_ble_eq_true rfl⟩, rfl, Nat.le_of_ble_eq_true rfl, by decide +kernel, by decide +kernel, by decide +kernel, by decide +kernel⟩
set_option maxRecDepth 100000 in
theorem mm_q142 : mm_qP 142 := ⟨mm_rk142, (mm_tw5 218 rfl rfl), (mm_tw1 1 rfl rfl), fun h => absurd h (by decide +kernel), fun _ => ⟨(mm_tw5 216 rfl rfl), (mm_tw5 217 rfl rfl), _, rfl, rfl, Nat.le_of_ble_eq_true rfl, Nat.le_of_ble_eq_true rfl⟩, rfl, Nat.le_of_ble_eq_true rfl, by decide +kernel, by decide +kernel, by decide +kernel, by decide +kernel⟩
set_option maxRecDepth 100000 in
theorem mm_q143 : mm_qP 143 := ⟨mm_rk143, (mm_tw5 232 rfl rfl), (mm_tw1 1 rfl rfl), fun h => absurd h (by decide +kernel), fun _ => ⟨(mm_tw5 230 rfl rfl), (mm_tw5 231 rfl rfl), _, rfl, rfl, Nat.le_of_ble_eq_true rfl, Nat.le_of_ble_eq_true rfl⟩, rfl, Nat.le_of_ble_eq_true rfl, by decide +kernel, by decide +kernel, by decide +kernel, by decide +kernel⟩
set_option maxRecDepth 100000 in
theorem mm_q144 : mm_qP 144 := ⟨mm_rk144, (mm_tw5 236 rfl rfl), (mm_tw1 1 rfl rfl), fun h => absurd h (by decide +kernel), fun _ => ⟨(mm_tw5 234 rfl rfl), (mm_tw5 235 rfl rfl), _, rfl, rfl, Nat.le_of_ble_eq_true rfl, Nat.le_of_ble_eq_true rfl⟩, rfl, Nat.le_of_ble_eq_true rfl, by decide +kernel, by decide +kernel, by decide +kernel, by decide +kernel⟩
set_option maxRecDepth 100000 in
theorem mm_q145 : mm_qP 145 := ⟨mm_rk145, (mm_tw3 86 rfl rfl), (mm_tw1 1 rfl rfl), fun h => absurd h (by decide +kernel), fun _ => ⟨(mm_tw3 85 rfl rfl), (mm_tp 11 (by decide +kernel) rfl), _, rfl, rfl, Nat.le_of_ble_eq_true rfl, Nat.le_of_ble_eq_true rfl⟩, rfl, Nat.le_of_ble_eq_true rfl, by decide +kernel, by decide +kernel, by decide +kernel, by decide +kernel⟩
set_option maxRecDepth 100000 in
theorem mm_q146 : mm_qP 146 := ⟨mm_rk146, (mm_tw3 165 rfl rfl), (mm_tw1 1 rfl rfl), fun h => absurd h (by decide +kernel), fun _ => ⟨(mm_tw3 164 rfl rfl), (mm_tp 12 (by decide +kernel) rfl), _, rfl, rfl, Nat.le_of_ble_eq_true rfl, Nat.le_of_ble_eq_true rfl⟩, rfl, Nat.le_of_ble_eq_true rfl, by decide +kernel, by decide +kernel, by decide +kernel, by decide +kernel⟩
set_option maxRecDepth 100000 in
theorem mm_q147 : mm_qP 147 := ⟨mm_rk147, (mm_tw3 236 rfl rfl), (mm_tw1 1 rfl rfl), fun h => absurd h (by decide +kernel), fun _ => ⟨(mm_tw3 235 rfl rfl), (mm_tp 23 (by decide +kernel) rfl), _, rfl, rfl, Nat.le_of_ble_eq_true rfl, Nat.le_of_ble_eq_true rfl⟩, rfl, Nat.le_of_ble_eq_true rfl, by decide +kernel, by decide +kernel, by decide +kernel, by decide +kernel⟩
set_option maxRecDepth 100000 in
theorem mm_q148 : mm_qP 148 := ⟨mm_rk148, (mm_tw4 193 rfl rfl), (mm_tw1 1 rfl rfl), fun h => absurd h (by decide +kernel), fun _ => ⟨(mm_tw4 192 rfl rfl), (mm_tp 33 (by decide +kernel) rfl), _, rfl, rfl, Nat.le_of_ble_eq_true rfl, Nat.le_of_ble_eq_true rfl⟩, rfl, Nat.le_of_ble_eq_true rfl, by decide +kernel, by decide +kernel, by decide +kernel, by decide +kernel⟩
set_option maxRecDepth 100000 in
theorem mm_q149 : mm_qP 149 := ⟨mm_rk149, (mm_tw4 189 rfl rfl), (mm_tw1 1 rfl rfl), fun h => absurd h (by decide +kernel), fun _ => ⟨(mm_tw4 188 rfl rfl), (mm_tp 32 (by decide +kernel) rfl), _, rfl, rfl, Nat.le_of_ble_eq_true rfl, Nat.le_of_ble_eq_true rfl⟩, rfl, Nat.le_of_ble_eq_true rfl, by decide +kernel, by decide +kernel, by decide +kernel, by decide +kernel⟩
set_option maxRecDepth 100000 in
theorem mm_q150 : mm_qP 150 := ⟨mm_rk150, (mm_tw4 198 rfl rfl), (mm_tw1 1 rfl rfl), fun h => absurd h (by decide +kernel), fun _ => ⟨(mm_tw4 197 rfl rfl), (mm_tp 34 (by decide +kernel) rfl), _, rfl, rfl, Nat.le_of_ble_eq_true rfl, Nat.le_of_ble_eq_true rfl⟩, rfl, Nat.le_of_ble_eq_true rfl, by decide +kernel, by decide +kernel, by decide +kernel, by decide +kernel⟩
set_option maxRecDepth 100000 in
theorem mm_q151 : mm_qP 151 := ⟨mm_rk151, (mm_tw5 10 rfl rfl), (mm_tw1 1 rfl rfl), fun h => absurd h (by decide +kernel), fun _ => ⟨(mm_tw5 9 rfl rfl), (mm_tp 35 (by decide +kernel) rfl), _, rfl, rfl, Nat.le_of_ble_eq_true rfl, Nat.le_of_ble_eq_true rfl⟩, rfl, Nat.le_of_ble_eq_true rfl, by decide +kernel, by decide +kernel, by decide +kernel, by decide +kernel⟩
set_option maxRecDepth 100000 in
theorem mm_q152 : mm_qP 152 := ⟨mm_rk152, (mm_tw3 69 rfl rfl), (mm_tw1 1 rfl rfl), fun _ => (mm_tw3 68 rfl rfl), fun h => absurd h (by decide +kernel), rfl, Nat.le_of_ble_eq_true rfl, by decide +kernel, by decide +kernel, by decide +kernel, by decide +kernel⟩
set_option maxRecDepth 100000 in
theorem mm_q153 : mm_qP 153 := ⟨mm_rk153, (mm_tw3 232 rfl rfl), (mm_tw1 1 rfl rfl), fun _ => (mm_tw3 231 rfl rfl), fun h => absurd h (by decide +kernel), rfl, Nat.le_of_ble_eq_true rfl, by decide +kernel, by decide +kernel, by decide +kernel, by decide +kernel⟩
set_option maxRecDepth 100000 in
theorem mm_q154 : mm_qP 154 := ⟨mm_rk154, (mm_tw6 75 rfl rfl), (mm_tw1 14 rfl rfl), fun h => absurd h (by decide +kernel), fun _ => ⟨(mm_tw6 73 rfl rfl), (mm_tw6 74 rfl rfl), _, rfl, rfl, Nat.le_of_ble_eq_true rfl, Nat.le_of_ble_eq_true rfl⟩, rfl, Nat.le_of_ble_eq_true rfl, by decide +kernel, by decide +kernel, by decide +kernel, by decide +kernel⟩
set_option maxRecDepth 100000 in
theorem mm_q155 : mm_qP 155 := ⟨mm_rk155, (mm_tw7 142 rfl rfl), (mm_tw1 14 rfl rfl), fun h => absurd h (by decide +kernel), fun _ => ⟨(mm_tw7 141 rfl rfl), (mm_tp 77 (by decide +kernel) rfl), _, rfl, rfl, Nat.le_of_ble_eq_true rfl, Nat.le_of_ble_eq_true rfl⟩, rfl, Nat.le_of_ble_eq_true rfl, by decide +kernel, by decide +kernel, by decide +kernel, by decide +kernel⟩
set_option maxRecDepth 100000 in
theorem mm_q156 : mm_qP 156 := ⟨mm_rk156, (mm_tw6 84 rfl rfl), (mm_tw1 14 rfl rfl), fun h => absurd h (by decide +kernel), fun _ => ⟨(mm_tw6 82 rfl rfl), (mm_tp 49 (by decide +kernel) rfl), _, rfl, rfl, Nat.le_of_ble_eq_true rfl, Nat.le_of_ble_eq_true rfl⟩, rfl, Nat.le_of_ble_eq_true rfl, by decide +kernel, by decide +kernel, by decide +kernel, by decide +kernel⟩
set_option maxRecDepth 100000 in
theorem mm_q157 : mm_qP 157 := ⟨mm_rk157, (mm_tw6 79 rfl rfl), (mm_tw1 14 rfl rfl), fun h => absurd h (by decide +kernel), fun _ => ⟨(mm_tw6 77 rfl rfl), (mm_tw6 78 rfl rfl), _, rfl, rfl, Nat.le_of_ble_eq_true rfl, Nat.le_of_ble_eq_true rfl⟩, rfl, Nat.le_of_ble_eq_true rfl, by decide +kernel, by decide +kernel, by decide +kernel, by decide +kernel⟩
set_option maxRecDepth 100000 in
theorem mm_q158 : mm_qP 158 := ⟨mm_rk158, (mm_tw6 88 rfl rfl), (mm_tw1 14 rfl rfl), fun h => absurd h (by decide +kernel), fun _ => ⟨(mm_tw6 86 rfl rfl), (mm_tw6 87 rfl rfl), _, rfl, rfl, Nat.le_of_ble_eq_true rfl, Nat.le_of_ble_eq_true rfl⟩, rfl, Nat.le_of_ble_eq_true rfl, by decide +kernel, by decide +kernel, by decide +kernel, by decide +kernel⟩
set_option maxRecDepth 100000 in
theorem mm_q159 : mm_qP 159 := ⟨mm_rk159, (mm_tw7 15 rfl rfl), (mm_tw1 14 rfl rfl), fun h => absurd h (by decide +kernel), fun _ => ⟨(mm_tw7 14 rfl rfl), (mm_tp 53 (by decide +kernel) rfl), _, rfl, rfl, Nat.le_of_ble_eq_true rfl, Nat.le_of_ble_eq_true rfl⟩, rfl, Nat.le_of_ble_eq_true rfl, by decide +kernel, by decide +kernel, by decide +kernel, by decide +kernel⟩
set_option maxRecDepth 100000 in
theorem mm_q160 : mm_qP 160 := ⟨mm_rk160, (mm_tw7 64 rfl rfl), (mm_tw1 14 rfl rfl), fun _ => (mm_tw7 63 rfl rfl), fun h => absurd h (by decide +kernel), rfl, Nat.le_of_ble_eq_true rfl, by decide +kernel, by decide +kernel, by decide +kernel, by decide +kernel⟩
set_option maxRecDepth 100000 in
theorem mm_q161 : mm_qP 161 := ⟨mm_rk161, (mm_tw7 114 rfl rfl), (mm_tw1 14 rfl rfl), fun _ => (mm_tw7 113 rfl rfl), fun h => absurd h (by decide +kernel), rfl, Nat.le_of_ble_eq_true rfl, by decide +kernel, by decide +kernel, by decide +kernel, by decide +kernel⟩
set_option maxRecDepth 100000 in
theorem mm_q162 : mm_qP 162 := ⟨mm_rk162, (mm_tw7 205 rfl rfl), (mm_tw1 14 rfl rfl), fun _ => (mm_tw7 204 rfl rfl), fun h => absurd h (by decide +kernel), rfl, Nat.le_of_ble_eq_true rfl, by decide +kernel, by decide +kernel, by decide +kernel, by decide +kernel⟩
set_option maxRecDepth 100000 in
theorem mm_q163 : mm_qP 163 := ⟨mm_rk163, (mm_tw8 112 rfl rfl), (mm_tw1 14 rfl rfl), fun _ => (mm_tw8 111 rfl rfl), fun h => absurd h (by decide +kernel), rfl, Nat.le_of_ble_eq_true rfl, by decide +kernel, by decide +kernel, by decide +kernel, by decide +kernel⟩
set_option maxRecDepth 100000 in
theorem mm_q164 : mm_qP 164 := ⟨mm_rk164, (mm_tw8 57 rfl rfl), (mm_tw1 14 rfl rfl), fun _ => (mm_tw8 56 rfl rfl), fun h => absurd h (by decide +kernel), rfl, Nat.le_of_ble_eq_true rfl, by decide +kernel, by decide +kernel, by decide +kernel, by decide +kernel⟩
set_option maxRecDepth 100000 in
theorem mm_q165 : mm_qP 165 := ⟨mm_rk165, (mm_tw7 29 rfl rfl), (mm_tw1 14 rfl rfl), fun h => absurd h (by decide +kernel), fun _ => ⟨(mm_tw7 28 rfl rfl), (mm_tp 55 (by decide +kernel) rfl), _, rfl, rfl, Nat.le_of_ble_eq_true rfl, Nat.le_of_ble_eq_true rfl⟩, rfl, Nat.le_of_ble_eq_true rfl, by decide +kernel, by decide +kernel, by decide +kernel, by decide +kernel⟩
set_option maxRecDepth 100000 in
theorem mm_q166 : mm_qP 166 := ⟨mm_rk166, (mm_tw7 25 rfl rfl), (mm_tw1 14 rfl rfl), fun _ => (mm_tw7 24 rfl rfl), fun h => absurd h (by decide +kernel), rfl, Nat.le_of_ble_eq_true rfl, by decide +kernel, by decide +kernel, by decide +kernel, by decide +kernel⟩
set_option maxRecDepth 100000 in
theorem mm_q167 : mm_qP 167 := ⟨mm_rk167, (mm_tw7 22 rfl rfl), (mm_tw1 14 rfl rfl), fun _ => (mm_tw7 21 rfl rfl), fun h => absurd h (by decide +kernel), rfl, Nat.le_of_ble_eq_true rfl, by decide +kernel, by decide +kernel, by decide +kernel, by decide +kernel⟩
set_option maxRecDepth 100000 in
theorem mm_q168 : mm_qP 168 := ⟨mm_rk168, (mm_tw7 19 rfl rfl), (mm_tw1 14 rfl rfl), fun h => absurd h (by decide +kernel), fun _ => ⟨(mm_tw7 18 rfl rfl), (mm_tp 54 (by decide +kernel) rfl), _, rfl, rfl, Nat.le_of_ble_eq_true rfl, Nat.le_of_ble_eq_true rfl⟩, rfl, Nat.le_of_ble_eq_true rfl, by decide +kernel, by decide +kernel, by decide +kernel, by decide +kernel⟩
set_option maxRecDepth 100000 in
theorem mm_q169 : mm_qP 169 := ⟨mm_rk169, (mm_tw7 45 rfl rfl), (mm_tw1 14 rfl rfl), fun _ => (mm_tw7 44 rfl rfl), fun h => absurd h (by decide +kernel), rfl, Nat.le_of_ble_eq_true rfl, by decide +kernel, by decide +kernel, by decide +kernel, by decide +kernel⟩
set_option maxRecDepth 100000 in
theorem mm_q170 : mm_qP 170 := ⟨mm_rk170, (mm_tw7 42 rfl rfl), (mm_tw1 14 rfl rfl), fun _ => (mm_tw7 41 rfl rfl), fun h => absurd h (by decide +kernel), rfl, Nat.le_of_ble_eq_true rfl, by decide +kernel, by decide +kernel, by decide +kernel, by decide +kernel⟩
set_option maxRecDepth 100000 in
theorem mm_q171 : mm_qP 171 := ⟨mm_rk171, (mm_tw7 39 rfl rfl), (mm_tw1 14 rfl rfl), fun h => absurd h (by decide +kernel), fun _ => ⟨(mm_tw7 38 rfl rfl), (mm_tp 57 (by decide +kernel) rfl), _, rfl, rfl, Nat.le_of_ble_eq_true rfl, Nat.le_of_ble_eq_true rfl⟩, rfl, Nat.le_of_ble_eq_true rfl, by decide +kernel, by decide +kernel, by decide +kernel, by decide +kernel⟩
set_option maxRecDepth 100000 in
theorem mm_q172 : mm_qP 172 := ⟨mm_rk172, (mm_tw7 126 rfl rfl), (mm_tw1 14 rfl rfl), fun h => absurd h (by decide +kernel), fun _ => ⟨(mm_tw7 125 rfl rfl), (mm_tp 75 (by decide +kernel) rfl), _, rfl, rfl, Nat.le_of_ble_eq_true rfl, Nat.le_of_ble_eq_true rfl⟩, rfl, Nat.le_of_ble_eq_true rfl, by decide +kernel, by decide +kernel, by decide +kernel, by decide +kernel⟩
set_option maxRecDepth 100000 in
theorem mm_q173 : mm_qP 173 := ⟨mm_rk173, (mm_tw7 84 rfl rfl), (mm_tw1 14 rfl rfl), fun h => absurd h (by decide +kernel), fun _ => ⟨(mm_tw7 83 rfl rfl), (mm_tp 66 (by decide +kernel) rfl), _, rfl, rfl, Nat.le_of_ble_eq_true rfl, Nat.le_of_ble_eq_true rfl⟩, rfl, Nat.le_of_ble_eq_true rfl, by decide +kernel, by decide +kernel, by decide +kernel, by decide +kernel⟩
set_option maxRecDepth 100000 in
theorem mm_q174 : mm_qP 174 := ⟨mm_rk174, (mm_tw7 53 rfl rfl), (mm_tw1 14 rfl rfl), fun h => absurd h (by decide +kernel), fun _ => ⟨(mm_tw7 52 rfl rfl), (mm_tp 59 (by decide +kernel) rfl), _, rfl, rfl, Nat.le_of_ble_eq_true rfl, Nat.le_of_ble_eq_true rfl⟩, rfl, Nat.le_of_ble_eq_true rfl, by decide +kernel, by decide +kernel, by decide +kernel, by decide +kernel⟩
set_option maxRecDepth 100000 in
theorem mm_q175 : mm_qP 175 := ⟨mm_rk175, (mm_tw7 61 rfl rfl), (mm_tw1 14 rfl rfl), fun h => absurd h (by decide +kernel), fun _ => ⟨(mm_tw7 60 rfl rfl), (mm_tp 61 (by decide +kernel) rfl), _, rfl, rfl, Nat.le_of_ble_eq_true rfl, Nat.le_of_ble_eq_true rfl⟩, rfl, Nat.le_of_ble_eq_true rfl, by decide +kernel, by decide +kernel, by decide +kernel, by decide +kernel⟩
set_option maxRecDepth 100000 in
theorem mm_q176 : mm_qP 176 := ⟨mm_rk176, (mm_tw7 122 rfl rfl), (mm_tw1 14 rfl rfl), fun h => absurd h (by decide +kernel), fun _ => ⟨(mm_tw7 121 rfl rfl), (mm_tp 74 (by decide +kernel) rfl), _, rfl, rfl, Nat.le_of_ble_eq_true rfl, Nat.le_of_ble_eq_true rfl⟩, rfl, Nat.le_of_ble_eq_true rfl, by decide +kernel, by decide +kernel, by decide +kernel, by decide +kernel⟩
set_option maxRecDepth 100000 in
theorem mm_q177 : mm_qP 177 := ⟨mm_rk177, (mm_tw7 11 rfl rfl), (mm_tw1 14 rfl rfl), fun h => absurd h (by decide +kernel), fun _ => ⟨(mm_tw7 10 rfl rfl), (mm_tp 52 (by decide +kernel) rfl), _, rfl, rfl, Nat.le_of_ble_eq_true rfl, Nat.le_of_ble_eq_true rfl⟩, rfl, Nat.le_of_ble_eq_true rfl, by decide +kernel, by decide +kernel, by decide +kernel, by decide +kernel⟩
set_option maxRecDepth 100000 in
theorem mm_q178 : mm_qP 178 := ⟨mm_rk178, (mm_tw6 97 rfl rfl), (mm_tw1 14 rfl rfl), fun h => absurd h (by decide +kernel), fun _ => ⟨(mm_tw6 96 rfl rfl), (mm_tp 50 (by decide +kernel) rfl), _, rfl, rfl, Nat.le_of_ble_eq_true rfl, Nat.le_of_ble_eq_true rfl⟩, rfl, Nat.le_of_ble_eq_true rfl, by decide +kernel, by decide +kernel, by decide +kernel, by decide +kernel⟩
set_option maxRecDepth 100000 in
theorem mm_q179 : mm_qP 179 := ⟨mm_rk179, (mm_tw6 101 rfl rfl), (mm_tw1 14 rfl rfl), fun h => absurd h (by decide +kernel), fun _ => ⟨(mm_tw6 100 rfl rfl), (mm_tp 51 (by decide +kernel) rfl), _, rfl, rfl, Nat.le_of_ble_eq_true rfl, Nat.le_of_ble_eq_true rfl⟩, rfl, Nat.le_of_ble_eq_true rfl, by decide +kernel, by decide +kernel, by decide +kernel, by decide +kernel⟩
set_option maxRecDepth 100000 in
theorem mm_q180 : mm_qP 180 := ⟨mm_rk180, (mm_tw7 91 rfl rfl), (mm_tw1 14 rfl rfl), fun _ => (mm_tw7 90 rfl rfl), fun h => absurd h (by decide +kernel), rfl, Nat.le_of_ble_eq_true rfl, by decide +kernel, by decide +kernel, by decide +kernel, by decide +kernel⟩
set_option maxRecDepth 100000 in
theorem mm_q181 : mm_qP 181 := ⟨mm_rk181, (mm_tw7 88 rfl rfl), (mm_tw1 14 rfl rfl), fun h => absurd h (by decide +kernel), fun _ => ⟨(mm_tw7 87 rfl rfl), (mm_tp 67 (by decide +kernel) rfl), _, rfl, rfl, Nat.le_of_ble_eq_true rfl, Nat.le_of_ble_eq_true rfl⟩, rfl, Nat.le_of_ble_eq_true rfl, by decide +kernel, by decide +kernel, by decide +kernel, by decide +kernel⟩
set_option maxRecDepth 100000 in
theorem mm_q182 : mm_qP 182 := ⟨mm_rk182, (mm_tw7 80 rfl rfl), (mm_tw1 14 rfl rfl), fun h => absurd h (by decide +kernel), fun _ => ⟨(mm_tw7 79 rfl rfl), (mm_tp 65 (by decide +kernel) rfl), _, rfl, rfl, Nat.le_of_ble_eq_true rfl, Nat.le_of_ble_eq_true rfl⟩, rfl, Nat.le_of_ble_eq_true rfl, by decide +kernel, by decide +kernel, by decide +kernel, by decide +kernel⟩
set_option maxRecDepth 100000 in
theorem mm_q183 : mm_qP 183 := ⟨mm_rk183, (mm_tw7 76 rfl rfl), (mm_tw1 14 rfl rfl), fun h => absurd h (by decide +kernel), fun _ => ⟨(mm_tw7 75 rfl rfl), (mm_tp 64 (by decide +kernel) rfl), _, rfl, rfl, Nat.le_of_ble_eq_true rfl, Nat.le_of_ble_eq_true rfl⟩, rfl, Nat.le_of_ble_eq_true rfl, by decide +kernel, by decide +kernel, by decide +kernel, by decide +kernel⟩
set_option maxRecDepth 100000 in
theorem mm_q184 : mm_qP 184 := ⟨mm_rk184, (mm_tw7 68 rfl rfl), (mm_tw1 14 rfl rfl), fun h => absurd h (by decide +kernel), fun _ => ⟨(mm_tw7 67 rfl rfl), (mm_tp 62 (by decide +kernel) rfl), _, rfl, rfl, Nat.le_of_ble_eq_true rfl, Nat.le_of_ble_eq_true rfl⟩, rfl, Nat.le_of_ble_eq_true rfl, by decide +kernel, by decide +kernel, by decide +kernel, by decide +kernel⟩
set_option maxRecDepth 100000 in
theorem mm_q185 : mm_qP 185 := ⟨mm_rk185, (mm_tw7 57 rfl rfl), (mm_tw1 14 rfl rfl), fun h => absurd h (by decide +kernel), fun _ => ⟨(mm_tw7 56 rfl rfl), (mm_tp 60 (by decide +kernel) rfl), _, rfl, rfl, Nat.le_of_ble_eq_true rfl, Nat.le_of_ble_eq_true rfl⟩, rfl, Nat.le_of_ble_eq_true rfl, by decide +kernel, by decide +kernel, by decide +kernel, by decide +kernel⟩
set_option maxRecDepth 100000 in
theorem mm_q186 : mm_qP 186 := ⟨mm_rk186, (mm_tw7 49 rfl rfl), (mm_tw1 14 rfl rfl), fun h => absurd h (by decide +kernel), fun _ => ⟨(mm_tw7 48 rfl rfl), (mm_tp 58 (by decide +kernel) rfl), _, rfl, rfl, Nat.le_of_ble_eq_true rfl, Nat.le_of_ble_eq_true rfl⟩, rfl, Nat.le_of_ble_eq_true rfl, by decide +kernel, by decide +kernel, by decide +kernel, by decide +kernel⟩
set_option maxRecDepth 100000 in
theorem mm_q187 : mm_qP 187 := ⟨mm_rk187, (mm_tw7 72 rfl rfl), (mm_tw1 14 rfl rfl), fun h => absurd h (by decide +kernel), fun _ => ⟨(mm_tw7 71 rfl rfl), (mm_tp 63 (by decide +kernel) rfl), _, rfl, rfl, Nat.le_of_ble_eq_true rfl, Nat.le_of_ble_eq_true rfl⟩, rfl, Nat.le_of_ble_eq_true rfl, by decide +kernel, by decide +kernel, by decide +kernel, by decide +kernel⟩
set_option maxRecDepth 100000 in
theorem mm_q188 : mm_qP 188 := ⟨mm_rk188, (mm_tw7 99 rfl rfl), (mm_tw1 14 rfl rfl), fun h => absurd h (by decide +kernel), fun _ => ⟨(mm_tw7 98 rfl rfl), (mm_tp 69 (by decide +kernel) rfl), _, rfl, rfl, Nat.le_of_ble_eq_true rfl, Nat.le_of_ble_eq_true rfl⟩, rfl, Nat.le_of_ble_eq_true rfl, by decide +kernel, by decide +kernel, by decide +kernel, by decide +kernel⟩
set_option maxRecDepth 100000 in
theorem mm_q189 : mm_qP 189 := ⟨mm_rk189, (mm_tw7 95 rfl rfl), (mm_tw1 14 rfl rfl), fun h => absurd h (by decide +kernel), fun _ => ⟨(mm_tw7 94 rfl rfl), (mm_tp 68 (by decide +kernel) rfl), _, rfl, rfl, Nat.le_of_ble_eq_true rfl, Nat.le_of_ble_eq_true rfl⟩, rfl, Nat.le_of_ble_eq_true rfl, by decide +kernel, by decide +kernel, by decide +kernel, by decide +kernel⟩
set_option maxRecDepth 100000 in
theorem mm_q190 : mm_qP 190 := ⟨mm_rk190, (mm_tw7 103 rfl rfl), (mm_tw1 14 rfl rfl), fun h => absurd h (by decide +kernel), fun _ => ⟨(mm_tw7 102 rfl rfl), (mm_tp 70 (by decide +kernel) rfl), _, rfl, rfl, Nat.le_of_ble_eq_true rfl, Nat.le_of_ble_eq_true rfl⟩, rfl, Nat.le_of_ble_eq_true rfl, by decide +kernel, by decide +kernel, by decide +kernel, by decide +kernel⟩
set_option maxRecDepth 100000 in
theorem mm_q191 : mm_qP 191 := ⟨mm_rk191, (mm_tw7 111 rfl rfl), (mm_tw1 14 rfl rfl), fun h => absurd h (by decide +kernel), fun _ => ⟨(mm_tw7 110 rfl rfl), (mm_tp 72 (by decide +kernel) rfl), _, rfl, rfl, Nat.le_of_ble_eq_true rfl, Nat.le_of_ble_eq_true rfl⟩, rfl, Nat.le_of_ble_eq_true rfl, by decide +kernel, by decide +kernel, by decide +kernel, by decide +kernel⟩
set_option maxRecDepth 100000 in
theorem mm_q192 : mm_qP 192 := ⟨mm_rk192, (mm_tw7 107 rfl rfl), (mm_tw1 14 rfl rfl), fun h => absurd h (by decide +kernel), fun _ => ⟨(mm_tw7 106 rfl rfl), (mm_tp 71 (by decide +kernel) rfl), _, rfl, rfl, Nat.le_of_ble_eq_true rfl, Nat.le_of_ble_eq_true rfl⟩, rfl, Nat.le_of_ble_eq_true rfl, by decide +kernel, by decide +kernel, by decide +kernel, by decide +kernel⟩
set_option maxRecDepth 100000 in
theorem mm_q193 : mm_qP 193 := ⟨mm_rk193, (mm_tw7 118 rfl rfl), (mm_tw1 14 rfl rfl), fun h => absurd h (by decide +kernel), fun _ => ⟨(mm_tw7 117 rfl rfl), (mm_tp 73 (by decide +kernel) rfl), _, rfl, rfl, Nat.le_of_ble_eq_true rfl, Nat.le_of_ble_eq_true rfl⟩, rfl, Nat.le_of_ble_eq_true rfl, by decide +kernel, by decide +kernel, by decide +kernel, by decide +kernel⟩
set_option maxRecDepth 100000 in
theorem mm_q194 : mm_qP 194 := ⟨mm_rk194, (mm_tw7 35 rfl rfl), (mm_tw1 14 rfl rfl), fun h => absurd h (by decide +kernel), fun _ => ⟨(mm_tw7 34 rfl rfl), (mm_tp 56 (by decide +kernel) rfl), _, rfl, rfl, Nat.le_of_ble_eq_true rfl, Nat.le_of_ble_eq_true rfl⟩, rfl, Nat.le_of_ble_eq_true rfl, by decide +kernel, by decide +kernel, by decide +kernel, by decide +kernel⟩
set_option maxRecDepth 100000 in
theorem mm_q195 : mm_qP 195 := ⟨mm_rk195, (mm_tw7 7 rfl rfl), (mm_tw1 14 rfl rfl), fun h => absurd h (by decide +kernel), fun _ => ⟨(mm_tw7 5 rfl rfl), (mm_tw7 6 rfl rfl), _, rfl, rfl, Nat.le_of_ble_eq_true rfl, Nat.le_of_ble_eq_true rfl⟩, rfl, Nat.le_of_ble_eq_true rfl, by decide +kernel, by decide +kernel, by decide +kernel, by decide +kernel⟩
set_option maxRecDepth 100000 in
theorem mm_q196 : mm_qP 196 := ⟨mm_rk196, (mm_tw7 130 rfl rfl), (mm_tw1 14 rfl rfl), fun h => absurd h (by decide +kernel), fun _ => ⟨(mm_tw7 128 rfl rfl), (mm_tw7 129 rfl rfl), _, rfl, rfl, Nat.le_of_ble_eq_true rfl, Nat.le_of_ble_eq_true rfl⟩, rfl, Nat.le_of_ble_eq_true rfl, by decide +kernel, by decide +kernel, by decide +kernel, by decide +kernel⟩
set_option maxRecDepth 100000 in
theorem mm_q197 : mm_qP 197 := ⟨mm_rk197, (mm_tw7 174 rfl rfl), (mm_tw1 14 rfl rfl), fun h => absurd h (by decide +kernel), fun _ => ⟨(mm_tw7 173 rfl rfl), (mm_tp 83 (by decide +kernel) rfl), _, rfl, rfl, Nat.le_of_ble_eq_true rfl, Nat.le_of_ble_eq_true rfl⟩, rfl, Nat.le_of_ble_eq_true rfl, by decide +kernel, by decide +kernel, by decide +kernel, by decide +kernel⟩
set_option maxRecDepth 100000 in
theorem mm_q198 : mm_qP 198 := ⟨mm_rk198, (mm_tw7 138 rfl rfl), (mm_tw1 14 rfl rfl), fun h => absurd h (by decide +kernel), fun _ => ⟨(mm_tw7 137 rfl rfl), (mm_tp 76 (by decide +kernel) rfl), _, rfl, rfl, Nat.le_of_ble_eq_true rfl, Nat.le_of_ble_eq_true rfl⟩, rfl, Nat.le_of_ble_eq_true rfl, by decide +kernel, by decide +kernel, by decide +kernel, by decide +kernel⟩
set_option maxRecDepth 100000 in
theorem mm_q199 : mm_qP 199 := ⟨mm_rk199, (mm_tw7 166 rfl rfl), (mm_tw1 14 rfl rfl), fun h => absurd h (by decide +kernel), fun _ => ⟨(mm_tw7 165 rfl rfl), (mm_tp 82 (by decide +kernel) rfl), _, rfl, rfl, Nat.le_of_ble_eq_true rfl, Nat.le_of_ble_eq_true rfl⟩, rfl, Nat.le_of_ble_eq_true rfl, by decide +kernel, by decide +kernel, by decide +kernel, by decide +kernel⟩
set_option maxRecDepth 100000 in
theorem mm_q200 : mm_qP 200 := ⟨mm_rk200, (mm_tw7 146 rfl rfl), (mm_tw1 14 rfl rfl), fun h => absurd h (by decide +kernel), fun _ => ⟨(mm_tw7 145 rfl rfl), (mm_tp 78 (by decide +kernel) rfl), _, rfl, rfl, Nat.le_of_ble_eq_true rfl, Nat.le_of_ble_eq_true rfl⟩, rfl, Nat.le_of_ble_eq_true rfl, by decide +kernel, by decide +kernel, by decide +kernel, by decide +kernel⟩
set_option maxRecDepth 100000 in
theorem mm_q201 : mm_qP 201 := ⟨mm_rk201, (mm_tw8 9 rfl rfl), (mm_tw1 14 rfl rfl), fun h => absurd h (by decide +kernel), fun _ => ⟨(mm_tw8 8 rfl rfl), (mm_tp 92 (by decide +kernel) rfl), _, rfl, rfl, Nat.le_of_ble_eq_true rfl, Nat.le_of_ble_eq_true rfl⟩, rfl, Nat.le_of_ble_eq_true rfl, by decide +kernel, by decide +kernel, by decide +kernel, by decide +kernel⟩
set_option maxRecDepth 100000 in
theorem mm_q202 : mm_qP 202 := ⟨mm_rk202, (mm_tw7 158 rfl rfl), (mm_tw1 14 rfl rfl), fun h => absurd h (by decide +kernel), fun _ => ⟨(mm_tw7 157 rfl rfl), (mm_tp 81 (by decide +kernel) rfl), _, rfl, rfl, Nat.le_of_ble_eq_true rfl, Nat.le_of_ble_eq_true rfl⟩, rfl, Nat.le_of_ble_eq_true rfl, by decide +kernel, by decide +kernel, by decide +kernel, by decide +kernel⟩
set_option maxRecDepth 100000 in
theorem mm_q203 : mm_qP 203 := ⟨mm_rk203, (mm_tw7 154 rfl rfl), (mm_tw1 14 rfl rfl), fun h => absurd h (by decide +kernel), fun _ => ⟨(mm_tw7 153 rfl rfl), (mm_tp 80 (by decide +kernel) rfl), _, rfl, rfl, Nat.le_of_ble_eq_true rfl, Nat.le_of_ble_eq_true rfl⟩, rfl, Nat.le_of_ble_eq_true rfl, by decide +kernel, by decide +kernel, by decide +kernel, by decide +kernel⟩
set_option maxRecDepth 100000 in
theorem mm_q204 : mm_qP 204 := ⟨mm_rk204, (mm_tw7 150 rfl rfl), (mm_tw1 14 rfl rfl), fun h => absurd h (by decide +kernel), fun _ => ⟨(mm_tw7 149 rfl rfl), (mm_tp 79 (by decide +kernel) rfl), _, rfl, rfl, Nat.le_of_ble_eq_true rfl, Nat.le_of_ble_eq_true rfl⟩, rfl, Nat.le_of_ble_eq_true rfl, by decide +kernel, by decide +kernel, by decide +kernel, by decide +kernel⟩
set_option maxRecDepth 100000 in
theorem mm_q205 : mm_qP 205 := ⟨mm_rk205, (mm_tw7 134 rfl rfl), (mm_tw1 14 rfl rfl), fun h => absurd h (by decide +kernel), fun _ => ⟨(mm_tw7 132 rfl rfl), (mm_tw7 133 rfl rfl), _, rfl, rfl, Nat.le_of_ble_eq_true rfl, Nat.le_of_ble_eq_true rfl⟩, rfl, Nat.le_of_ble_eq_true rfl, by decide +kernel, by decide +kernel, by decide +kernel, by decide +kernel⟩
set_option maxRecDepth 100000 in
theorem mm_q206 : mm_qP 206 := ⟨mm_rk206, (mm_tw7 162 rfl rfl), (mm_tw1 14 rfl rfl), fun h => absurd h (by decide +kernel), fun _ => ⟨(mm_tw7 160 rfl rfl), (mm_tw7 161 rfl rfl), _, rfl, rfl, Nat.le_of_ble_eq_true rfl, Nat.le_of_ble_eq_true rfl⟩, rfl, Nat.le_of_ble_eq_true rfl, by decide +kernel, by decide +kernel, by decide +kernel, by decide +kernel⟩
set_option maxRecDepth 100000 in
theorem mm_q207 : mm_qP 207 := ⟨mm_rk207, (mm_tw7 170 rfl rfl), (mm_tw1 14 rfl rfl), fun h => absurd h (by decide +kernel), fun _ => ⟨(mm_tw7 168 rfl rfl), (mm_tw7 169 rfl rfl), _, rfl, rfl, Nat.le_of_ble_eq_true rfl, Nat.le_of_ble_eq_true rfl⟩, rfl, Nat.le_of_ble_eq_true rfl, by decide +kernel, by decide +kernel, by decide +kernel, by decide +kernel⟩
set_option maxRecDepth 100000 in
theorem mm_q208 : mm_qP 208 := ⟨mm_rk208, (mm_tw7 178 rfl rfl), (mm_tw1 14 rfl rfl), fun h => absurd h (by decide +kernel), fun _ => ⟨(mm_tw7 176 rfl rfl), (mm_tw7 177 rfl rfl), _, rfl, rfl, Nat.le_of_ble_eq_true rfl, Nat.le_of_ble_eq_true rfl⟩, rfl, Nat.le_of_ble_eq_true rfl, by decide +kernel, by decide +kernel, by decide +kernel, by decide +kernel⟩
set_option maxRecDepth 100000 in
theorem mm_q209 : mm_qP 209 := ⟨mm_rk209, (mm_tw7 198 rfl rfl), (mm_tw1 14 rfl rfl), fun h => absurd h (by decide +kernel), fun _ => ⟨(mm_tw7 197 rfl rfl), (mm_tp 87 (by decide +kernel) rfl), _, rfl, rfl, Nat.le_of_ble_eq_true rfl, Nat.le_of_ble_eq_true rfl⟩, rfl, Nat.le_of_ble_eq_true rfl, by decide +kernel, by decide +kernel, by decide +kernel, by decide +kernel⟩
set_option maxRecDepth 100000 in
theorem mm_q210 : mm_qP 210 := ⟨mm_rk210, (mm_tw7 194 rfl rfl), (mm_tw1 14 rfl rfl), fun h => absurd h (by decide +kernel), fun _ => ⟨(mm_tw7 193 rfl rfl), (mm_tp 86 (by decide +kernel) rfl), _, rfl, rfl, Nat.le_of_ble_eq_true rfl, Nat.le_of_ble_eq_true rfl⟩, rfl, Nat.le_of_ble_eq_true rfl, by decide +kernel, by decide +kernel, by decide +kernel, by decide +kernel⟩
set_option maxRecDepth 100000 in
theorem mm_q211 : mm_qP 211 := ⟨mm_rk211, (mm_tw7 190 rfl rfl), (mm_tw1 14 rfl rfl), fun h => absurd h (by decide +kernel), fun _ => ⟨(mm_tw7 189 rfl rfl), (mm_tp 85 (by decide +kernel) rfl), _, rfl, rfl, Nat.le_of_ble_eq_true rfl, Nat.le_of_ble_eq_true rfl⟩, rfl, Nat.le_of_ble_eq_true rfl, by decide +kernel, by decide +kernel, by decide +kernel, by decide +kernel⟩
set_option maxRecDepth 100000 in
theorem mm_q212 : mm_qP 212 := ⟨mm_rk212, (mm_tw7 209 rfl rfl), (mm_tw1 14 rfl rfl), fun h => absurd h (by decide +kernel), fun _ => ⟨(mm_tw7 208 rfl rfl), (mm_tp 89 (by decide +kernel) rfl), _, rfl, rfl, Nat.le_of_ble_eq_true rfl, Nat.le_of_ble_eq_true rfl⟩, rfl, Nat.le_of_ble_eq_true rfl, by decide +kernel, by decide +kernel, by decide +kernel, by decide +kernel⟩
set_option maxRecDepth 100000 in
theorem mm_q213 : mm_qP 213 := ⟨mm_rk213, (mm_tw7 202 rfl rfl), (mm_tw1 14 rfl rfl), fun h => absurd h (by decide +kernel), fun _ => ⟨(mm_tw7 201 rfl rfl), (mm_tp 88 (by decide +kernel) rfl), _, rfl, rfl, Nat.le_of_ble_eq_true rfl, Nat.le_of_ble_eq_true rfl⟩, rfl, Nat.le_of_ble_eq_true rfl, by decide +kernel, by decide +kernel, by decide +kernel, by decide +kernel⟩
set_option maxRecDepth 100000 in
theorem mm_q214 : mm_qP 214 := ⟨mm_rk214, (mm_tw7 186 rfl rfl), (mm_tw1 14 rfl rfl), fun h => absurd h (by decide +kernel), fun _ => ⟨(mm_tw7 185 rfl rfl), (mm_tp 84 (by decide +kernel) rfl), _, rfl, rfl, Nat.le_of_ble_eq_true rfl, Nat.le_of_ble_eq_true rfl⟩, rfl, Nat.le_of_ble_eq_true rfl, by decide +kernel, by decide +kernel, by decide +kernel, by decide +kernel⟩
set_option maxRecDepth 100000 in
theorem mm_q215 : mm_qP 215 := ⟨mm_rk215, (mm_tw7 182 rfl rfl), (mm_tw1 14 rfl rfl), fun h => absurd h (by decide +kernel), fun _ => ⟨(mm_tw7 180 rfl rfl), (mm_tw7 181 rfl rfl), _, rfl, rfl, Nat.le_of_ble_eq_true rfl, Nat.le_of_ble_eq_true rfl⟩, rfl, Nat.le_of_ble_eq_true rfl, by decide +kernel, by decide +kernel, by decide +kernel, by decide +kernel⟩
set_option maxRecDepth 100000 in
theorem mm_q216 : mm_qP 216 := ⟨mm_rk216, (mm_tw7 213 rfl rfl), (mm_tw1 14 rfl rfl), fun h => absurd h (by decide +kernel), fun _ => ⟨(mm_tw7 211 rfl rfl), (mm_tw7 212 rfl rfl), _, rfl, rfl, Nat.le_of_ble_eq_true rfl, Nat.le_of_ble_eq_true rfl⟩, rfl, Nat.le_of_ble_eq_true rfl, by decide +kernel, by decide +kernel, by decide +kernel, by decide +kernel⟩
set_option maxRecDepth 100000 in
theorem mm_q217 : mm_qP 217 := ⟨mm_rk217, (mm_tw7 217 rfl rfl), (mm_tw1 14 rfl rfl), fun h => absurd h (by decide +kernel), fun _ => ⟨(mm_tw7 215 rfl rfl), (mm_tw7 216 rfl rfl), _, rfl, rfl, Nat.le_of_ble_eq_true rfl, Nat.le_of_ble_eq_true rfl⟩, rfl, Nat.le_of_ble_eq_true rfl, by decide +kernel, by decide +kernel, by decide +kernel, by decide +kernel⟩
set_option maxRecDepth 100000 in
theorem mm_q218 : mm_qP 218 := ⟨mm_rk218, (mm_tw7 221 rfl rfl), (mm_tw1 14 rfl rfl), fun h => absurd h (by decide +kernel), fun _ => ⟨(mm_tw7 219 rfl rfl), (mm_tw7 220 rfl rfl), _, rfl, rfl, Nat.le_of_ble_eq_true rfl, Nat.le_of_ble_eq_true rfl⟩, rfl, Nat.le_of_ble_eq_true rfl, by decide +kernel, by decide +kernel, by decide +kernel, by decide +kernel⟩
set_option maxRecDepth 100000 in
theorem mm_q219 : mm_qP 219 := ⟨mm_rk219, (mm_tw7 225 rfl rfl), (mm_tw1 14 rfl rfl), fun h => absurd h (by decide +kernel), fun _ => ⟨(mm_tw7 223 rfl rfl), (mm_tw7 224 rfl rfl), _, rfl, rfl, Nat.le_of_ble_eq_true rfl, Nat.le_of_ble_eq_true rfl⟩, rfl, Nat.le_of_ble_eq_true rfl, by decide +kernel, by decide +kernel, by decide +kernel, by decide +kernel⟩
set_option maxRecDepth 100000 in
theorem mm_q220 : mm_qP 220 := ⟨mm_rk220, (mm_tw7 229 rfl rfl), (mm_tw1 14 rfl rfl), fun h => absurd h (by decide +kernel), fun _ => ⟨(mm_tw7 227 rfl rfl), (mm_tw7 228 rfl rfl), _, rfl, rfl, Nat.le_of_ble_eq_true rfl, Nat.le_of_ble_eq_true rfl⟩, rfl, Nat.le_of_ble_eq_true rfl, by decide +kernel, by decide +kernel, by decide +kernel, by decide +kernel⟩
set_option maxRecDepth 100000 in
theorem mm_q221 : mm_qP 221 := ⟨mm_rk221, (mm_tw7 233 rfl rfl), (mm_tw1 14 rfl rfl), fun h => absurd h (by decide +kernel), fun _ => ⟨(mm_tw7 231 rfl rfl), (mm_tw7 232 rfl rfl), _, rfl, rfl, Nat.le_of_ble_eq_true rfl, Nat.le_of_ble_eq_true rfl⟩, rfl, Nat.le_of_ble_eq_true rfl, by decide +kernel, by decide +kernel, by decide +kernel, by decide +kernel⟩
set_option maxRecDepth 100000 in
theorem mm_q222 : mm_qP 222 := ⟨mm_rk222, (mm_tw8 13 rfl rfl), (mm_tw1 14 rfl rfl), fun h => absurd h (by decide +kernel), fun _ => ⟨(mm_tw8 12 rfl rfl), (mm_tp 93 (by decide +kernel) rfl), _, rfl, rfl, Nat.le_of_ble_eq_true rfl, Nat.le_of_ble_eq_true rfl⟩, rfl, Nat.le_of_ble_eq_true rfl, by decide +kernel, by decide +kernel, by decide +kernel, by decide +kernel⟩
set_option maxRecDepth 100000 in
theorem mm_q223 : mm_qP 223 := ⟨mm_rk223, (mm_tw8 5 rfl rfl), (mm_tw1 14 rfl rfl), fun h => absurd h (by decide +kernel), fun _ => ⟨(mm_tw8 4 rfl rfl), (mm_tp 91 (by decide +kernel) rfl), _, rfl, rfl, Nat.le_of_ble_eq_true rfl, Nat.le_of_ble_eq_true rfl⟩, rfl, Nat.le_of_ble_eq_true rfl, by decide +kernel, by decide +kernel, by decide +kernel, by decide +kernel⟩
set_option maxRecDepth 100000 in
theorem mm_q224 : mm_qP 224 := ⟨mm_rk224, (mm_tw8 1 rfl rfl), (mm_tw1 14 rfl rfl), fun h => absurd h (by decide +kernel), fun _ => ⟨(mm_tw8 0 rfl rfl), (mm_tp 90 (by decide +kernel) rfl), _, rfl, rfl, Nat.le_of_ble_eq_true rfl, Nat.le_of_ble_eq_true rfl⟩, rfl, Nat.le_of_ble_eq_true rfl, by decide +kernel, by decide +kernel, by decide +kernel, by decide +kernel⟩
set_option maxRecDepth 100000 in
theorem mm_q225 : mm_qP 225 := ⟨mm_rk225, (mm_tw7 237 rfl rfl), (mm_tw1 14 rfl rfl), fun h => absurd h (by decide +kernel), fun _ => ⟨(mm_tw7 235 rfl rfl), (mm_tw7 236 rfl rfl), _, rfl, rfl, Nat.le_of_ble_eq_true rfl, Nat.le_of_ble_eq_true rfl⟩, rfl, Nat.le_of_ble_eq_true rfl, by decide +kernel, by decide +kernel, by decide +kernel, by decide +kernel⟩
set_option maxRecDepth 100000 in
theorem mm_q226 : mm_qP 226 := ⟨mm_rk226, (mm_tw8 21 rfl rfl), (mm_tw1 14 rfl rfl), fun h => absurd h (by decide +kernel), fun _ => ⟨(mm_tw8 20 rfl rfl), (mm_tp 94 (by decide +kernel) rfl), _, rfl, rfl, Nat.le_of_ble_eq_true rfl, Nat.le_of_ble_eq_true rfl⟩, rfl, Nat.le_of_ble_eq_true rfl, by decide +kernel, by decide +kernel, by decide +kernel, by decide +kernel⟩
set_option maxRecDepth 100000 in
theorem mm_q227 : mm_qP 227 := ⟨mm_rk227, (mm_tw8 17 rfl rfl), (mm_tw1 14 rfl rfl), fun h => absurd h (by decide +kernel), fun _ => ⟨(mm_tw8 15 rfl rfl), (mm_tw8 16 rfl rfl), _, rfl, rfl, Nat.le_of_ble_eq_true rfl, Nat.le_of_ble_eq_true rfl⟩, rfl, Nat.le_of_ble_eq_true rfl, by decide +kernel, by decide +kernel, by decide +kernel, by decide +kernel⟩
set_option maxRecDepth 100000 in
theorem mm_q228 : mm_qP 228 := ⟨mm_rk228, (mm_tw8 25 rfl rfl), (mm_tw1 14 rfl rfl), fun h => absurd h (by decide +kernel), fun _ => ⟨(mm_tw8 23 rfl rfl), (mm_tw8 24 rfl rfl), _, rfl, rfl, Nat.le_of_ble_eq_true rfl, Nat.le_of_ble_eq_true rfl⟩, rfl, Nat.le_of_ble_eq_true rfl, by decide +kernel, by decide +kernel, by decide +kernel, by decide +kernel⟩
set_option maxRecDepth 100000 in
theorem mm_q229 : mm_qP 229 := ⟨mm_rk229, (mm_tw8 37 rfl rfl), (mm_tw1 14 rfl rfl), fun h => absurd h (by decide +kernel), fun _ => ⟨(mm_tw8 36 rfl rfl), (mm_tp 96 (by decide +kernel) rfl), _, rfl, rfl, Nat.le_of_ble_eq_true rfl, Nat.le_of_ble_eq_true rfl⟩, rfl, Nat.le_of_ble_eq_true rfl, by decide +kernel, by decide +kernel, by decide +kernel, by decide +kernel⟩
set_option maxRecDepth 100000 in
theorem mm_q230 : mm_qP 230 := ⟨mm_rk230, (mm_tw8 42 rfl rfl), (mm_tw1 14 rfl rfl), fun h => absurd h (by decide +kernel), fun _ => ⟨(mm_tw8 41 rfl rfl), (mm_tp 97 (by decide +kernel) rfl), _, rfl, rfl, Nat.le_of_ble_eq_true rfl, Nat.le_of_ble_eq_true rfl⟩, rfl, Nat.le_of_ble_eq_true rfl, by decide +kernel, by decide +kernel, by decide +kernel, by decide +kernel⟩
set_option maxRecDepth 100000 in
theorem mm_q231 : mm_qP 231 := ⟨mm_rk231, (mm_tw8 33 rfl rfl), (mm_tw1 14 rfl rfl), fun h => absurd h (by decide +kernel), fun _ => ⟨(mm_tw8 32 rfl rfl), (mm_tp 95 (by decide +kernel) rfl), _, rfl, rfl, Nat.le_of_ble_eq_true rfl, Nat.le_of_ble_eq_true rfl⟩, rfl, Nat.le_of_ble_eq_true rfl, by decide +kernel, by decide +kernel, by decide +kernel, by decide +kernel⟩
set_option maxRecDepth 100000 in
theorem mm_q232 : mm_qP 232 := ⟨mm_rk232, (mm_tw8 29 rfl rfl), (mm_tw1 14 rfl rfl), fun h => absurd h (by decide +kernel), fun _ => ⟨(mm_tw8 27 rfl rfl), (mm_tw8 28 rfl rfl), _, rfl, rfl, Nat.le_of_ble_eq_true rfl, Nat.le_of_ble_eq_true rfl⟩, rfl, Nat.le_of_ble_eq_true rfl, by decide +kernel, by decide +kernel, by decide +kernel, by decide +kernel⟩
set_option maxRecDepth 100000 in
theorem mm_q233 : mm_qP 233 := ⟨mm_rk233, (mm_tw8 46 rfl rfl), (mm_tw1 14 rfl rfl), fun h => absurd h (by decide +kernel), fun _ => ⟨(mm_tw8 44 rfl rfl), (mm_tw8 45 rfl rfl), _, rfl, rfl, Nat.le_of_ble_eq_true rfl, Nat.le_of_ble_eq_true rfl⟩, rfl, Nat.le_of_ble_eq_true rfl, by decide +kernel, by decide +kernel, by decide +kernel, by decide +kernel⟩
set_option maxRecDepth 100000 in
theorem mm_q234 : mm_qP 234 := ⟨mm_rk234, (mm_tw8 50 rfl rfl), (mm_tw1 14 rfl rfl), fun h => absurd h (by decide +kernel), fun _ => ⟨(mm_tw8 48 rfl rfl), (mm_tw8 49 rfl rfl), _, rfl, rfl, Nat.le_of_ble_eq_true rfl, Nat.le_of_ble_eq_true rfl⟩, rfl, Nat.le_of_ble_eq_true rfl, by decide +kernel, by decide +kernel, by decide +kernel, by decide +kernel⟩
set_option maxRecDepth 100000 in
theorem mm_q235 : mm_qP 235 := ⟨mm_rk235, (mm_tw8 54 rfl rfl), (mm_tw1 14 rfl rfl), fun h => absurd h (by decide +kernel), fun _ => ⟨(mm_tw8 52 rfl rfl), (mm_tw8 53 rfl rfl), _, rfl, rfl, Nat.le_of_ble_eq_true rfl, Nat.le_of_ble_eq_true rfl⟩, rfl, Nat.le_of_ble_eq_true rfl, by decide +kernel, by decide +kernel, by decide +kernel, by decide +kernel⟩
set_option maxRecDepth 100000 in
theorem mm_q236 : mm_qP 236 := ⟨mm_rk236, (mm_tw8 65 rfl rfl), (mm_tw1 14 rfl rfl), fun h => absurd h (by decide +kernel), fun _ => ⟨(mm_tw8 64 rfl rfl), (mm_tp 98 (by decide +kernel) rfl), _, rfl, rfl, Nat.le_of_ble_eq_true rfl, Nat.le_of_ble_eq_true rfl⟩, rfl, Nat.le_of_ble_eq_true rfl, by decide +kernel, by decide +kernel, by decide +kernel, by decide +kernel⟩
set_option maxRecDepth 100000 in
theorem mm_q237 : mm_qP 237 := ⟨mm_rk237, (mm_tw8 69 rfl rfl), (mm_tw1 14 rfl rfl), fun h => absurd h (by decide +kernel), fun _ => ⟨(mm_tw8 68 rfl rfl), (mm_tp 99 (by decide +kernel) rfl), _, rfl, rfl, Nat.le_of_ble_eq_true rfl, Nat.le_of_ble_eq_true rfl⟩, rfl, Nat.le_of_ble_eq_true rfl, by decide +kernel, by decide +kernel, by decide +kernel, by decide +kernel⟩
set_option maxRecDepth 100000 in
theorem mm_q238 : mm_qP 238 := ⟨mm_rk238, (mm_tw8 61 rfl rfl), (mm_tw1 14 rfl rfl), fun h => absurd h (by decide +kernel), fun _ => ⟨(mm_tw8 59 rfl rfl), (mm_tw8 60 rfl rfl), _, rfl, rfl, Nat.le_of_ble_eq_true rfl, Nat.le_of_ble_eq_true rfl⟩, rfl, Nat.le_of_ble_eq_true rfl, by decide +kernel, by decide +kernel, by decide +kernel, by decide +kernel⟩
set_option maxRecDepth 100000 in
theorem mm_q239 : mm_qP 239 := ⟨mm_rk239, (mm_tw8 73 rfl rfl), (mm_tw1 14 rfl rfl), fun h => absurd h (by decide +kernel), fun _ => ⟨(mm_tw8 71 rfl rfl), (mm_tw8 72 rfl rfl), _, rfl, rfl, Nat.le_of_ble_eq_true rfl, Nat.le_of_ble_eq_true rfl⟩, rfl, Nat.le_of_ble_eq_true rfl, by decide +kernel, by decide +kernel, by decide +kernel, by decide +kernel⟩
set_option maxRecDepth 100000 in
theorem mm_q240 : mm_qP 240 := ⟨mm_rk240, (mm_tw8 77 rfl rfl), (mm_tw1 14 rfl rfl), fun h => absurd h (by decide +kernel), fun _ => ⟨(mm_tw8 75 rfl rfl), (mm_tw8 76 rfl rfl), _, rfl, rfl, Nat.le_of_ble_eq_true rfl, Nat.le_of_ble_eq_true rfl⟩, rfl, Nat.le_of_ble_eq_true rfl, by decide +kernel, by decide +kernel, by decide +kernel, by decide +kernel⟩
set_option maxRecDepth 100000 in
theorem mm_q241 : mm_qP 241 := ⟨mm_rk241, (mm_tw8 81 rfl rfl), (mm_tw1 14 rfl rfl), fun h => absurd h (by decide +kernel), fun _ => ⟨(mm_tw8 79 rfl rfl), (mm_tw8 80 rfl rfl), _, rfl, rfl, Nat.le_of_ble_eq_true rfl, Nat.le_of_ble_eq_true rfl⟩, rfl, Nat.le_of_ble_eq_true rfl, by decide +kernel, by decide +kernel, by decide +kernel, by decide +kernel⟩
set_option maxRecDepth 100000 in
theorem mm_q242 : mm_qP 242 := ⟨mm_rk242, (mm_tw8 93 rfl rfl), (mm_tw1 14 rfl rfl), fun h => absurd h (by decide +kernel), fun _ => ⟨(mm_tw8 92 rfl rfl), (mm_tp 101 (by decide +kernel) rfl), _, rfl, rfl, Nat.le_of_ble_eq_true rfl, Nat.le_of_ble_eq_true rfl⟩, rfl, Nat.le_of_ble_eq_true rfl, by decide +kernel, by decide +kernel, by decide +kernel, by decide +kernel⟩
set_option maxRecDepth 100000 in
theorem mm_q243 : mm_qP 243 := ⟨mm_rk243, (mm_tw8 89 rfl rfl), (mm_tw1 14 rfl rfl), fun h => absurd h (by decide +kernel), fun _ => ⟨(mm_tw8 88 rfl rfl), (mm_tp 100 (by decide +kernel) rfl), _, rfl, rfl, Nat.le_of_ble_eq_true rfl, Nat.le_of_ble_eq_true rfl⟩, rfl, Nat.le_of_ble_eq_true rfl, by decide +kernel, by decide +kernel, by decide +kernel, by decide +kernel⟩
set_option maxRecDepth 100000 in
theorem mm_q244 : mm_qP 244 := ⟨mm_rk244, (mm_tw8 85 rfl rfl), (mm_tw1 14 rfl rfl), fun h => absurd h (by decide +kernel), fun _ => ⟨(mm_tw8 83 rfl rfl), (mm_tw8 84 rfl rfl), _, rfl, rfl, Nat.le_of_ble_eq_true rfl, Nat.le_of_ble_eq_true rfl⟩, rfl, Nat.le_of_ble_eq_true rfl, by decide +kernel, by decide +kernel, by decide +kernel, by decide +kernel⟩
set_option maxRecDepth 100000 in
theorem mm_q245 : mm_qP 245 := ⟨mm_rk245, (mm_tw8 97 rfl rfl), (mm_tw1 14 rfl rfl), fun h => absurd h (by decide +kernel), fun _ => ⟨(mm_tw8 95 rfl rfl), (mm_tw8 96 rfl rfl), _, rfl, rfl, Nat.le_of_ble_eq_true rfl, Nat.le_of_ble_eq_true rfl⟩, rfl, Nat.le_of_ble_eq_true rfl, by decide +kernel, by decide +kernel, by decide +kernel, by decide +kernel⟩
set_option maxRecDepth 100000 in
theorem mm_q246 : mm_qP 246 := ⟨mm_rk246, (mm_tw8 109 rfl rfl), (mm_tw1 14 rfl rfl), fun h => absurd h (by decide +kernel), fun _ => ⟨(mm_tw8 108 rfl rfl), (mm_tp 103 (by decide +kernel) rfl), _, rfl, rfl, Nat.le_of_ble_eq_true rfl, Nat.le_of_ble_eq_true rfl⟩, rfl, Nat.le_of_ble_eq_true rfl, by decide +kernel, by decide +kernel, by decide +kernel, by decide +kernel⟩
set_option maxRecDepth 100000 in
theorem mm_q247 : mm_qP 247 := ⟨mm_rk247, (mm_tw8 105 rfl rfl), (mm_tw1 14 rfl rfl), fun h => absurd h (by decide +kernel), fun _ => ⟨(mm_tw8 104 rfl rfl), (mm_tp 102 (by decide +kernel) rfl), _, rfl, rfl, Nat.le_of_ble_eq_true rfl, Nat.le_of_ble_eq_true rfl⟩, rfl, Nat.le_of_ble_eq_true rfl, by decide +kernel, by decide +kernel, by decide +kernel, by decide +kernel⟩
set_option maxRecDepth 100000 in
theorem mm_q248 : mm_qP 248 := ⟨mm_rk248, (mm_tw8 101 rfl rfl), (mm_tw1 14 rfl rfl), fun h => absurd h (by decide +kernel), fun _ => ⟨(mm_tw8 99 rfl rfl), (mm_tw8 100 rfl rfl), _, rfl, rfl, Nat.le_of_ble_eq_true rfl, Nat.le_of_ble_eq_true rfl⟩, rfl, Nat.le_of_ble_eq_true rfl, by decide +kernel, by decide +kernel, by decide +kernel, by decide +kernel⟩
set_option maxRecDepth 100000 in
theorem mm_q249 : mm_qP 249 := ⟨mm_rk249, (mm_tw8 116 rfl rfl), (mm_tw1 14 rfl rfl), fun h => absurd h (by decide +kernel), fun _ => ⟨(mm_tw8 114 rfl rfl), (mm_tw8 115 rfl rfl), _, rfl, rfl, Nat.le_of_ble_eq_true rfl, Nat.le_of_ble_eq_true rfl⟩, rfl, Nat.le_of_ble_eq_true rfl, by decide +kernel, by decide +kernel, by decide +kernel, by decide +kernel⟩
set_option maxRecDepth 100000 in
theorem mm_q250 : mm_qP 250 := ⟨mm_rk250, (mm_tw8 128 rfl rfl), (mm_tw1 14 rfl rfl), fun h => absurd h (by decide +kernel), fun _ => ⟨(mm_tw8 127 rfl rfl), (mm_tp 105 (by decide +kernel) rfl), _, rfl, rfl, Nat.le_of_ble_eq_true rfl, Nat.le_of_ble_eq_true rfl⟩, rfl, Nat.le_of_ble_eq_true rfl, by decide +kernel, by decide +kernel, by decide +kernel, by decide +kernel⟩
set_option maxRecDepth 100000 in
theorem mm_q251 : mm_qP 251 := ⟨mm_rk251, (mm_tw8 124 rfl rfl), (mm_tw1 14 rfl rfl), fun h => absurd h (by decide +kernel), fun _ => ⟨(mm_tw8 123 rfl rfl), (mm_tp 104 (by decide +kernel) rfl), _, rfl, rfl, Nat.le_of_ble_eq_true rfl, Nat.le_of_ble_eq_true rfl⟩, rfl, Nat.le_of_ble_eq_true rfl, by decide +kernel, by decide +kernel, by decide +kernel, by decide +kernel⟩
set_option maxRecDepth 100000 in
theorem mm_q252 : mm_qP 252 := ⟨mm_rk252, (mm_tw8 136 rfl rfl), (mm_tw1 14 rfl rfl), fun h => absurd h (by decide +kernel), fun _ => ⟨(mm_tw8 135 rfl rfl), (mm_tp 107 (by decide +kernel) rfl), _, rfl, rfl, Nat.le_of_ble_eq_true rfl, Nat.le_of_ble_eq_true rfl⟩, rfl, Nat.le_of_ble_eq_true rfl, by decide +kernel, by decide +kernel, by decide +kernel, by decide +kernel⟩
set_option maxRecDepth 100000 in
theorem mm_q253 : mm_qP 253 := ⟨mm_rk253, (mm_tw8 132 rfl rfl), (mm_tw1 14 rfl rfl), fun h => absurd h (by decide +kernel), fun _ => ⟨(mm_tw8 131 rfl rfl), (mm_tp 106 (by decide +kernel) rfl), _, rfl, rfl, Nat.le_of_ble_eq_true rfl, Nat.le_of_ble_eq_true rfl⟩, rfl, Nat.le_of_ble_eq_true rfl, by decide +kernel, by decide +kernel, by decide +kernel, by decide +kernel⟩
set_option maxRecDepth 100000 in
theorem mm_q254 : mm_qP 254 := ⟨mm_rk254, (mm_tw8 120 rfl rfl), (mm_tw1 14 rfl rfl), fun h => absurd h (by decide +kernel), fun _ => ⟨(mm_tw8 118 rfl rfl), (mm_tw8 119 rfl rfl), _, rfl, rfl, Nat.le_of_ble_eq_true rfl, Nat.le_of_ble_eq_true rfl⟩, rfl, Nat.le_of_ble_eq_true rfl, by decide +kernel, by decide +kernel, by decide +kernel, by decide +kernel⟩
set_option maxRecDepth 100000 in
theorem mm_q255 : mm_qP 255 := ⟨mm_rk255, (mm_tw8 140 rfl rfl), (mm_tw1 14 rfl rfl), fun h => absurd h (by decide +kernel), fun _ => ⟨(mm_tw8 138 rfl rfl), (mm_tw8 139 rfl rfl), _, rfl, rfl, Nat.le_of_ble_eq_true rfl, Nat.le_of_ble_eq_true rfl⟩, rfl, Nat.le_of_ble_eq_true rfl, by decide +kernel, by decide +kernel, by decide +kernel, by decide +kernel⟩
set_option maxRecDepth 100000 in
theorem mm_q256 : mm_qP 256 := ⟨mm_rk256, (mm_tw8 152 rfl rfl), (mm_tw1 14 rfl rfl), fun h => absurd h (by decide +kernel), fun _ => ⟨(mm_tw8 151 rfl rfl), (mm_tp 109 (by decide +kernel) rfl), _, rfl, rfl, Nat.le_of_ble_eq_true rfl, Nat.le_of_ble_eq_true rfl⟩, rfl, Nat.le_of_ble_eq_true rfl, by decide +kernel, by decide +kernel, by decide +kernel, by decide +kernel⟩
set_option maxRecDepth 100000 in
theorem mm_q257 : mm_qP 257 := ⟨mm_rk257, (mm_tw8 157 rfl rfl), (mm_tw1 14 rfl rfl), fun h => absurd h (by decide +kernel), fun _ => ⟨(mm_tw8 156 rfl rfl), (mm_tp 110 (by decide +kernel) rfl), _, rfl, rfl, Nat.le_of_ble_eq_true rfl, Nat.le_of_ble_eq_true rfl⟩, rfl, Nat.le_of_ble_eq_true rfl, by decide +kernel, by decide +kernel, by decide +kernel, by decide +kernel⟩
set_option maxRecDepth 100000 in
theorem mm_q258 : mm_qP 258 := ⟨mm_rk258, (mm_tw8 148 rfl rfl), (mm_tw1 14 rfl rfl), fun h => absurd h (by decide +kernel), fun _ => ⟨(mm_tw8 147 rfl rfl), (mm_tp 108 (by decide +kernel) rfl), _, rfl, rfl, Nat.le_of_ble_eq_true rfl, Nat.le_of_ble_eq_true rfl⟩, rfl, Nat.le_of_ble_eq_true rfl, by decide +kernel, by decide +kernel, by decide +kernel, by decide +kernel⟩
set_option maxRecDepth 100000 in
theorem mm_q259 : mm_qP 259 := ⟨mm_rk259, (mm_tw8 144 rfl rfl), (mm_tw1 14 rfl rfl), fun h => absurd h (by decide +kernel), fun _ => ⟨(mm_tw8 142 rfl rfl), (mm_tw8 143 rfl rfl), _, rfl, rfl, Nat.le_of_ble_eq_true rfl, Nat.le_of_ble_eq_true rfl⟩, rfl, Nat.le_of_ble_eq_true rfl, by decide +kernel, by decide +kernel, by decide +kernel, by decide +kernel⟩
set_option maxRecDepth 100000 in
theorem mm_q260 : mm_qP 260 := ⟨mm_rk260, (mm_tw8 161 rfl rfl), (mm_tw1 14 rfl rfl), fun h => absurd h (by decide +kernel), fun _ => ⟨(mm_tw8 159 rfl rfl), (mm_tw8 160 rfl rfl), _, rfl, rfl, Nat.le_of_ble_eq_true rfl, Nat.le_of_ble_eq_true rfl⟩, rfl, Nat.le_of_ble_eq_true rfl, by decide +kernel, by decide +kernel, by decide +kernel, by decide +kernel⟩
set_option maxRecDepth 100000 in
theorem mm_q261 : mm_qP 261 := ⟨mm_rk261, (mm_tw8 185 rfl rfl), (mm_tw1 14 rfl rfl), fun h => absurd h (by decide +kernel), fun _ => ⟨(mm_tw8 184 rfl rfl), (mm_tp 115 (by decide +kernel) rfl), _, rfl, rfl, Nat.le_of_ble_eq_true rfl, Nat.le_of_ble_eq_true rfl⟩, rfl, Nat.le_of_ble_eq_true rfl, by decide +kernel, by decide +kernel, by decide +kernel, by decide +kernel⟩
set_option maxRecDepth 100000 in
theorem mm_q262 : mm_qP 262 := ⟨mm_rk262, (mm_tw8 181 rfl rfl), (mm_tw1 14 rfl rfl), fun h => absurd h (by decide +kernel), fun _ => ⟨(mm_tw8 180 rfl rfl), (mm_tp 114 (by decide +kernel) rfl), _, rfl, rfl, Nat.le_of_ble_eq_true rfl, Nat.le_of_ble_eq_true rfl⟩, rfl, Nat.le_of_ble_eq_true rfl, by decide +kernel, by decide +kernel, by decide +kernel, by decide +kernel⟩
set_option maxRecDepth 100000 in
theorem mm_q263 : mm_qP 263 := ⟨mm_rk263, (mm_tw8 177 rfl rfl), (mm_tw1 14 rfl rfl), fun h => absurd h (by decide +kernel), fun _ => ⟨(mm_tw8 176 rfl rfl), (mm_tp 113 (by decide +kernel) rfl), _, rfl, rfl, Nat.le_of_ble_eq_true rfl, Nat.le_of_ble_eq_true rfl⟩, rfl, Nat.le_of_ble_eq_true rfl, by decide +kernel, by decide +kernel, by decide +kernel, by decide +kernel⟩
set_option maxRecDepth 100000 in
theorem mm_q264 : mm_qP 264 := ⟨mm_rk264, (mm_tw8 173 rfl rfl), (mm_tw1 14 rfl rfl), fun h => absurd h (by decide +kernel), fun _ => ⟨(mm_tw8 172 rfl rfl), (mm_tp 112 (by decide +kernel) rfl), _, rfl, rfl, Nat.le_of_ble_eq_true rfl, Nat.le_of_ble_eq_true rfl⟩, rfl, Nat.le_of_ble_eq_true rfl, by decide +kernel, by decide +kernel, by decide +kernel, by decide +kernel⟩
set_option maxRecDepth 100000 in
theorem mm_q265 : mm_qP 265 := ⟨mm_rk265, (mm_tw8 169 rfl rfl), (mm_tw1 14 rfl rfl), fun h => absurd h (by decide +kernel), fun _ => ⟨(mm_tw8 168 rfl rfl), (mm_tp 111 (by decide +kernel) rfl), _, rfl, rfl, Nat.le_of_ble_eq_true rfl, Nat.le_of_ble_eq_true rfl⟩, rfl, Nat.le_of_ble_eq_true rfl, by decide +kernel, by decide +kernel, by decide +kernel, by decide +kernel⟩
set_option maxRecDepth 100000 in
theorem mm_q266 : mm_qP 266 := ⟨mm_rk266, (mm_tw8 189 rfl rfl), (mm_tw1 14 rfl rfl), fun h => absurd h (by decide +kernel), fun _ => ⟨(mm_tw8 188 rfl rfl), (mm_tp 116 (by decide +kernel) rfl), _, rfl, rfl, Nat.le_of_ble_eq_true rfl, Nat.le_of_ble_eq_true rfl⟩, rfl, Nat.le_of_ble_eq_true rfl, by decide +kernel, by decide +kernel, by decide +kernel, by decide +kernel⟩
set_option maxRecDepth 100000 in
theorem mm_q267 : mm_qP 267 := ⟨mm_rk267, (mm_tw8 165 rfl rfl), (mm_tw1 14 rfl rfl), fun h => absurd h (by decide +kernel), fun _ => ⟨(mm_tw8 163 rfl rfl), (mm_tw8 164 rfl rfl), _, rfl, rfl, Nat.le_of_ble_eq_true rfl, Nat.le_of_ble_eq_true rfl⟩, rfl, Nat.le_of_ble_eq_true rfl, by decide +kernel, by decide +kernel, by decide +kernel, by decide +kernel⟩
set_option maxRecDepth 100000 in
theorem mm_q268 : mm_qP 268 := ⟨mm_rk268, (mm_tw8 193 rfl rfl), (mm_tw1 14 rfl rfl), fun h => absurd h (by decide +kernel), fun _ => ⟨(mm_tw8 192 rfl rfl), (mm_tp 117 (by decide +kernel) rfl), _, rfl, rfl, Nat.le_of_ble_eq_true rfl, Nat.le_of_ble_eq_true rfl⟩, rfl, Nat.le_of_ble_eq_true rfl, by decide +kernel, by decide +kernel, by decide +kernel, by decide +kernel⟩
set_option maxRecDepth 100000 in
theorem mm_q269 : mm_qP 269 := ⟨mm_rk269, (mm_tw8 197 rfl rfl), (mm_tw1 14 rfl rfl), fun h => absurd h (by decide +kernel), fun _ => ⟨(mm_tw8 195 rfl rfl), (mm_tw8 196 rfl rfl), _, rfl, rfl, Nat.le_of_ble_eq_true rfl, Nat.le_of_ble_eq_true rfl⟩, rfl, Nat.le_of_ble_eq_true rfl, by decide +kernel, by decide +kernel, by decide +kernel, by decide +kernel⟩
set_option maxRecDepth 100000 in
theorem mm_q270 : mm_qP 270 := ⟨mm_rk270, (mm_tw8 225 rfl rfl), (mm_tw1 14 rfl rfl), fun h => absurd h (by decide +kernel), fun _ => ⟨(mm_tw8 224 rfl rfl), (mm_tp 123 (by decide +kernel) rfl), _, rfl, rfl, Nat.le_of_ble_eq_true rfl, Nat.le_of_ble_eq_true rfl⟩, rfl, Nat.le_of_ble_eq_true rfl, by decide +kernel, by decide +kernel, by decide +kernel, by decide +kernel⟩
set_option maxRecDepth 100000 in
theorem mm_q271 : mm_qP 271 := ⟨mm_rk271, (mm_tw8 205 rfl rfl), (mm_tw1 14 rfl rfl), fun h => absurd h (by decide +kernel), fun _ => ⟨(mm_tw8 204 rfl rfl), (mm_tp 118 (by decide +kernel) rfl), _, rfl, rfl, Nat.le_of_ble_eq_true rfl, Nat.le_of_ble_eq_true rfl⟩, rfl, Nat.le_of_ble_eq_true rfl, by decide +kernel, by decide +kernel, by decide +kernel, by decide +kernel⟩
set_option maxRecDepth 100000 in
theorem mm_q272 : mm_qP 272 := ⟨mm_rk272, (mm_tw8 209 rfl rfl), (mm_tw1 14 rfl rfl), fun h => absurd h (by decide +kernel), fun _ => ⟨(mm_tw8 208 rfl rfl), (mm_tp 119 (by decide +kernel) rfl), _, rfl, rfl, Nat.le_of_ble_eq_true rfl, Nat.le_of_ble_eq_true rfl⟩, rfl, Nat.le_of_ble_eq_true rfl, by decide +kernel, by decide +kernel, by decide +kernel, by decide +kernel⟩
set_option maxRecDepth 100000 in
theorem mm_q273 : mm_qP 273 := ⟨mm_rk273, (mm_tw8 213 rfl rfl), (mm_tw1 14 rfl rfl), fun h => absurd h (by decide +kernel), fun _ => ⟨(mm_tw8 212 rfl rfl), (mm_tp 120 (by decide +kernel) rfl), _, rfl, rfl, Nat.le_of_ble_eq_true rfl, Nat.le_of_ble_eq_true rfl⟩, rfl, Nat.le_of_ble_eq_true rfl, by decide +kernel, by decide +kernel, by decide +kernel, by decide +kernel⟩
set_option maxRecDepth 100000 in
theorem mm_q274 : mm_qP 274 := ⟨mm_rk274, (mm_tw8 221 rfl rfl), (mm_tw1 14 rfl rfl), fun h => absurd h (by decide +kernel), fun _ => ⟨(mm_tw8 220 rfl rfl), (mm_tp 122 (by decide +kernel) rfl), _, rfl, rfl, Nat.le_of_ble_eq_true rfl, Nat.le_of_ble_eq_true rfl⟩, rfl, Nat.le_of_ble_eq_true rfl, by decide +kernel, by decide +kernel, by decide +kernel, by decide +kernel⟩
set_option maxRecDepth 100000 in
theorem mm_q275 : mm_qP 275 := ⟨mm_rk275, (mm_tw8 217 rfl rfl), (mm_tw1 14 rfl rfl), fun h => absurd h (by decide +kernel), fun _ => ⟨(mm_tw8 216 rfl rfl), (mm_tp 121 (by decide +kernel) rfl), _, rfl, rfl, Nat.le_of_ble_eq_true rfl, Nat.le_of_ble_eq_true rfl⟩, rfl, Nat.le_of_ble_eq_true rfl, by decide +kernel, by decide +kernel, by decide +kernel, by decide +kernel⟩
set_option maxRecDepth 100000 in
theorem mm_q276 : mm_qP 276 := ⟨mm_rk276, (mm_tw8 229 rfl rfl), (mm_tw1 14 rfl rfl), fun h => absurd h (by decide +kernel), fun _ => ⟨(mm_tw8 228 rfl rfl), (mm_tp 124 (by decide +kernel) rfl), _, rfl, rfl, Nat.le_of_ble_eq_true rfl, Nat.le_of_ble_eq_true rfl⟩, rfl, Nat.le_of_ble_eq_true rfl, by decide +kernel, by decide +kernel, by decide +kernel, by decide +kernel⟩
set_option maxRecDepth 100000 in
theorem mm_q277 : mm_qP 277 := ⟨mm_rk277, (mm_tw8 233 rfl rfl), (mm_tw1 14 rfl rfl), fun h => absurd h (by decide +kernel), fun _ => ⟨(mm_tw8 232 rfl rfl), (mm_tp 125 (by decide +kernel) rfl), _, rfl, rfl, Nat.le_of_ble_eq_true rfl, Nat.le_of_ble_eq_true rfl⟩, rfl, Nat.le_of_ble_eq_true rfl, by decide +kernel, by decide +kernel, by decide +kernel, by decide +kernel⟩
set_option maxRecDepth 100000 in
theorem mm_q278 : mm_qP 278 := ⟨mm_rk278, (mm_tw8 201 rfl rfl), (mm_tw1 14 rfl rfl), fun h => absurd h (by decide +kernel), fun _ => ⟨(mm_tw8 199 rfl rfl), (mm_tw8 200 rfl rfl), _, rfl, rfl, Nat.le_of_ble_eq_true rfl, Nat.le_of_ble_eq_true rfl⟩, rfl, Nat.le_of_ble_eq_true rfl, by decide +kernel, by decide +kernel, by decide +kernel, by decide +kernel⟩
set_option maxRecDepth 100000 in
theorem mm_q279 : mm_qP 279 := ⟨mm_rk279, (mm_tw9 1 rfl rfl), (mm_tw1 14 rfl rfl), fun h => absurd h (by decide +kernel), fun _ => ⟨(mm_tw9 0 rfl rfl), (mm_tp 126 (by decide +kernel) rfl), _, rfl, rfl, Nat.le_of_ble_eq_true rfl, Nat.le_of_ble_eq_true rfl⟩, rfl, Nat.le_of_ble_eq_true rfl, by decide +kernel, by decide +kernel, by decide +kernel, by decide +kernel⟩
set_option maxRecDepth 100000 in
theorem mm_q280 : mm_qP 280 := ⟨mm_rk280, (mm_tw8 237 rfl rfl), (mm_tw1 14 rfl rfl), fun h => absurd h (by decide +kernel), fun _ => ⟨(mm_tw8 235 rfl rfl), (mm_tw8 236 rfl rfl), _, rfl, rfl, Nat.le_of_ble_eq_true rfl, Nat.le_of_ble_eq_true rfl⟩, rfl, Nat.le_of_ble_eq_true rfl, by decide +kernel, by decide +kernel, by decide +kernel, by decide +kernel⟩
set_option maxRecDepth 100000 in
theorem mm_q281 : mm_qP 281 := ⟨mm_rk281, (mm_tw9 5 rfl rfl), (mm_tw1 14 rfl rfl), fun h => absurd h (by decide +kernel), fun _ => ⟨(mm_tw9 3 rfl rfl), (mm_tw9 4 rfl rfl), _, rfl, rfl, Nat.le_of_ble_eq_true rfl, Nat.le_of_ble_eq_true rfl⟩, rfl, Nat.le_of_ble_eq_true rfl, by decide +kernel, by decide +kernel, by decide +kernel, by decide +kernel⟩
set_option maxRecDepth 100000 in
theorem mm_q282 : mm_qP 282 := ⟨mm_rk282, (mm_tw9 9 rfl rfl), (mm_tw1 14 rfl rfl), fun h => absurd h (by decide +kernel), fun _ => ⟨(mm_tw9 7 rfl rfl), (mm_tw9 8 rfl rfl), _, rfl, rfl, Nat.le_of_ble_eq_true rfl, Nat.le_of_ble_eq_true rfl⟩, rfl, Nat.le_of_ble_eq_true rfl, by decide +kernel, by decide +kernel, by decide +kernel, by decide +kernel⟩
set_option maxRecDepth 100000 in
theorem mm_q283 : mm_qP 283 := ⟨mm_rk283, (mm_tw9 13 rfl rfl), (mm_tw1 14 rfl rfl), fun h => absurd h (by decide +kernel), fun _ => ⟨(mm_tw9 11 rfl rfl), (mm_tw9 12 rfl rfl), _, rfl, rfl, Nat.le_of_ble_eq_true rfl, Nat.le_of_ble_eq_true rfl⟩, rfl, Nat.le_of_ble_eq_true rfl, by decide +kernel, by decide +kernel, by decide +kernel, by decide +kernel⟩
set_option maxRecDepth 100000 in
theorem mm_q284 : mm_qP 284 := ⟨mm_rk284, (mm_tw6 4 rfl rfl), (mm_tw1 1 rfl rfl), fun h => absurd h (by decide +kernel), fun _ => ⟨(mm_tw6 2 rfl rfl), (mm_tw6 3 rfl rfl), _, rfl, rfl, Nat.le_of_ble_eq_true rfl, Nat.le_of_ble_eq_true rfl⟩, rfl, Nat.le_of_ble_eq_true rfl, by decide +kernel, by decide +kernel, by decide +kernel, by decide +kernel⟩
set_option maxRecDepth 100000 in
theorem mm_q285 : mm_qP 285 := ⟨mm_rk285, (mm_tw6 92 rfl rfl), (mm_tw1 14 rfl rfl), fun h => absurd h (by decide +kernel), fun h => absurd h (by decide +kernel), rfl, Nat.le_of_ble_eq_true rfl, by decide +kernel, by decide +kernel, by decide +kernel, by decide +kernel⟩
set_option maxRecDepth 100000 in
theorem mm_q_in : ∀ q ∈ [0, 1, 2, 3, 4, 5, 6, 7, 8, 9, 10, 11, 12, 13, 14, 15, 16, 17, 18, 19, 20, 21, 22, 23, 24, 25, 26, 27, 28, 29, 30, 31, 32, 33, 34, 35, 36, 37, 38, 39, 40, 41, 42, 43, 44, 45, 46, 47, 48, 49, 50, 51, 52, 53, 54, 55, 56, 57, 58, 59, 60, 61, 62, 63, 64, 65, 66, 67, 68, 69, 70, 71, 72, 73, 74, 75, 76, 77, 78, 79, 80, 81, 82, 83, 84, 85, 86, 87, 88, 89, 90, 91, 92, 93, 94, 95, 96, 97, 98, 99, 100, 101, 102, 103, 104, 105, 106, 107, 108, 109, 110, 111, 112, 113, 114, 115, 116, 117, 118, 119, 120, 121, 122, 123, 124, 125, 126, 127, 128, 129, 130, 131, 132, 133, 134, 135, 136, 137, 138, 139, 140, 141, 142, 143, 144, 145, 146, 147, 148, 149, 150, 151, 152, 153, 154, 155, 156, 157, 158, 159, 160, 161, 162, 163, 164, 165, 166, 167, 168, 169, 170, 171, 172, 173, 174, 175, 176, 177, 178, 179, 180, 181, 182, 183, 184, 185, 186, 187, 188, 189, 190, 191, 192, 193, 194, 195, 196, 197, 198, 199, 200, 201, 202, 203, 204, 205, 206, 207, 208, 209, 210, 211, 212, 213, 214, 215, 216, 217, 218, 219, 220, 221, 222, 223, 224, 225, 226, 227, 228, 229, 230, 231, 232, 233, 234, 235, 236, 237, 238, 239, 240, 241, 242, 243, 244, 245, 246, 247, 248, 249, 250, 251, 252, 253, 254, 255, 256, 257, 258, 259, 260, 261, 262, 263, 264, 265, 266, 267, 268, 269, 270, 271, 272, 273, 274, 275, 276, 277, 278, 279, 280, 281, 282, 283, 284, 285], mm_qP q := (List.forall_mem_cons.mpr ⟨mm_q0, (List.forall_mem_cons.mpr ⟨mm_q1, (List.forall_mem_cons.mpr ⟨mm_q2, (List.forall_mem_cons.mpr ⟨mm_q3, (List.forall_mem_cons.mpr ⟨mm_q4, (List.forall_mem_cons.mpr ⟨mm_q5, (List.forall_mem_cons.mpr ⟨mm_q6, (List.forall_mem_cons.mpr ⟨mm_q7, (List.forall_mem_cons.mpr ⟨mm_q8, (List.forall_mem_cons.mpr ⟨mm_q9, (List.forall_mem_cons.mpr ⟨mm_q10, (List.forall_mem_cons.mpr ⟨mm_q11, (List.forall_mem_cons.mpr ⟨mm_q12, (List.forall_mem_cons.mpr ⟨mm_q13, (List.forall_mem_cons.mpr ⟨mm_q14, (List.forall_mem_cons.mpr ⟨mm_q15, (List.forall_mem_cons.mpr ⟨mm_q16, (List.forall_mem_cons.mpr ⟨mm_q17, (List.forall_mem_cons.mpr ⟨mm_q18, (List.forall_mem_cons.mpr ⟨mm_q19, (List.forall_mem_cons.mpr ⟨mm_q20, (List.forall_mem_cons.mpr ⟨mm_q21, (List.forall_mem_cons.mpr ⟨mm_q22, (List.forall_mem_cons.mpr ⟨mm_q23, (List.forall_mem_cons.mpr ⟨mm_q24, (List.forall_mem_cons.mpr ⟨mm_q25, (List.forall_mem_cons.mpr ⟨mm_q26, (List.forall_mem_cons.mpr ⟨mm_q27, (List.forall_mem_cons.mpr ⟨mm_q28, (List.forall_mem_cons.mpr ⟨mm_q29, (List.forall_mem_cons.mpr ⟨mm_q30, (List.forall_mem_cons.mpr ⟨mm_q31, (List.forall_mem_cons.mpr ⟨mm_q32, (List.forall_mem_cons.mpr ⟨mm_q33, (List.forall_mem_cons.mpr ⟨mm_q34, (List.forall_mem_cons.mpr ⟨mm_q35, (List.forall_mem_cons.mpr ⟨mm_q36, (List.forall_mem_cons.mpr ⟨mm_q37, (List.forall_mem_cons.mpr ⟨mm_q38, (List.forall_mem_cons.mpr ⟨mm_q39, (List.forall_mem_cons.mpr ⟨mm_q40, (List.forall_mem_cons.mpr ⟨mm_q41, (List.forall_mem_cons.mpr ⟨mm_q42, (List.forall_mem_cons.mpr ⟨mm_q43, (List.forall_mem_cons.mpr ⟨mm_q44, (List.forall_mem_cons.mpr ⟨mm_q45, (List.forall_mem_cons.mpr ⟨mm_q46, (List.forall_mem_cons.mpr ⟨mm_q47, (List.forall_mem_cons.mpr ⟨mm_q48, (List.forall_mem_cons.mpr ⟨mm_q49, (List.forall_mem_cons.mpr ⟨mm_q50, (List.forall_mem_cons.mpr ⟨mm_q51, (List.forall_mem_cons.mpr ⟨mm_q52, (List.forall_mem_cons.mpr ⟨mm_q53, (List.forall_mem_cons.mpr ⟨mm_q54, (List.forall_mem_cons.mpr ⟨mm_q55, (List.forall_mem_cons.mpr ⟨mm_q56, (List.forall_mem_cons.mpr ⟨mm_q57, (List.forall_mem_cons.mpr ⟨mm_q58, (List.forall_mem_cons.mpr ⟨mm_q59, (List.forall_mem_cons.mpr ⟨mm_q60, (List.forall_mem_cons.mpr ⟨mm_q61, (List.forall_mem_cons.mpr ⟨mm_q62, (List.forall_mem_cons.mpr ⟨mm_q63, (List.forall_mem_cons.mpr ⟨mm_q64, (List.forall_mem_cons.mpr ⟨mm_q65, (List.forall_mem_cons.mpr ⟨mm_q66, (List.forall_mem_cons.mpr ⟨mm_q67, (List.forall_mem_cons.mpr ⟨mm_q68, (List.forall_mem_cons.mpr ⟨mm_q69, (List.forall_mem_cons.mpr ⟨mm_q70, (List.forall_mem_cons.mpr ⟨mm_q71, (List.forall_mem_cons.mpr ⟨mm_q72, (List.forall_mem_cons.mpr ⟨mm_q73, (List.forall_mem_cons.mpr ⟨mm_q74, (List.forall_mem_cons.mpr ⟨mm_q75, (List.forall_mem_cons.mpr ⟨mm_q76, (List.forall_mem_cons.mpr ⟨mm_q77, (List.forall_mem_cons.mpr ⟨mm_q78, (List.forall_mem_cons.mpr ⟨mm_q79, (List.forall_mem_cons.mpr ⟨mm_q80, (List.forall_mem_cons.mpr ⟨mm_q81, (List.forall_mem_cons.mpr ⟨mm_q82, (List.forall_mem_cons.mpr ⟨mm_q83, (List.forall_mem_cons.mpr ⟨mm_q84, (List.forall_mem_cons.mpr ⟨mm_q85, (List.forall_mem_cons.mpr ⟨mm_q86, (List.forall_mem_cons.mpr ⟨mm_q87, (List.forall_mem_cons.mpr ⟨mm_q88, (List.forall_mem_cons.mpr ⟨mm_q89, (List.forall_mem_cons.mpr ⟨mm_q90, (List.forall_mem_cons.mpr ⟨mm_q91, (List.forall_mem_cons.mpr ⟨mm_q92, (List.forall_mem_cons.mpr ⟨mm_q93, (List.forall_mem_cons.mpr ⟨mm_q94, (List.forall_mem_cons.mpr ⟨mm_q95, (List.forall_mem_cons.mpr ⟨mm_q96, (List.forall_mem_cons.mpr ⟨mm_q97, (List.forall_mem_cons.mpr ⟨mm_q98, (List.forall_mem_cons.mpr ⟨mm_q99, (List.forall_mem_cons.mpr ⟨mm_q100, (List.forall_mem_cons.mpr ⟨mm_q101, (List.forall_mem_cons.mpr ⟨mm_q102, (List.forall_mem_cons.mpr ⟨mm_q103, (List.forall_mem_cons.mpr ⟨mm_q104, (List.forall_mem_cons.mpr ⟨mm_q105, (List.forall_mem_cons.mpr ⟨mm_q106, (List.forall_mem_cons.mpr ⟨mm_q107, (List.forall_mem_cons.mpr ⟨mm_q108, (List.forall_mem_cons.mpr ⟨mm_q109, (List.forall_mem_cons.mpr ⟨mm_q110, (List.forall_mem_cons.mpr ⟨mm_q111, (List.forall_mem_cons.mpr ⟨mm_q112, (List.forall_mem_cons.mpr ⟨mm_q113, (List.forall_mem_cons.mpr ⟨mm_q114, (List.forall_mem_cons.mpr ⟨mm_q115, (List.forall_mem_cons.mpr ⟨mm_q116, (List.forall_mem_cons.mpr ⟨mm_q117, (List.forall_mem_cons.mpr ⟨mm_q118, (List.forall_mem_cons.mpr ⟨mm_q119, (List.forall_mem_cons.mpr ⟨mm_q120, (List.forall_mem_cons.mpr ⟨mm_q121, (List.forall_mem_cons.mpr ⟨mm_q122, (List.forall_mem_cons.mpr ⟨mm_q123, (List.forall_mem_cons.mpr ⟨mm_q124, (List.forall_mem_cons.mpr ⟨mm_q125, (List.forall_mem_cons.mpr ⟨mm_q126, (List.forall_mem_cons.mpr ⟨mm_q127, (List.forall_mem_cons.mpr ⟨mm_q128, (List.forall_mem_cons.mpr ⟨mm_q129, (List.forall_mem_cons.mpr ⟨mm_q130, (List.forall_mem_cons.mpr ⟨mm_q131, (List.forall_mem_cons.mpr ⟨mm_q132, (List.forall_mem_cons.mpr ⟨mm_q133, (List.forall_mem_cons.mpr ⟨mm_q134, (List.forall_mem_cons.mpr ⟨mm_q135, (List.forall_mem_cons.mpr ⟨mm_q136, (List.forall_mem_cons.mpr ⟨mm_q137, (List.forall_mem_cons.mpr ⟨mm_q138, (List.forall_mem_cons.mpr ⟨mm_q139, (List.forall_mem_cons.mpr ⟨mm_q140, (List.forall_mem_cons.mpr ⟨mm_q141, (List.forall_mem_cons.mpr ⟨mm_q142, (List.forall_mem_cons.mpr ⟨mm_q143, (List.forall_mem_cons.mpr ⟨mm_q144, (List.forall_mem_cons.mpr ⟨mm_q145, (List.forall_mem_cons.mpr ⟨mm_q146, (List.forall_mem_cons.mpr ⟨mm_q147, (List.forall_mem_cons.mpr ⟨mm_q148, (List.forall_mem_cons.mpr ⟨mm_q149, (List.forall_mem_cons.mpr ⟨mm_q150, (List.forall_mem_cons.mpr ⟨mm_q151, (List.forall_mem_cons.mpr ⟨mm_q152, (List.forall_mem_cons.mpr ⟨mm_q153, (List.forall_mem_cons.mpr ⟨mm_q154, (List.forall_mem_cons.mpr ⟨mm_q155, (List.forall_mem_cons.mpr ⟨mm_q156, (List.forall_mem_cons.mpr ⟨mm_q157, (List.forall_mem_cons.mpr ⟨mm_q158, (List.forall_mem_cons.mpr ⟨mm_q159, (List.forall_mem_cons.mpr ⟨mm_q160, (List.forall_mem_cons.mpr ⟨mm_q161, (List.forall_mem_cons.mpr ⟨mm_q162, (List.forall_mem_cons.mpr ⟨mm_q163, (List.forall_mem_cons.mpr ⟨mm_q164, (List.forall_mem_cons.mpr ⟨mm_q165, (List.forall_mem_cons.mpr ⟨mm_q166, (List.forall_mem_cons.mpr ⟨mm_q167, (List.forall_mem_cons.mpr ⟨mm_q168, (List.forall_mem_cons.mpr ⟨mm_q169, (List.forall_mem_cons.mpr ⟨mm_q170, (List.forall_mem_cons.mpr ⟨mm_q171, (List.forall_mem_cons.mpr ⟨mm_q172, (List.forall_mem_cons.mpr ⟨mm_q173, (List.forall_mem_cons.mpr ⟨mm_q174, (List.forall_mem_cons.mpr ⟨mm_q175, (List.forall_mem_cons.mpr ⟨mm_q176, (List.forall_mem_cons.mpr ⟨mm_q177, (List.forall_mem_cons.mpr ⟨mm_q178, (List.forall_mem_cons.mpr ⟨mm_q179, (List.forall_mem_cons.mpr ⟨mm_q180, (List.forall_mem_cons.mpr ⟨mm_q181, (List.forall_mem_cons.mpr ⟨mm_q182, (List.forall_mem_cons.mpr ⟨mm_q183, (List.forall_mem_cons.mpr ⟨mm_q184, (List.forall_mem_cons.mpr ⟨mm_q185, (List.forall_mem_cons.mpr ⟨mm_q186, (List.forall_mem_cons.mpr ⟨mm_q187, (List.forall_mem_cons.mpr ⟨mm_q188, (List.forall_mem_cons.mpr ⟨mm_q189, (List.forall_mem_cons.mpr ⟨mm_q190, (List.forall_mem_cons.mpr ⟨mm_q191, (List.forall_mem_cons.mpr ⟨mm_q192, (List.forall_mem_cons.mpr ⟨mm_q193, (List.forall_mem_cons.mpr ⟨mm_q194, (List.forall_mem_cons.mpr ⟨mm_q195, (List.forall_mem_cons.mpr ⟨mm_q196, (List.forall_mem_cons.mpr ⟨mm_q197, (List.forall_mem_cons.mpr ⟨mm_q198, (List.forall_mem_cons.mpr ⟨mm_q199, (List.forall_mem_cons.mpr ⟨mm_q200, (List.forall_mem_cons.mpr ⟨mm_q201, (List.forall_mem_cons.mpr ⟨mm_q202, (List.forall_mem_cons.mpr ⟨mm_q203, (List.forall_mem_cons.mpr ⟨mm_q204, (List.forall_mem_cons.mpr ⟨mm_q205, (List.forall_mem_cons.mpr ⟨mm_q206, (List.forall_mem_cons.mpr ⟨mm_q207, (List.forall_mem_cons.mpr ⟨mm_q208, (List.forall_mem_cons.mpr ⟨mm_q209, (List.forall_mem_cons.mpr ⟨mm_q210, (List.forall_mem_cons.mpr ⟨mm_q211, (List.forall_mem_cons.mpr ⟨mm_q212, (List.forall_mem_cons.mpr ⟨mm_q213, (List.forall_mem_cons.mpr ⟨mm_q214, (List.forall_mem_cons.mpr ⟨mm_q215, (List.forall_mem_cons.mpr ⟨mm_q216, (List.forall_mem_cons.mpr ⟨mm_q217, (List.forall_mem_cons.mpr ⟨mm_q218, (List.forall_mem_cons.mpr ⟨mm_q219, (List.forall_mem_cons.mpr ⟨mm_q220, (List.forall_mem_cons.mpr ⟨mm_q221, (List.forall_mem_cons.mpr ⟨mm_q222, (List.forall_mem_cons.mpr ⟨mm_q223, (List.forall_mem_cons.mpr ⟨mm_q224, (List.forall_mem_cons.mpr ⟨mm_q225, (List.forall_mem_cons.mpr ⟨mm_q226, (List.forall_mem_cons.mpr ⟨mm_q227, (List.forall_mem_cons.mpr ⟨mm_q228, (List.forall_mem_cons.mpr ⟨mm_q229, (List.forall_mem_cons.mpr ⟨mm_q230, (List.forall_mem_cons.mpr ⟨mm_q231, (List.forall_mem_cons.mpr ⟨mm_q232, (List.forall_mem_cons.mpr ⟨mm_q233, (List.forall_mem_cons.mpr ⟨mm_q234, (List.forall_mem_cons.mpr ⟨mm_q235, (List.forall_mem_cons.mpr ⟨mm_q236, (List.forall_mem_cons.mpr ⟨mm_q237, (List.forall_mem_cons.mpr ⟨mm_q238, (List.forall_mem_cons.mpr ⟨mm_q239, (List.forall_mem_cons.mpr ⟨mm_q240, (List.forall_mem_cons.mpr ⟨mm_q241, (List.forall_mem_cons.mpr ⟨mm_q242, (List.forall_mem_cons.mpr ⟨mm_q243, (List.forall_mem_cons.mpr ⟨mm_q244, (List.forall_mem_cons.mpr ⟨mm_q245, (List.forall_mem_cons.mpr ⟨mm_q246, (List.forall_mem_cons.mpr ⟨mm_q247, (List.forall_mem_cons.mpr ⟨mm_q248, (List.forall_mem_cons.mpr ⟨mm_q249, (List.forall_mem_cons.mpr ⟨mm_q250, (List.forall_mem_cons.mpr ⟨mm_q251, (List.forall_mem_cons.mpr ⟨mm_q252, (List.forall_mem_cons.mpr ⟨mm_q253, (List.forall_mem_cons.mpr ⟨mm_q254, (List.forall_mem_cons.mpr ⟨mm_q255, (List.forall_mem_cons.mpr ⟨mm_q256, (List.forall_mem_cons.mpr ⟨mm_q257, (List.forall_mem_cons.mpr ⟨mm_q258, (List.forall_mem_cons.mpr ⟨mm_q259, (List.forall_mem_cons.mpr ⟨mm_q260, (List.forall_mem_cons.mpr ⟨mm_q261, (List.forall_mem_cons.mpr ⟨mm_q262, (List.forall_mem_cons.mpr ⟨mm_q263, (List.forall_mem_cons.mpr ⟨mm_q264, (List.forall_mem_cons.mpr ⟨mm_q265, (List.forall_mem_cons.mpr ⟨mm_q266, (List.forall_mem_cons.mpr ⟨mm_q267, (List.forall_mem_cons.mpr ⟨mm_q268, (List.forall_mem_cons.mpr ⟨mm_q269, (List.forall_mem_cons.mpr ⟨mm_q270, (List.forall_mem_cons.mpr ⟨mm_q271, (List.forall_mem_cons.mpr ⟨mm_q272, (List.forall_mem_cons.mpr ⟨mm_q273, (List.forall_mem_cons.mpr ⟨mm_q274, (List.forall_mem_cons.mpr ⟨mm_q275, (List.forall_mem_cons.mpr ⟨mm_q276, (List.forall_mem_cons.mpr ⟨mm_q277, (List.forall_mem_cons.mpr ⟨mm_q278, (List.forall_mem_cons.mpr ⟨mm_q279, (List.forall_mem_cons.mpr ⟨mm_q280, (List.forall_mem_cons.mpr ⟨mm_q281, (List.forall_mem_cons.mpr ⟨mm_q282, (List.forall_mem_cons.mpr ⟨mm_q283, (List.forall_mem_cons.mpr ⟨mm_q284, (List.forall_mem_cons.mpr ⟨mm_q285, (fun _ h => absurd h List.not_mem_nil)⟩)⟩)⟩)⟩)⟩)⟩)⟩)⟩)⟩)⟩)⟩)⟩)⟩)⟩)⟩)⟩)⟩)⟩)⟩)⟩)⟩)⟩)⟩)⟩)⟩)⟩)⟩)⟩)⟩)⟩)⟩)⟩)⟩)⟩)⟩)⟩)⟩)⟩)⟩)⟩)⟩)⟩)⟩)⟩)⟩)⟩)⟩)⟩)⟩)⟩)⟩)⟩)⟩)⟩)⟩)⟩)⟩)⟩)⟩)⟩)⟩)⟩)⟩)⟩)⟩)⟩)⟩)⟩)⟩)⟩)⟩)⟩)⟩)⟩)⟩)⟩)⟩)⟩)⟩)⟩)⟩)⟩)⟩)⟩)⟩)⟩)⟩)⟩)⟩)⟩)⟩)⟩)⟩)⟩)⟩)⟩)⟩)⟩)⟩)⟩)⟩)⟩)⟩)⟩)⟩)⟩)⟩)⟩)⟩)⟩)⟩)⟩)⟩)⟩)⟩)⟩)⟩)⟩)⟩)⟩)⟩)⟩)⟩)⟩)⟩)⟩)⟩)⟩)⟩)⟩)⟩)⟩)⟩)⟩)⟩)⟩)⟩)⟩)⟩)⟩)⟩)⟩)⟩)⟩)⟩)⟩)⟩)⟩)⟩)⟩)⟩)⟩)⟩)⟩)⟩)⟩)⟩)⟩)⟩)⟩)⟩)⟩)⟩)⟩)⟩)⟩)⟩)⟩)⟩)⟩)⟩)⟩)⟩)⟩)⟩)⟩)⟩)⟩)⟩)⟩)⟩)⟩)⟩)⟩)⟩)⟩)⟩)⟩)⟩)⟩)⟩)⟩)⟩)⟩)⟩)⟩)⟩)⟩)⟩)⟩)⟩)⟩)⟩)⟩)⟩)⟩)⟩)⟩)⟩)⟩)⟩)⟩)⟩)⟩)⟩)⟩)⟩)⟩)⟩)⟩)⟩)⟩)⟩)⟩)⟩)⟩)⟩)⟩)⟩)⟩)⟩)⟩)⟩)⟩)⟩)⟩)⟩)⟩)⟩)⟩)⟩)⟩)⟩)⟩)⟩)⟩)⟩)⟩)⟩)⟩)⟩)⟩)⟩)⟩)⟩)⟩)⟩)⟩)⟩)⟩)⟩)⟩)⟩)⟩)⟩)⟩)⟩)⟩)⟩)⟩)⟩)⟩)⟩)⟩)⟩)⟩)⟩)⟩)⟩)⟩)⟩)⟩)⟩)⟩)⟩)⟩)
set_option maxRecDepth 100000 in
theorem mm_q_ok {q : Nat} (h : q < 286) : mm_qP q := mm_q_in q (by have := List.mem_range.mpr h; exact (show List.range 286 = [0, 1, 2, 3, 4, 5, 6, 7, 8, 9, 10, 11, 12, 13, 14, 15, 16, 17, 18, 19, 20, 21, 22, 23, 24, 25, 26, 27, 28, 29, 30, 31, 32, 33, 34, 35, 36, 37, 38, 39, 40, 41, 42, 43, 44, 45, 46, 47, 48, 49, 50, 51, 52, 53, 54, 55, 56, 57, 58, 59, 60, 61, 62, 63, 64, 65, 66, 67, 68, 69, 70, 71, 72, 73, 74, 75, 76, 77, 78, 79, 80, 81, 82, 83, 84, 85, 86, 87, 88, 89, 90, 91, 92, 93, 94, 95, 96, 97, 98, 99, 100, 101, 102, 103, 104, 105, 106, 107, 108, 109, 110, 111, 112, 113, 114, 115, 116, 117, 118, 119, 120, 121, 122, 123, 124, 125, 126, 127, 128, 129, 130, 131, 132, 133, 134, 135, 136, 137, 138, 139, 140, 141, 142, 143, 144, 145, 146, 147, 148, 149, 150, 151, 152, 153, 154, 155, 156, 157, 158, 159, 160, 161, 162, 163, 164, 165, 166, 167, 168, 169, 170, 171, 172, 173, 174, 175, 176, 177, 178, 179, 180, 181, 182, 183, 184, 185, 186, 187, 188, 189, 190, 191, 192, 193, 194, 195, 196, 197, 198, 199, 200, 201, 202, 203, 204, 205, 206, 207, 208, 209, 210, 211, 212, 213, 214, 215, 216, 217, 218, 219, 220, 221, 222, 223, 224, 225, 226, 227, 228, 229, 230, 231, 232, 233, 234, 235, 236, 237, 238, 239, 240, 241, 242, 243, 244, 245, 246, 247, 248, 249, 250, 251, 252, 253, 254, 255, 256, 257, 258, 259, 260, 261, 262, 263, 264, 265, 266, 267, 268, 269, 270, 271, 272, 273, 274, 275, 276, 277, 278, 279, 280, 281, 282, 283, 284, 285] from rfl) ▸ this)
/-- what the tables say of the classes of the kinds 10 and on -/
def mm_clP (t : Nat) : Prop := ∃ (r : vw_C) (ty : Nat → FieldType), vwCl[t - 10]? = some r ∧ r.2.2 = mm_fn t ∧ (∀ w ∈ u_ws r.1 r.2.1 r.2.2, w ∈ mm_TW) ∧ (∀ k, k < r.2.2 → parseFieldDescriptor (r.2.1 k).2.2.1 = some (ty k)) ∧ (∀ a, a < r.2.2 → ∀ b, b < r.2.2 → a ≠ b → (r.2.1 a).2.1 ≠ (r.2.1 b).2.1) ∧ (∀ k, k < r.2.2 → ((mm_fcd t k).1 = 0 → ty k = .int ∧ (r.2.1 k).2.2.2 = false) ∧ ((mm_fcd t k).1 = 1 → ty k = .long ∧ (r.2.1 k).2.2.2 = false) ∧ ((mm_fcd t k).1 = 2 → ty k = .object "HiccupTown$Word" ∧ (r.2.1 k).2.2.2 = false) ∧ ((mm_fcd t k).1 = 5 → ty k = .boolean ∧ (r.2.1 k).2.2.2 = false))
set_option maxRecDepth 100000 in
theorem mm_cw10 : ∀ w ∈ u_ws RX0 TX0 8, w ∈ mm_TW := (List.forall_mem_cons.mpr ⟨(mm_tw2 106 rfl rfl), (List.forall_mem_cons.mpr ⟨(mm_tw2 108 rfl rfl), (List.forall_mem_cons.mpr ⟨(mm_tw2 110 rfl rfl), (List.forall_mem_cons.mpr ⟨(mm_tw2 112 rfl rfl), (List.forall_mem_cons.mpr ⟨(mm_tw2 114 rfl rfl), (List.forall_mem_cons.mpr ⟨(mm_tw2 116 rfl rfl), (List.forall_mem_cons.mpr ⟨(mm_tw2 118 rfl rfl), (List.forall_mem_cons.mpr ⟨(mm_tw2 120 rfl rfl), (fun _ h => absurd h List.not_mem_nil)⟩)⟩)⟩)⟩)⟩)⟩)⟩)⟩)
set_option maxRecDepth 100000 in
theorem mm_cl10 : mm_clP 10 := ⟨_, tyX0, rfl, rfl, mm_cw10, tyX0_ok, nmX0, by decide +kernel⟩
set_option maxRecDepth 100000 in
theorem mm_cw11 : ∀ w ∈ u_ws RX1 TX1 4, w ∈ mm_TW := (List.forall_mem_cons.mpr ⟨(mm_tw2 61 rfl rfl), (List.forall_mem_cons.mpr ⟨(mm_tw2 63 rfl rfl), (List.forall_mem_cons.mpr ⟨(mm_tw2 65 rfl rfl), (List.forall_mem_cons.mpr ⟨(mm_tw2 67 rfl rfl), (fun _ h => absurd h List.not_mem_nil)⟩)⟩)⟩)⟩)
set_option maxRecDepth 100000 in
theorem mm_cl11 : mm_clP 11 := ⟨_, tyX1, rfl, rfl, mm_cw11, tyX1_ok, nmX1, by decide +kernel⟩
set_option maxRecDepth 100000 in
theorem mm_cw12 : ∀ w ∈ u_ws RX2 TX2 9, w ∈ mm_TW := (List.forall_mem_cons.mpr ⟨(mm_tw1 206 rfl rfl), (List.forall_mem_cons.mpr ⟨(mm_tw1 208 rfl rfl), (List.forall_mem_cons.mpr ⟨(mm_tw1 210 rfl rfl), (List.forall_mem_cons.mpr ⟨(mm_tw1 212 rfl rfl), (List.forall_mem_cons.mpr ⟨(mm_tw1 214 rfl rfl), (List.forall_mem_cons.mpr ⟨(mm_tw1 216 rfl rfl), (List.forall_mem_cons.mpr ⟨(mm_tw1 218 rfl rfl), (List.forall_mem_cons.mpr ⟨(mm_tw1 220 rfl rfl), (List.forall_mem_cons.mpr ⟨(mm_tw1 222 rfl rfl), (fun _ h => absurd h List.not_mem_nil)⟩)⟩)⟩)⟩)⟩)⟩)⟩)⟩)⟩)
set_option maxRecDepth 100000 in
theorem mm_cl12 : mm_clP 12 := ⟨_, tyX2, rfl, rfl, mm_cw12, tyX2_ok, nmX2, by decide +kernel⟩
set_option maxRecDepth 100000 in
theorem mm_cw13 : ∀ w ∈ u_ws RX3 TX3 3, w ∈ mm_TW := (List.forall_mem_cons.mpr ⟨(mm_tw2 39 rfl rfl), (List.forall_mem_cons.mpr ⟨(mm_tw2 41 rfl rfl), (List.forall_mem_cons.mpr ⟨(mm_tw2 43 rfl rfl), (fun _ h => absurd h List.not_mem_nil)⟩)⟩)⟩)
set_option maxRecDepth 100000 in
theorem mm_cl13 : mm_clP 13 := ⟨_, tyX3, rfl, rfl, mm_cw13, tyX3_ok, nmX3, by decide +kernel⟩
set_option maxRecDepth 100000 in
theorem mm_cw14 : ∀ w ∈ u_ws RX4 TX4 11, w ∈ mm_TW := (List.forall_mem_cons.mpr ⟨(mm_tw1 135 rfl rfl), (List.forall_mem_cons.mpr ⟨(mm_tw1 137 rfl rfl), (List.forall_mem_cons.mpr ⟨(mm_tw1 139 rfl rfl), (List.forall_mem_cons.mpr ⟨(mm_tw1 141 rfl rfl), (List.forall_mem_cons.mpr ⟨(mm_tw1 143 rfl rfl), (List.forall_mem_cons.mpr ⟨(mm_tw1 145 rfl rfl), (List.forall_mem_cons.mpr ⟨(mm_tw1 147 rfl rfl), (List.forall_mem_cons.mpr ⟨(mm_tw1 149 rfl rfl), (List.forall_mem_cons.mpr ⟨(mm_tw1 151 rfl rfl), (List.forall_mem_cons.mpr ⟨(mm_tw1 153 rfl rfl), (List.forall_mem_cons.mpr ⟨(mm_tw1 155 rfl rfl), (fun _ h => absurd h List.not_mem_nil)⟩)⟩)⟩)⟩)⟩)⟩)⟩)⟩)⟩)⟩)⟩)
set_option maxRecDepth 100000 in
theorem mm_cl14 : mm_clP 14 := ⟨_, tyX4, rfl, rfl, mm_cw14, tyX4_ok, nmX4, by decide +kernel⟩
set_option maxRecDepth 100000 in
theorem mm_cw15 : ∀ w ∈ u_ws RX5 TX5 3, w ∈ mm_TW := (List.forall_mem_cons.mpr ⟨(mm_tw2 84 rfl rfl), (List.forall_mem_cons.mpr ⟨(mm_tw2 86 rfl rfl), (List.forall_mem_cons.mpr ⟨(mm_tw2 88 rfl rfl), (fun _ h => absurd h List.not_mem_nil)⟩)⟩)⟩)
set_option maxRecDepth 100000 in
theorem mm_cl15 : mm_clP 15 := ⟨_, tyX5, rfl, rfl, mm_cw15, tyX5_ok, nmX5, by decide +kernel⟩
set_option maxRecDepth 100000 in
theorem mm_cw16 : ∀ w ∈ u_ws RX6 TX6 4, w ∈ mm_TW := (List.forall_mem_cons.mpr ⟨(mm_tw2 17 rfl rfl), (List.forall_mem_cons.mpr ⟨(mm_tw2 19 rfl rfl), (List.forall_mem_cons.mpr ⟨(mm_tw2 21 rfl rfl), (List.forall_mem_cons.mpr ⟨(mm_tw2 23 rfl rfl), (fun _ h => absurd h List.not_mem_nil)⟩)⟩)⟩)⟩)
set_option maxRecDepth 100000 in
theorem mm_cl16 : mm_clP 16 := ⟨_, tyX6, rfl, rfl, mm_cw16, tyX6_ok, nmX6, by decide +kernel⟩
set_option maxRecDepth 100000 in
theorem mm_cw17 : ∀ w ∈ u_ws RX7 TX7 5, w ∈ mm_TW := (List.forall_mem_cons.mpr ⟨(mm_tw1 239 rfl rfl), (List.forall_mem_cons.mpr ⟨(mm_tw2 1 rfl rfl), (List.forall_mem_cons.mpr ⟨(mm_tw2 3 rfl rfl), (List.forall_mem_cons.mpr ⟨(mm_tw2 5 rfl rfl), (List.forall_mem_cons.mpr ⟨(mm_tw2 7 rfl rfl), (fun _ h => absurd h List.not_mem_nil)⟩)⟩)⟩)⟩)⟩)
set_option maxRecDepth 100000 in
theorem mm_cl17 : mm_clP 17 := ⟨_, tyX7, rfl, rfl, mm_cw17, tyX7_ok, nmX7, by decide +kernel⟩
set_option maxRecDepth 100000 in
theorem mm_cw18 : ∀ w ∈ u_ws RX8 TX8 10, w ∈ mm_TW := (List.forall_mem_cons.mpr ⟨(mm_tw1 61 rfl rfl), (List.forall_mem_cons.mpr ⟨(mm_tw1 63 rfl rfl), (List.forall_mem_cons.mpr ⟨(mm_tw1 65 rfl rfl), (List.forall_mem_cons.mpr ⟨(mm_tw1 67 rfl rfl), (List.forall_mem_cons.mpr ⟨(mm_tw1 69 rfl rfl), (List.forall_mem_cons.mpr ⟨(mm_tw1 71 rfl rfl), (List.forall_mem_cons.mpr ⟨(mm_tw1 73 rfl rfl), (List.forall_mem_cons.mpr ⟨(mm_tw1 75 rfl rfl), (List.forall_mem_cons.mpr ⟨(mm_tw1 77 rfl rfl), (List.forall_mem_cons.mpr ⟨(mm_tw1 79 rfl rfl), (fun _ h => absurd h List.not_mem_nil)⟩)⟩)⟩)⟩)⟩)⟩)⟩)⟩)⟩)⟩)
set_option maxRecDepth 100000 in
theorem mm_cl18 : mm_clP 18 := ⟨_, tyX8, rfl, rfl, mm_cw18, tyX8_ok, nmX8, by decide +kernel⟩
set_option maxRecDepth 100000 in
theorem mm_cw19 : ∀ w ∈ u_ws RX9 TX9 3, w ∈ mm_TW := (List.forall_mem_cons.mpr ⟨(mm_tw1 164 rfl rfl), (List.forall_mem_cons.mpr ⟨(mm_tw1 166 rfl rfl), (List.forall_mem_cons.mpr ⟨(mm_tw1 168 rfl rfl), (fun _ h => absurd h List.not_mem_nil)⟩)⟩)⟩)
set_option maxRecDepth 100000 in
theorem mm_cl19 : mm_clP 19 := ⟨_, tyX9, rfl, rfl, mm_cw19, tyX9_ok, nmX9, by decide +kernel⟩
set_option maxRecDepth 100000 in
theorem mm_cw20 : ∀ w ∈ u_ws RX11 TX11 15, w ∈ mm_TW := (List.forall_mem_cons.mpr ⟨(mm_tw2 140 rfl rfl), (List.forall_mem_cons.mpr ⟨(mm_tw2 142 rfl rfl), (List.forall_mem_cons.mpr ⟨(mm_tw2 144 rfl rfl), (List.forall_mem_cons.mpr ⟨(mm_tw2 146 rfl rfl), (List.forall_mem_cons.mpr ⟨(mm_tw2 148 rfl rfl), (List.forall_mem_cons.mpr ⟨(mm_tw2 150 rfl rfl), (List.forall_mem_cons.mpr ⟨(mm_tw2 152 rfl rfl), (List.forall_mem_cons.mpr ⟨(mm_tw2 154 rfl rfl), (List.forall_mem_cons.mpr ⟨(mm_tw2 156 rfl rfl), (List.forall_mem_cons.mpr ⟨(mm_tw2 158 rfl rfl), (List.forall_mem_cons.mpr ⟨(mm_tw2 160 rfl rfl), (List.forall_mem_cons.mpr ⟨(mm_tw2 162 rfl rfl), (List.forall_mem_cons.mpr ⟨(mm_tw2 164 rfl rfl), (List.forall_mem_cons.mpr ⟨(mm_tw2 166 rfl rfl), (List.forall_mem_cons.mpr ⟨(mm_tw2 168 rfl rfl), (fun _ h => absurd h List.not_mem_nil)⟩)⟩)⟩)⟩)⟩)⟩)⟩)⟩)⟩)⟩)⟩)⟩)⟩)⟩)⟩)
set_option maxRecDepth 100000 in
theorem mm_cl20 : mm_clP 20 := ⟨_, tyX11, rfl, rfl, mm_cw20, tyX11_ok, nmX11, by decide +kernel⟩
set_option maxRecDepth 100000 in
theorem mm_cw21 : ∀ w ∈ u_ws RX12 TX12 47, w ∈ mm_TW := (List.forall_mem_cons.mpr ⟨(mm_tw6 149 rfl rfl), (List.forall_mem_cons.mpr ⟨(mm_tw6 151 rfl rfl), (List.forall_mem_cons.mpr ⟨(mm_tw6 153 rfl rfl), (List.forall_mem_cons.mpr ⟨(mm_tw6 155 rfl rfl), (List.forall_mem_cons.mpr ⟨(mm_tw6 157 rfl rfl), (List.forall_mem_cons.mpr ⟨(mm_tw6 159 rfl rfl), (List.forall_mem_cons.mpr ⟨(mm_tw6 161 rfl rfl), (List.forall_mem_cons.mpr ⟨(mm_tw6 163 rfl rfl), (List.forall_mem_cons.mpr ⟨(mm_tw6 165 rfl rfl), (List.forall_mem_cons.mpr ⟨(mm_tw6 167 rfl rfl), (List.forall_mem_cons.mpr ⟨(mm_tw6 169 rfl rfl), (List.forall_mem_cons.mpr ⟨(mm_tw6 171 rfl rfl), (List.forall_mem_cons.mpr ⟨(mm_tw6 173 rfl rfl), (List.forall_mem_cons.mpr ⟨(mm_tw6 175 rfl rfl), (List.forall_mem_cons.mpr ⟨(mm_tw6 177 rfl rfl), (List.forall_mem_cons.mpr ⟨(mm_tw6 179 rfl rfl), (List.forall_mem_cons.mpr ⟨(mm_tw6 181 rfl rfl), (List.forall_mem_cons.mpr ⟨(mm_tw6 183 rfl rfl), (List.forall_mem_cons.mpr ⟨(mm_tw6 185 rfl rfl), (List.forall_mem_cons.mpr ⟨(mm_tw6 187 rfl rfl), (List.forall_mem_cons.mpr ⟨(mm_tw6 189 rfl rfl), (List.forall_mem_cons.mpr ⟨(mm_tw6 191 rfl rfl), (List.forall_mem_cons.mpr ⟨(mm_tw6 193 rfl rfl), (List.forall_mem_cons.mpr ⟨(mm_tw6 195 rfl rfl), (List.forall_mem_cons.mpr ⟨(mm_tw6 197 rfl rfl), (List.forall_mem_cons.mpr ⟨(mm_tw6 199 rfl rfl), (List.forall_mem_cons.mpr ⟨(mm_tw6 201 rfl rfl), (List.forall_mem_cons.mpr ⟨(mm_tw6 203 rfl rfl), (List.forall_mem_cons.mpr ⟨(mm_tw6 205 rfl rfl), (List.forall_mem_cons.mpr ⟨(mm_tw6 207 rfl rfl), (List.forall_mem_cons.mpr ⟨(mm_tw6 209 rfl rfl), (List.forall_mem_cons.mpr ⟨(mm_tw6 211 rfl rfl), (List.forall_mem_cons.mpr ⟨(mm_tw6 213 rfl rfl), (List.forall_mem_cons.mpr ⟨(mm_tw6 215 rfl rfl), (List.forall_mem_cons.mpr ⟨(mm_tw6 217 rfl rfl), (List.forall_mem_cons.mpr ⟨(mm_tw6 219 rfl rfl), (List.forall_mem_cons.mpr ⟨(mm_tw6 221 rfl rfl), (List.forall_mem_cons.mpr ⟨(mm_tw6 223 rfl rfl), (List.forall_mem_cons.mpr ⟨(mm_tw6 225 rfl rfl), (List.forall_mem_cons.mpr ⟨(mm_tw6 227 rfl rfl), (List.forall_mem_cons.mpr ⟨(mm_tw6 229 rfl rfl), (List.forall_mem_cons.mpr ⟨(mm_tw6 231 rfl rfl), (List.forall_mem_cons.mpr ⟨(mm_tw6 233 rfl rfl), (List.forall_mem_cons.mpr ⟨(mm_tw6 235 rfl rfl), (List.forall_mem_cons.mpr ⟨(mm_tw6 237 rfl rfl), (List.forall_mem_cons.mpr ⟨(mm_tw6 239 rfl rfl), (List.forall_mem_cons.mpr ⟨(mm_tw7 1 rfl rfl), (fun _ h => absurd h List.not_mem_nil)⟩)⟩)⟩)⟩)⟩)⟩)⟩)⟩)⟩)⟩)⟩)⟩)⟩)⟩)⟩)⟩)⟩)⟩)⟩)⟩)⟩)⟩)⟩)⟩)⟩)⟩)⟩)⟩)⟩)⟩)⟩)⟩)⟩)⟩)⟩)⟩)⟩)⟩)⟩)⟩)⟩)⟩)⟩)⟩)⟩)⟩)⟩)
set_option maxRecDepth 100000 in
theorem mm_cl21 : mm_clP 21 := ⟨_, tyX12, rfl, rfl, mm_cw21, tyX12_ok, nmX12, by decide +kernel⟩
theorem mm_cl_in : ∀ t ∈ [10, 11, 12, 13, 14, 15, 16, 17, 18, 19, 20, 21], mm_clP t := (List.forall_mem_cons.mpr ⟨mm_cl10, (List.forall_mem_cons.mpr ⟨mm_cl11, (List.forall_mem_cons.mpr ⟨mm_cl12, (List.forall_mem_cons.mpr ⟨mm_cl13, (List.forall_mem_cons.mpr ⟨mm_cl14, (List.forall_mem_cons.mpr ⟨mm_cl15, (List.forall_mem_cons.mpr ⟨mm_cl16, (List.forall_mem_cons.mpr ⟨mm_cl17, (List.forall_mem_cons.mpr ⟨mm_cl18, (List.forall_mem_cons.mpr ⟨mm_cl19, (List.forall_mem_cons.mpr ⟨mm_cl20, (List.forall_mem_cons.mpr ⟨mm_cl21, (fun _ h => absurd h List.not_mem_nil)⟩)⟩)⟩)⟩)⟩)⟩)⟩)⟩)⟩)⟩)⟩)⟩)
theorem mm_cl_ok {t : Nat} (h : 10 ≤ t) (h2 : t < 22) : mm_clP t := mm_cl_in t (by simp; omega)
-- the layout: what lies at a distance from an object is of its kind
set_option maxRecDepth 100000 in
theorem mm_lay : ∀ o, o < 153 → ∀ k, k < 47 → (mm_fcd (mm_kd o) k).1 = 3 → mm_kd o < 22 → o + (mm_fcd (mm_kd o) k).2.2 < 153 ∧ mm_kd (o + (mm_fcd (mm_kd o) k).2.2) = (mm_fcd (mm_kd o) k).2.1 := by decide +kernel
set_option maxRecDepth 100000 in
theorem mm_lay5 : ∀ o, o < 153 → ∀ i, i < 8 → (mm_ak (mm_kd o)).1 = 5 → o + 1 + 4 * i < 153 ∧ mm_kd (o + 1 + 4 * i) = 12 := by decide +kernel
set_option maxRecDepth 100000 in
theorem mm_lay6 : ∀ o, o < 153 → ∀ i, i < 2 → (mm_ak (mm_kd o)).1 = 6 → o + 62 + 19 * i < 153 ∧ mm_kd (o + 62 + 19 * i) = 16 := by decide +kernel
set_option maxRecDepth 100000 in
theorem mm_lay7 : ∀ o, o < 153 → ∀ i, i < 6 → (mm_ak (mm_kd o)).1 = 7 → o + 1 + i < 153 ∧ mm_kd (o + 1 + i) = 27 := by decide +kernel
set_option maxRecDepth 100000 in
theorem mm_kd_ok : ∀ o, o < 153 → 10 ≤ mm_kd o ∧ mm_kd o < 51 := by decide +kernel
