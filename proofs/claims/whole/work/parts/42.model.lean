/-! The constructor of the reference, beside the class that is made already -/
theorem dk12_0 : decode cX12_init 0 = .ok (.aload_n 0, 1) := by decide +kernel
theorem dk12_1 : decode cX12_init 1 = .ok (.invokespecial 93, 3) := by decide +kernel
theorem dk12_4 : decode cX12_init 4 = .ok (.aload_n 0, 1) := by decide +kernel
theorem dk12_5 : decode cX12_init 5 = .ok (.sipush 940, 3) := by decide +kernel
theorem dk12_8 : decode cX12_init 8 = .ok (.newarray .int, 2) := by decide +kernel
theorem dk12_10 : decode cX12_init 10 = .ok (.putfield 7, 3) := by decide +kernel
theorem dk12_13 : decode cX12_init 13 = .ok (.aload_n 0, 1) := by decide +kernel
theorem dk12_14 : decode cX12_init 14 = .ok (.sipush 316, 3) := by decide +kernel
theorem dk12_17 : decode cX12_init 17 = .ok (.newarray .int, 2) := by decide +kernel
theorem dk12_19 : decode cX12_init 19 = .ok (.putfield 98, 3) := by decide +kernel
theorem dk12_22 : decode cX12_init 22 = .ok (.aload_n 0, 1) := by decide +kernel
theorem dk12_23 : decode cX12_init 23 = .ok (.bipush 48, 2) := by decide +kernel
theorem dk12_25 : decode cX12_init 25 = .ok (.newarray .int, 2) := by decide +kernel
theorem dk12_27 : decode cX12_init 27 = .ok (.putfield 101, 3) := by decide +kernel
theorem dk12_30 : decode cX12_init 30 = .ok (.aload_n 0, 1) := by decide +kernel
theorem dk12_31 : decode cX12_init 31 = .ok (.sipush 632, 3) := by decide +kernel
theorem dk12_34 : decode cX12_init 34 = .ok (.newarray .int, 2) := by decide +kernel
theorem dk12_36 : decode cX12_init 36 = .ok (.putfield 104, 3) := by decide +kernel
theorem dk12_39 : decode cX12_init 39 = .ok (.aload_n 0, 1) := by decide +kernel
theorem dk12_40 : decode cX12_init 40 = .ok (.sipush 208, 3) := by decide +kernel
theorem dk12_43 : decode cX12_init 43 = .ok (.newarray .int, 2) := by decide +kernel
theorem dk12_45 : decode cX12_init 45 = .ok (.putfield 107, 3) := by decide +kernel
theorem dk12_48 : decode cX12_init 48 = .ok (.aload_n 0, 1) := by decide +kernel
theorem dk12_49 : decode cX12_init 49 = .ok (.bipush 26, 2) := by decide +kernel
theorem dk12_51 : decode cX12_init 51 = .ok (.newarray .int, 2) := by decide +kernel
theorem dk12_53 : decode cX12_init 53 = .ok (.putfield 110, 3) := by decide +kernel
theorem dk12_56 : decode cX12_init 56 = .ok (.aload_n 0, 1) := by decide +kernel
theorem dk12_57 : decode cX12_init 57 = .ok (.bipush 22, 2) := by decide +kernel
theorem dk12_59 : decode cX12_init 59 = .ok (.newarray .long, 2) := by decide +kernel
theorem dk12_61 : decode cX12_init 61 = .ok (.putfield 113, 3) := by decide +kernel
theorem dk12_64 : decode cX12_init 64 = .ok (.aload_n 0, 1) := by decide +kernel
theorem dk12_65 : decode cX12_init 65 = .ok (.bipush 22, 2) := by decide +kernel
theorem dk12_67 : decode cX12_init 67 = .ok (.newarray .long, 2) := by decide +kernel
theorem dk12_69 : decode cX12_init 69 = .ok (.putfield 117, 3) := by decide +kernel
theorem dk12_72 : decode cX12_init 72 = .ok (.aload_n 0, 1) := by decide +kernel
theorem dk12_73 : decode cX12_init 73 = .ok (.bipush 44, 2) := by decide +kernel
theorem dk12_75 : decode cX12_init 75 = .ok (.newarray .long, 2) := by decide +kernel
theorem dk12_77 : decode cX12_init 77 = .ok (.putfield 120, 3) := by decide +kernel
theorem dk12_80 : decode cX12_init 80 = .ok (.aload_n 0, 1) := by decide +kernel
theorem dk12_81 : decode cX12_init 81 = .ok (.iconst 2, 1) := by decide +kernel
theorem dk12_82 : decode cX12_init 82 = .ok (.newarray .boolean, 2) := by decide +kernel
theorem dk12_84 : decode cX12_init 84 = .ok (.putfield 123, 3) := by decide +kernel
theorem dk12_87 : decode cX12_init 87 = .ok (.aload_n 0, 1) := by decide +kernel
theorem dk12_88 : decode cX12_init 88 = .ok (.iconst 2, 1) := by decide +kernel
theorem dk12_89 : decode cX12_init 89 = .ok (.newarray .boolean, 2) := by decide +kernel
theorem dk12_91 : decode cX12_init 91 = .ok (.putfield 127, 3) := by decide +kernel
theorem dk12_94 : decode cX12_init 94 = .ok (.aload_n 0, 1) := by decide +kernel
theorem dk12_95 : decode cX12_init 95 = .ok (.sipush 256, 3) := by decide +kernel
theorem dk12_98 : decode cX12_init 98 = .ok (.newarray .int, 2) := by decide +kernel
theorem dk12_100 : decode cX12_init 100 = .ok (.putfield 130, 3) := by decide +kernel
theorem dk12_103 : decode cX12_init 103 = .ok (.aload_n 0, 1) := by decide +kernel
theorem dk12_104 : decode cX12_init 104 = .ok (.bipush 60, 2) := by decide +kernel
theorem dk12_106 : decode cX12_init 106 = .ok (.newarray .int, 2) := by decide +kernel
theorem dk12_108 : decode cX12_init 108 = .ok (.putfield 133, 3) := by decide +kernel
theorem dk12_111 : decode cX12_init 111 = .ok (.aload_n 0, 1) := by decide +kernel
theorem dk12_112 : decode cX12_init 112 = .ok (.iconst (-1), 1) := by decide +kernel
theorem dk12_113 : decode cX12_init 113 = .ok (.putfield 136, 3) := by decide +kernel
theorem dk12_116 : decode cX12_init 116 = .ok (.aload_n 0, 1) := by decide +kernel
theorem dk12_117 : decode cX12_init 117 = .ok (.iconst (-1), 1) := by decide +kernel
theorem dk12_118 : decode cX12_init 118 = .ok (.putfield 139, 3) := by decide +kernel
theorem dk12_121 : decode cX12_init 121 = .ok (.aload_n 0, 1) := by decide +kernel
theorem dk12_122 : decode cX12_init 122 = .ok (.iconst (-1), 1) := by decide +kernel
theorem dk12_123 : decode cX12_init 123 = .ok (.putfield 142, 3) := by decide +kernel
theorem dk12_126 : decode cX12_init 126 = .ok (.aload_n 0, 1) := by decide +kernel
theorem dk12_127 : decode cX12_init 127 = .ok (.sipush 366, 3) := by decide +kernel
theorem dk12_130 : decode cX12_init 130 = .ok (.newarray .int, 2) := by decide +kernel
theorem dk12_132 : decode cX12_init 132 = .ok (.putfield 145, 3) := by decide +kernel
theorem dk12_135 : decode cX12_init 135 = .ok (.aload_n 0, 1) := by decide +kernel
theorem dk12_136 : decode cX12_init 136 = .ok (.iconst 5, 1) := by decide +kernel
theorem dk12_137 : decode cX12_init 137 = .ok (.newarray .int, 2) := by decide +kernel
theorem dk12_139 : decode cX12_init 139 = .ok (.putfield 148, 3) := by decide +kernel
theorem dk12_142 : decode cX12_init 142 = .ok (.aload_n 0, 1) := by decide +kernel
theorem dk12_143 : decode cX12_init 143 = .ok (.iconst (-1), 1) := by decide +kernel
theorem dk12_144 : decode cX12_init 144 = .ok (.putfield 151, 3) := by decide +kernel
theorem dk12_147 : decode cX12_init 147 = .ok (.aload_n 0, 1) := by decide +kernel
theorem dk12_148 : decode cX12_init 148 = .ok (.bipush 64, 2) := by decide +kernel
theorem dk12_150 : decode cX12_init 150 = .ok (.newarray .int, 2) := by decide +kernel
theorem dk12_152 : decode cX12_init 152 = .ok (.putfield 154, 3) := by decide +kernel
theorem dk12_155 : decode cX12_init 155 = .ok (.aload_n 0, 1) := by decide +kernel
theorem dk12_156 : decode cX12_init 156 = .ok (.bipush 80, 2) := by decide +kernel
theorem dk12_158 : decode cX12_init 158 = .ok (.newarray .int, 2) := by decide +kernel
theorem dk12_160 : decode cX12_init 160 = .ok (.putfield 157, 3) := by decide +kernel
theorem dk12_163 : decode cX12_init 163 = .ok (.aload_n 0, 1) := by decide +kernel
theorem dk12_164 : decode cX12_init 164 = .ok (.iconst 4, 1) := by decide +kernel
theorem dk12_165 : decode cX12_init 165 = .ok (.newarray .int, 2) := by decide +kernel
theorem dk12_167 : decode cX12_init 167 = .ok (.putfield 160, 3) := by decide +kernel
theorem dk12_170 : decode cX12_init 170 = .ok (.aload_n 0, 1) := by decide +kernel
theorem dk12_171 : decode cX12_init 171 = .ok (.sipush 240, 3) := by decide +kernel
theorem dk12_174 : decode cX12_init 174 = .ok (.newarray .int, 2) := by decide +kernel
theorem dk12_176 : decode cX12_init 176 = .ok (.putfield 163, 3) := by decide +kernel
/-- the numbers at which the class and the reference begin -/
def mm_h0 : mm_H := fun o k => if o = 133 then (if k = 28 ∨ k = 29 ∨ k = 30 ∨ k = 34 then -1 else 0) else if o = 0 then (if k = 14 then -1 else 0) else if o = 76 then (if k = 1 ∨ k = 2 ∨ k = 3 then -1 else 0)
  else if o = 4 ∨ o = 15 ∨ o = 96 ∨ o = 115 then (if k = 0 then 8 else 0) else if o = 7 ∨ o = 18 ∨ o = 99 ∨ o = 118 then (if k = 0 then 4 else 0)
  else if o = 25 ∨ o = 36 ∨ o = 40 ∨ o = 44 ∨ o = 48 ∨ o = 52 ∨ o = 56 ∨ o = 60 ∨ o = 64 ∨ o = 68 ∨ o = 72 ∨ o = 106 ∨ o = 125 then (if k = 2 then 4 else 0)
  else if o = 30 ∨ o = 31 ∨ o = 91 ∨ o = 92 ∨ o = 111 ∨ o = 112 ∨ o = 130 ∨ o = 131 then -1 else 0
/-- the addresses of class and reference -/
def mm_g (g : Nat → Nat → Nat) (r : Nat → Nat) (a : Nat) (q : Nat → Nat) : Nat → Nat → Nat := fun k i => if k = 0 then (if i < 133 then r i else if i = 133 then a else q (i - 134)) else g k i
theorem mk_ci {c : ClassId} {n : Nat} {f f' : Nat → Int32} (h : ∀ i, i < n → f i = f' i) : vp_cell c (n, .inl f) = vp_cell c (n, .inl f') := by
  rw [vp_cell_i, vp_cell_i]
  unfold arrV
  congr 2
  funext j
  simp only [h j.val j.isLt]
theorem mk_cq {c : ClassId} {n : Nat} {f f' : Nat → Option Nat} (h : ∀ i, i < n → f i = f' i) : vp_cell c (n, .inr (.inr (.inr (.inr f)))) = vp_cell c (n, .inr (.inr (.inr (.inr f')))) := by
  rw [vp_cell_q, vp_cell_q]
  unfold arrV
  congr 2
  funext j
  simp only [h j.val j.isLt]
def mk_to (e e' : va_E) : Prop := ∀ (D : va_G) (cl : List vw_C) (q : Nat) (H : Heap), va_at D cl (q, e) H → va_at D cl (q, e') H
theorem mk_to_i {c : ClassId} {n : Nat} {f f' : Nat → Int32} (h : ∀ i, i < n → f i = f' i) : mk_to (.inl (c, n, .inl f)) (.inl (c, n, .inl f')) := fun _ _ q H hh => (show H[q]? = some (vp_cell c (n, .inl f')) from (mk_ci h) ▸ hh)
theorem mk_to_q {c : ClassId} {n : Nat} {f f' : Nat → Option Nat} (h : ∀ i, i < n → f i = f' i) : mk_to (.inl (c, n, .inr (.inr (.inr (.inr f))))) (.inl (c, n, .inr (.inr (.inr (.inr f'))))) := fun _ _ q H hh => (show H[q]? = some (vp_cell c (n, .inr (.inr (.inr (.inr f'))))) from (mk_cq h) ▸ hh)
theorem mk_to_e {e e' : va_E} (h : e = e') : mk_to e e' := fun _ _ _ _ hh => h ▸ hh
set_option maxRecDepth 100000 in
theorem ct_0 (cy : Nat → ClassId) (g : Nat → Nat → Nat) (r : Nat → Nat) (a : Nat) (q : Nat → Nat) : mk_to (ce_Town cy g r 0) (mm_ce (mm_g g r a q) cy mm_h0 0) := mk_to_e rfl
set_option maxRecDepth 100000 in
theorem ct_1 (cy : Nat → ClassId) (g : Nat → Nat → Nat) (r : Nat → Nat) (a : Nat) (q : Nat → Nat) : mk_to (ce_Town cy g r 1) (mm_ce (mm_g g r a q) cy mm_h0 1) := mk_to_e rfl
set_option maxRecDepth 100000 in
theorem ct_2 (cy : Nat → ClassId) (g : Nat → Nat → Nat) (r : Nat → Nat) (a : Nat) (q : Nat → Nat) : mk_to (ce_Town cy g r 2) (mm_ce (mm_g g r a q) cy mm_h0 2) := mk_to_e rfl
set_option maxRecDepth 100000 in
theorem ct_3 (cy : Nat → ClassId) (g : Nat → Nat → Nat) (r : Nat → Nat) (a : Nat) (q : Nat → Nat) : mk_to (ce_Town cy g r 3) (mm_ce (mm_g g r a q) cy mm_h0 3) := mk_to_e rfl
set_option maxRecDepth 100000 in
theorem ct_4 (cy : Nat → ClassId) (g : Nat → Nat → Nat) (r : Nat → Nat) (a : Nat) (q : Nat → Nat) : mk_to (ce_Town cy g r 4) (mm_ce (mm_g g r a q) cy mm_h0 4) := mk_to_e rfl
set_option maxRecDepth 100000 in
theorem ct_5 (cy : Nat → ClassId) (g : Nat → Nat → Nat) (r : Nat → Nat) (a : Nat) (q : Nat → Nat) : mk_to (ce_Town cy g r 5) (mm_ce (mm_g g r a q) cy mm_h0 5) := mk_to_e rfl
set_option maxRecDepth 100000 in
theorem ct_6 (cy : Nat → ClassId) (g : Nat → Nat → Nat) (r : Nat → Nat) (a : Nat) (q : Nat → Nat) : mk_to (ce_Town cy g r 6) (mm_ce (mm_g g r a q) cy mm_h0 6) := mk_to_e rfl
set_option maxRecDepth 100000 in
theorem ct_7 (cy : Nat → ClassId) (g : Nat → Nat → Nat) (r : Nat → Nat) (a : Nat) (q : Nat → Nat) : mk_to (ce_Town cy g r 7) (mm_ce (mm_g g r a q) cy mm_h0 7) := mk_to_i (fun i hi => by match i, hi with
  | 0, _ => rfl
  | 1, _ => rfl
  | 2, _ => rfl
  | 3, _ => rfl
  | 4, _ => rfl)
set_option maxRecDepth 100000 in
theorem ct_8 (cy : Nat → ClassId) (g : Nat → Nat → Nat) (r : Nat → Nat) (a : Nat) (q : Nat → Nat) : mk_to (ce_Town cy g r 8) (mm_ce (mm_g g r a q) cy mm_h0 8) := mk_to_e rfl
set_option maxRecDepth 100000 in
theorem ct_9 (cy : Nat → ClassId) (g : Nat → Nat → Nat) (r : Nat → Nat) (a : Nat) (q : Nat → Nat) : mk_to (ce_Town cy g r 9) (mm_ce (mm_g g r a q) cy mm_h0 9) := mk_to_e rfl
set_option maxRecDepth 100000 in
theorem ct_10 (cy : Nat → ClassId) (g : Nat → Nat → Nat) (r : Nat → Nat) (a : Nat) (q : Nat → Nat) : mk_to (ce_Town cy g r 10) (mm_ce (mm_g g r a q) cy mm_h0 10) := mk_to_e rfl
set_option maxRecDepth 100000 in
theorem ct_11 (cy : Nat → ClassId) (g : Nat → Nat → Nat) (r : Nat → Nat) (a : Nat) (q : Nat → Nat) : mk_to (ce_Town cy g r 11) (mm_ce (mm_g g r a q) cy mm_h0 11) := mk_to_e rfl
set_option maxRecDepth 100000 in
theorem ct_12 (cy : Nat → ClassId) (g : Nat → Nat → Nat) (r : Nat → Nat) (a : Nat) (q : Nat → Nat) : mk_to (ce_Town cy g r 12) (mm_ce (mm_g g r a q) cy mm_h0 12) := mk_to_e rfl
set_option maxRecDepth 100000 in
theorem ct_13 (cy : Nat → ClassId) (g : Nat → Nat → Nat) (r : Nat → Nat) (a : Nat) (q : Nat → Nat) : mk_to (ce_Town cy g r 13) (mm_ce (mm_g g r a q) cy mm_h0 13) := mk_to_e rfl
set_option maxRecDepth 100000 in
theorem ct_14 (cy : Nat → ClassId) (g : Nat → Nat → Nat) (r : Nat → Nat) (a : Nat) (q : Nat → Nat) : mk_to (ce_Town cy g r 14) (mm_ce (mm_g g r a q) cy mm_h0 14) := mk_to_e rfl
set_option maxRecDepth 100000 in
theorem ct_15 (cy : Nat → ClassId) (g : Nat → Nat → Nat) (r : Nat → Nat) (a : Nat) (q : Nat → Nat) : mk_to (ce_Town cy g r 15) (mm_ce (mm_g g r a q) cy mm_h0 15) := mk_to_e rfl
set_option maxRecDepth 100000 in
theorem ct_16 (cy : Nat → ClassId) (g : Nat → Nat → Nat) (r : Nat → Nat) (a : Nat) (q : Nat → Nat) : mk_to (ce_Town cy g r 16) (mm_ce (mm_g g r a q) cy mm_h0 16) := mk_to_e rfl
set_option maxRecDepth 100000 in
theorem ct_17 (cy : Nat → ClassId) (g : Nat → Nat → Nat) (r : Nat → Nat) (a : Nat) (q : Nat → Nat) : mk_to (ce_Town cy g r 17) (mm_ce (mm_g g r a q) cy mm_h0 17) := mk_to_e rfl
set_option maxRecDepth 100000 in
theorem ct_18 (cy : Nat → ClassId) (g : Nat → Nat → Nat) (r : Nat → Nat) (a : Nat) (q : Nat → Nat) : mk_to (ce_Town cy g r 18) (mm_ce (mm_g g r a q) cy mm_h0 18) := mk_to_i (fun i hi => by match i, hi with
  | 0, _ => rfl
  | 1, _ => rfl
  | 2, _ => rfl
  | 3, _ => rfl
  | 4, _ => rfl)
set_option maxRecDepth 100000 in
theorem ct_19 (cy : Nat → ClassId) (g : Nat → Nat → Nat) (r : Nat → Nat) (a : Nat) (q : Nat → Nat) : mk_to (ce_Town cy g r 19) (mm_ce (mm_g g r a q) cy mm_h0 19) := mk_to_e rfl
set_option maxRecDepth 100000 in
theorem ct_20 (cy : Nat → ClassId) (g : Nat → Nat → Nat) (r : Nat → Nat) (a : Nat) (q : Nat → Nat) : mk_to (ce_Town cy g r 20) (mm_ce (mm_g g r a q) cy mm_h0 20) := mk_to_e rfl
set_option maxRecDepth 100000 in
theorem ct_21 (cy : Nat → ClassId) (g : Nat → Nat → Nat) (r : Nat → Nat) (a : Nat) (q : Nat → Nat) : mk_to (ce_Town cy g r 21) (mm_ce (mm_g g r a q) cy mm_h0 21) := mk_to_e rfl
set_option maxRecDepth 100000 in
theorem ct_22 (cy : Nat → ClassId) (g : Nat → Nat → Nat) (r : Nat → Nat) (a : Nat) (q : Nat → Nat) : mk_to (ce_Town cy g r 22) (mm_ce (mm_g g r a q) cy mm_h0 22) := mk_to_e rfl
set_option maxRecDepth 100000 in
theorem ct_23 (cy : Nat → ClassId) (g : Nat → Nat → Nat) (r : Nat → Nat) (a : Nat) (q : Nat → Nat) : mk_to (ce_Town cy g r 23) (mm_ce (mm_g g r a q) cy mm_h0 23) := mk_to_e rfl
set_option maxRecDepth 100000 in
theorem ct_24 (cy : Nat → ClassId) (g : Nat → Nat → Nat) (r : Nat → Nat) (a : Nat) (q : Nat → Nat) : mk_to (ce_Town cy g r 24) (mm_ce (mm_g g r a q) cy mm_h0 24) := mk_to_e rfl
set_option maxRecDepth 100000 in
theorem ct_25 (cy : Nat → ClassId) (g : Nat → Nat → Nat) (r : Nat → Nat) (a : Nat) (q : Nat → Nat) : mk_to (ce_Town cy g r 25) (mm_ce (mm_g g r a q) cy mm_h0 25) := mk_to_e rfl
set_option maxRecDepth 100000 in
theorem ct_26 (cy : Nat → ClassId) (g : Nat → Nat → Nat) (r : Nat → Nat) (a : Nat) (q : Nat → Nat) : mk_to (ce_Town cy g r 26) (mm_ce (mm_g g r a q) cy mm_h0 26) := mk_to_e rfl
set_option maxRecDepth 100000 in
theorem ct_27 (cy : Nat → ClassId) (g : Nat → Nat → Nat) (r : Nat → Nat) (a : Nat) (q : Nat → Nat) : mk_to (ce_Town cy g r 27) (mm_ce (mm_g g r a q) cy mm_h0 27) := mk_to_e rfl
set_option maxRecDepth 100000 in
theorem ct_28 (cy : Nat → ClassId) (g : Nat → Nat → Nat) (r : Nat → Nat) (a : Nat) (q : Nat → Nat) : mk_to (ce_Town cy g r 28) (mm_ce (mm_g g r a q) cy mm_h0 28) := mk_to_e rfl
set_option maxRecDepth 100000 in
theorem ct_29 (cy : Nat → ClassId) (g : Nat → Nat → Nat) (r : Nat → Nat) (a : Nat) (q : Nat → Nat) : mk_to (ce_Town cy g r 29) (mm_ce (mm_g g r a q) cy mm_h0 29) := mk_to_e rfl
set_option maxRecDepth 100000 in
theorem ct_30 (cy : Nat → ClassId) (g : Nat → Nat → Nat) (r : Nat → Nat) (a : Nat) (q : Nat → Nat) : mk_to (ce_Town cy g r 30) (mm_ce (mm_g g r a q) cy mm_h0 30) := mk_to_e rfl
set_option maxRecDepth 100000 in
theorem ct_31 (cy : Nat → ClassId) (g : Nat → Nat → Nat) (r : Nat → Nat) (a : Nat) (q : Nat → Nat) : mk_to (ce_Town cy g r 31) (mm_ce (mm_g g r a q) cy mm_h0 31) := mk_to_e rfl
set_option maxRecDepth 100000 in
theorem ct_32 (cy : Nat → ClassId) (g : Nat → Nat → Nat) (r : Nat → Nat) (a : Nat) (q : Nat → Nat) : mk_to (ce_Town cy g r 32) (mm_ce (mm_g g r a q) cy mm_h0 32) := mk_to_e rfl
set_option maxRecDepth 100000 in
theorem ct_33 (cy : Nat → ClassId) (g : Nat → Nat → Nat) (r : Nat → Nat) (a : Nat) (q : Nat → Nat) : mk_to (ce_Town cy g r 33) (mm_ce (mm_g g r a q) cy mm_h0 33) := mk_to_q (fun i hi => by match i, hi with
  | 0, _ => rfl
  | 1, _ => rfl)
set_option maxRecDepth 100000 in
theorem ct_34 (cy : Nat → ClassId) (g : Nat → Nat → Nat) (r : Nat → Nat) (a : Nat) (q : Nat → Nat) : mk_to (ce_Town cy g r 34) (mm_ce (mm_g g r a q) cy mm_h0 34) := mk_to_e rfl
set_option maxRecDepth 100000 in
theorem ct_35 (cy : Nat → ClassId) (g : Nat → Nat → Nat) (r : Nat → Nat) (a : Nat) (q : Nat → Nat) : mk_to (ce_Town cy g r 35) (mm_ce (mm_g g r a q) cy mm_h0 35) := mk_to_q (fun i hi => by match i, hi with
  | 0, _ => rfl
  | 1, _ => rfl
  | 2, _ => rfl
  | 3, _ => rfl
  | 4, _ => rfl
  | 5, _ => rfl
  | 6, _ => rfl
  | 7, _ => rfl)
set_option maxRecDepth 100000 in
theorem ct_36 (cy : Nat → ClassId) (g : Nat → Nat → Nat) (r : Nat → Nat) (a : Nat) (q : Nat → Nat) : mk_to (ce_Town cy g r 36) (mm_ce (mm_g g r a q) cy mm_h0 36) := mk_to_e rfl
set_option maxRecDepth 100000 in
theorem ct_37 (cy : Nat → ClassId) (g : Nat → Nat → Nat) (r : Nat → Nat) (a : Nat) (q : Nat → Nat) : mk_to (ce_Town cy g r 37) (mm_ce (mm_g g r a q) cy mm_h0 37) := mk_to_e rfl
set_option maxRecDepth 100000 in
theorem ct_38 (cy : Nat → ClassId) (g : Nat → Nat → Nat) (r : Nat → Nat) (a : Nat) (q : Nat → Nat) : mk_to (ce_Town cy g r 38) (mm_ce (mm_g g r a q) cy mm_h0 38) := mk_to_e rfl
set_option maxRecDepth 100000 in
theorem ct_39 (cy : Nat → ClassId) (g : Nat → Nat → Nat) (r : Nat → Nat) (a : Nat) (q : Nat → Nat) : mk_to (ce_Town cy g r 39) (mm_ce (mm_g g r a q) cy mm_h0 39) := mk_to_e rfl
set_option maxRecDepth 100000 in
theorem ct_40 (cy : Nat → ClassId) (g : Nat → Nat → Nat) (r : Nat → Nat) (a : Nat) (q : Nat → Nat) : mk_to (ce_Town cy g r 40) (mm_ce (mm_g g r a q) cy mm_h0 40) := mk_to_e rfl
set_option maxRecDepth 100000 in
theorem ct_41 (cy : Nat → ClassId) (g : Nat → Nat → Nat) (r : Nat → Nat) (a : Nat) (q : Nat → Nat) : mk_to (ce_Town cy g r 41) (mm_ce (mm_g g r a q) cy mm_h0 41) := mk_to_e rfl
set_option maxRecDepth 100000 in
theorem ct_42 (cy : Nat → ClassId) (g : Nat → Nat → Nat) (r : Nat → Nat) (a : Nat) (q : Nat → Nat) : mk_to (ce_Town cy g r 42) (mm_ce (mm_g g r a q) cy mm_h0 42) := mk_to_e rfl
set_option maxRecDepth 100000 in
theorem ct_43 (cy : Nat → ClassId) (g : Nat → Nat → Nat) (r : Nat → Nat) (a : Nat) (q : Nat → Nat) : mk_to (ce_Town cy g r 43) (mm_ce (mm_g g r a q) cy mm_h0 43) := mk_to_e rfl
set_option maxRecDepth 100000 in
theorem ct_44 (cy : Nat → ClassId) (g : Nat → Nat → Nat) (r : Nat → Nat) (a : Nat) (q : Nat → Nat) : mk_to (ce_Town cy g r 44) (mm_ce (mm_g g r a q) cy mm_h0 44) := mk_to_e rfl
set_option maxRecDepth 100000 in
theorem ct_45 (cy : Nat → ClassId) (g : Nat → Nat → Nat) (r : Nat → Nat) (a : Nat) (q : Nat → Nat) : mk_to (ce_Town cy g r 45) (mm_ce (mm_g g r a q) cy mm_h0 45) := mk_to_e rfl
set_option maxRecDepth 100000 in
theorem ct_46 (cy : Nat → ClassId) (g : Nat → Nat → Nat) (r : Nat → Nat) (a : Nat) (q : Nat → Nat) : mk_to (ce_Town cy g r 46) (mm_ce (mm_g g r a q) cy mm_h0 46) := mk_to_e rfl
set_option maxRecDepth 100000 in
theorem ct_47 (cy : Nat → ClassId) (g : Nat → Nat → Nat) (r : Nat → Nat) (a : Nat) (q : Nat → Nat) : mk_to (ce_Town cy g r 47) (mm_ce (mm_g g r a q) cy mm_h0 47) := mk_to_e rfl
set_option maxRecDepth 100000 in
theorem ct_48 (cy : Nat → ClassId) (g : Nat → Nat → Nat) (r : Nat → Nat) (a : Nat) (q : Nat → Nat) : mk_to (ce_Town cy g r 48) (mm_ce (mm_g g r a q) cy mm_h0 48) := mk_to_e rfl
set_option maxRecDepth 100000 in
theorem ct_49 (cy : Nat → ClassId) (g : Nat → Nat → Nat) (r : Nat → Nat) (a : Nat) (q : Nat → Nat) : mk_to (ce_Town cy g r 49) (mm_ce (mm_g g r a q) cy mm_h0 49) := mk_to_e rfl
set_option maxRecDepth 100000 in
theorem ct_50 (cy : Nat → ClassId) (g : Nat → Nat → Nat) (r : Nat → Nat) (a : Nat) (q : Nat → Nat) : mk_to (ce_Town cy g r 50) (mm_ce (mm_g g r a q) cy mm_h0 50) := mk_to_e rfl
set_option maxRecDepth 100000 in
theorem ct_51 (cy : Nat → ClassId) (g : Nat → Nat → Nat) (r : Nat → Nat) (a : Nat) (q : Nat → Nat) : mk_to (ce_Town cy g r 51) (mm_ce (mm_g g r a q) cy mm_h0 51) := mk_to_e rfl
set_option maxRecDepth 100000 in
theorem ct_52 (cy : Nat → ClassId) (g : Nat → Nat → Nat) (r : Nat → Nat) (a : Nat) (q : Nat → Nat) : mk_to (ce_Town cy g r 52) (mm_ce (mm_g g r a q) cy mm_h0 52) := mk_to_e rfl
set_option maxRecDepth 100000 in
theorem ct_53 (cy : Nat → ClassId) (g : Nat → Nat → Nat) (r : Nat → Nat) (a : Nat) (q : Nat → Nat) : mk_to (ce_Town cy g r 53) (mm_ce (mm_g g r a q) cy mm_h0 53) := mk_to_e rfl
set_option maxRecDepth 100000 in
theorem ct_54 (cy : Nat → ClassId) (g : Nat → Nat → Nat) (r : Nat → Nat) (a : Nat) (q : Nat → Nat) : mk_to (ce_Town cy g r 54) (mm_ce (mm_g g r a q) cy mm_h0 54) := mk_to_e rfl
set_option maxRecDepth 100000 in
theorem ct_55 (cy : Nat → ClassId) (g : Nat → Nat → Nat) (r : Nat → Nat) (a : Nat) (q : Nat → Nat) : mk_to (ce_Town cy g r 55) (mm_ce (mm_g g r a q) cy mm_h0 55) := mk_to_e rfl
set_option maxRecDepth 100000 in
theorem ct_56 (cy : Nat → ClassId) (g : Nat → Nat → Nat) (r : Nat → Nat) (a : Nat) (q : Nat → Nat) : mk_to (ce_Town cy g r 56) (mm_ce (mm_g g r a q) cy mm_h0 56) := mk_to_e rfl
set_option maxRecDepth 100000 in
theorem ct_57 (cy : Nat → ClassId) (g : Nat → Nat → Nat) (r : Nat → Nat) (a : Nat) (q : Nat → Nat) : mk_to (ce_Town cy g r 57) (mm_ce (mm_g g r a q) cy mm_h0 57) := mk_to_e rfl
set_option maxRecDepth 100000 in
theorem ct_58 (cy : Nat → ClassId) (g : Nat → Nat → Nat) (r : Nat → Nat) (a : Nat) (q : Nat → Nat) : mk_to (ce_Town cy g r 58) (mm_ce (mm_g g r a q) cy mm_h0 58) := mk_to_e rfl
set_option maxRecDepth 100000 in
theorem ct_59 (cy : Nat → ClassId) (g : Nat → Nat → Nat) (r : Nat → Nat) (a : Nat) (q : Nat → Nat) : mk_to (ce_Town cy g r 59) (mm_ce (mm_g g r a q) cy mm_h0 59) := mk_to_e rfl
set_option maxRecDepth 100000 in
theorem ct_60 (cy : Nat → ClassId) (g : Nat → Nat → Nat) (r : Nat → Nat) (a : Nat) (q : Nat → Nat) : mk_to (ce_Town cy g r 60) (mm_ce (mm_g g r a q) cy mm_h0 60) := mk_to_e rfl
set_option maxRecDepth 100000 in
theorem ct_61 (cy : Nat → ClassId) (g : Nat → Nat → Nat) (r : Nat → Nat) (a : Nat) (q : Nat → Nat) : mk_to (ce_Town cy g r 61) (mm_ce (mm_g g r a q) cy mm_h0 61) := mk_to_e rfl
set_option maxRecDepth 100000 in
theorem ct_62 (cy : Nat → ClassId) (g : Nat → Nat → Nat) (r : Nat → Nat) (a : Nat) (q : Nat → Nat) : mk_to (ce_Town cy g r 62) (mm_ce (mm_g g r a q) cy mm_h0 62) := mk_to_e rfl
set_option maxRecDepth 100000 in
theorem ct_63 (cy : Nat → ClassId) (g : Nat → Nat → Nat) (r : Nat → Nat) (a : Nat) (q : Nat → Nat) : mk_to (ce_Town cy g r 63) (mm_ce (mm_g g r a q) cy mm_h0 63) := mk_to_e rfl
set_option maxRecDepth 100000 in
theorem ct_64 (cy : Nat → ClassId) (g : Nat → Nat → Nat) (r : Nat → Nat) (a : Nat) (q : Nat → Nat) : mk_to (ce_Town cy g r 64) (mm_ce (mm_g g r a q) cy mm_h0 64) := mk_to_e rfl
set_option maxRecDepth 100000 in
theorem ct_65 (cy : Nat → ClassId) (g : Nat → Nat → Nat) (r : Nat → Nat) (a : Nat) (q : Nat → Nat) : mk_to (ce_Town cy g r 65) (mm_ce (mm_g g r a q) cy mm_h0 65) := mk_to_e rfl
set_option maxRecDepth 100000 in
theorem ct_66 (cy : Nat → ClassId) (g : Nat → Nat → Nat) (r : Nat → Nat) (a : Nat) (q : Nat → Nat) : mk_to (ce_Town cy g r 66) (mm_ce (mm_g g r a q) cy mm_h0 66) := mk_to_e rfl
set_option maxRecDepth 100000 in
theorem ct_67 (cy : Nat → ClassId) (g : Nat → Nat → Nat) (r : Nat → Nat) (a : Nat) (q : Nat → Nat) : mk_to (ce_Town cy g r 67) (mm_ce (mm_g g r a q) cy mm_h0 67) := mk_to_e rfl
set_option maxRecDepth 100000 in
theorem ct_68 (cy : Nat → ClassId) (g : Nat → Nat → Nat) (r : Nat → Nat) (a : Nat) (q : Nat → Nat) : mk_to (ce_Town cy g r 68) (mm_ce (mm_g g r a q) cy mm_h0 68) := mk_to_e rfl
set_option maxRecDepth 100000 in
theorem ct_69 (cy : Nat → ClassId) (g : Nat → Nat → Nat) (r : Nat → Nat) (a : Nat) (q : Nat → Nat) : mk_to (ce_Town cy g r 69) (mm_ce (mm_g g r a q) cy mm_h0 69) := mk_to_e rfl
set_option maxRecDepth 100000 in
theorem ct_70 (cy : Nat → ClassId) (g : Nat → Nat → Nat) (r : Nat → Nat) (a : Nat) (q : Nat → Nat) : mk_to (ce_Town cy g r 70) (mm_ce (mm_g g r a q) cy mm_h0 70) := mk_to_e rfl
set_option maxRecDepth 100000 in
theorem ct_71 (cy : Nat → ClassId) (g : Nat → Nat → Nat) (r : Nat → Nat) (a : Nat) (q : Nat → Nat) : mk_to (ce_Town cy g r 71) (mm_ce (mm_g g r a q) cy mm_h0 71) := mk_to_e rfl
set_option maxRecDepth 100000 in
theorem ct_72 (cy : Nat → ClassId) (g : Nat → Nat → Nat) (r : Nat → Nat) (a : Nat) (q : Nat → Nat) : mk_to (ce_Town cy g r 72) (mm_ce (mm_g g r a q) cy mm_h0 72) := mk_to_e rfl
set_option maxRecDepth 100000 in
theorem ct_73 (cy : Nat → ClassId) (g : Nat → Nat → Nat) (r : Nat → Nat) (a : Nat) (q : Nat → Nat) : mk_to (ce_Town cy g r 73) (mm_ce (mm_g g r a q) cy mm_h0 73) := mk_to_e rfl
set_option maxRecDepth 100000 in
theorem ct_74 (cy : Nat → ClassId) (g : Nat → Nat → Nat) (r : Nat → Nat) (a : Nat) (q : Nat → Nat) : mk_to (ce_Town cy g r 74) (mm_ce (mm_g g r a q) cy mm_h0 74) := mk_to_e rfl
set_option maxRecDepth 100000 in
theorem ct_75 (cy : Nat → ClassId) (g : Nat → Nat → Nat) (r : Nat → Nat) (a : Nat) (q : Nat → Nat) : mk_to (ce_Town cy g r 75) (mm_ce (mm_g g r a q) cy mm_h0 75) := mk_to_e rfl
set_option maxRecDepth 100000 in
theorem ct_76 (cy : Nat → ClassId) (g : Nat → Nat → Nat) (r : Nat → Nat) (a : Nat) (q : Nat → Nat) : mk_to (ce_Town cy g r 76) (mm_ce (mm_g g r a q) cy mm_h0 76) := mk_to_e rfl
set_option maxRecDepth 100000 in
theorem ct_77 (cy : Nat → ClassId) (g : Nat → Nat → Nat) (r : Nat → Nat) (a : Nat) (q : Nat → Nat) : mk_to (ce_Town cy g r 77) (mm_ce (mm_g g r a q) cy mm_h0 77) := mk_to_e rfl
set_option maxRecDepth 100000 in
theorem ct_78 (cy : Nat → ClassId) (g : Nat → Nat → Nat) (r : Nat → Nat) (a : Nat) (q : Nat → Nat) : mk_to (ce_Town cy g r 78) (mm_ce (mm_g g r a q) cy mm_h0 78) := mk_to_e rfl
set_option maxRecDepth 100000 in
theorem ct_79 (cy : Nat → ClassId) (g : Nat → Nat → Nat) (r : Nat → Nat) (a : Nat) (q : Nat → Nat) : mk_to (ce_Town cy g r 79) (mm_ce (mm_g g r a q) cy mm_h0 79) := mk_to_q (fun i hi => by match i, hi with
  | 0, _ => rfl
  | 1, _ => rfl
  | 2, _ => rfl
  | 3, _ => rfl
  | 4, _ => rfl
  | 5, _ => rfl)
set_option maxRecDepth 100000 in
theorem ct_80 (cy : Nat → ClassId) (g : Nat → Nat → Nat) (r : Nat → Nat) (a : Nat) (q : Nat → Nat) : mk_to (ce_Town cy g r 80) (mm_ce (mm_g g r a q) cy mm_h0 80) := mk_to_e rfl
set_option maxRecDepth 100000 in
theorem ct_81 (cy : Nat → ClassId) (g : Nat → Nat → Nat) (r : Nat → Nat) (a : Nat) (q : Nat → Nat) : mk_to (ce_Town cy g r 81) (mm_ce (mm_g g r a q) cy mm_h0 81) := mk_to_e rfl
set_option maxRecDepth 100000 in
theorem ct_82 (cy : Nat → ClassId) (g : Nat → Nat → Nat) (r : Nat → Nat) (a : Nat) (q : Nat → Nat) : mk_to (ce_Town cy g r 82) (mm_ce (mm_g g r a q) cy mm_h0 82) := mk_to_e rfl
set_option maxRecDepth 100000 in
theorem ct_83 (cy : Nat → ClassId) (g : Nat → Nat → Nat) (r : Nat → Nat) (a : Nat) (q : Nat → Nat) : mk_to (ce_Town cy g r 83) (mm_ce (mm_g g r a q) cy mm_h0 83) := mk_to_e rfl
set_option maxRecDepth 100000 in
theorem ct_84 (cy : Nat → ClassId) (g : Nat → Nat → Nat) (r : Nat → Nat) (a : Nat) (q : Nat → Nat) : mk_to (ce_Town cy g r 84) (mm_ce (mm_g g r a q) cy mm_h0 84) := mk_to_e rfl
set_option maxRecDepth 100000 in
theorem ct_85 (cy : Nat → ClassId) (g : Nat → Nat → Nat) (r : Nat → Nat) (a : Nat) (q : Nat → Nat) : mk_to (ce_Town cy g r 85) (mm_ce (mm_g g r a q) cy mm_h0 85) := mk_to_e rfl
set_option maxRecDepth 100000 in
theorem ct_86 (cy : Nat → ClassId) (g : Nat → Nat → Nat) (r : Nat → Nat) (a : Nat) (q : Nat → Nat) : mk_to (ce_Town cy g r 86) (mm_ce (mm_g g r a q) cy mm_h0 86) := mk_to_e rfl
set_option maxRecDepth 100000 in
theorem ct_87 (cy : Nat → ClassId) (g : Nat → Nat → Nat) (r : Nat → Nat) (a : Nat) (q : Nat → Nat) : mk_to (ce_Town cy g r 87) (mm_ce (mm_g g r a q) cy mm_h0 87) := mk_to_e rfl
set_option maxRecDepth 100000 in
theorem ct_88 (cy : Nat → ClassId) (g : Nat → Nat → Nat) (r : Nat → Nat) (a : Nat) (q : Nat → Nat) : mk_to (ce_Town cy g r 88) (mm_ce (mm_g g r a q) cy mm_h0 88) := mk_to_e rfl
set_option maxRecDepth 100000 in
theorem ct_89 (cy : Nat → ClassId) (g : Nat → Nat → Nat) (r : Nat → Nat) (a : Nat) (q : Nat → Nat) : mk_to (ce_Town cy g r 89) (mm_ce (mm_g g r a q) cy mm_h0 89) := mk_to_e rfl
set_option maxRecDepth 100000 in
theorem ct_90 (cy : Nat → ClassId) (g : Nat → Nat → Nat) (r : Nat → Nat) (a : Nat) (q : Nat → Nat) : mk_to (ce_Town cy g r 90) (mm_ce (mm_g g r a q) cy mm_h0 90) := mk_to_e rfl
set_option maxRecDepth 100000 in
theorem ct_91 (cy : Nat → ClassId) (g : Nat → Nat → Nat) (r : Nat → Nat) (a : Nat) (q : Nat → Nat) : mk_to (ce_Town cy g r 91) (mm_ce (mm_g g r a q) cy mm_h0 91) := mk_to_e rfl
set_option maxRecDepth 100000 in
theorem ct_92 (cy : Nat → ClassId) (g : Nat → Nat → Nat) (r : Nat → Nat) (a : Nat) (q : Nat → Nat) : mk_to (ce_Town cy g r 92) (mm_ce (mm_g g r a q) cy mm_h0 92) := mk_to_e rfl
set_option maxRecDepth 100000 in
theorem ct_93 (cy : Nat → ClassId) (g : Nat → Nat → Nat) (r : Nat → Nat) (a : Nat) (q : Nat → Nat) : mk_to (ce_Town cy g r 93) (mm_ce (mm_g g r a q) cy mm_h0 93) := mk_to_e rfl
set_option maxRecDepth 100000 in
theorem ct_94 (cy : Nat → ClassId) (g : Nat → Nat → Nat) (r : Nat → Nat) (a : Nat) (q : Nat → Nat) : mk_to (ce_Town cy g r 94) (mm_ce (mm_g g r a q) cy mm_h0 94) := mk_to_e rfl
set_option maxRecDepth 100000 in
theorem ct_95 (cy : Nat → ClassId) (g : Nat → Nat → Nat) (r : Nat → Nat) (a : Nat) (q : Nat → Nat) : mk_to (ce_Town cy g r 95) (mm_ce (mm_g g r a q) cy mm_h0 95) := mk_to_e rfl
set_option maxRecDepth 100000 in
theorem ct_96 (cy : Nat → ClassId) (g : Nat → Nat → Nat) (r : Nat → Nat) (a : Nat) (q : Nat → Nat) : mk_to (ce_Town cy g r 96) (mm_ce (mm_g g r a q) cy mm_h0 96) := mk_to_e rfl
set_option maxRecDepth 100000 in
theorem ct_97 (cy : Nat → ClassId) (g : Nat → Nat → Nat) (r : Nat → Nat) (a : Nat) (q : Nat → Nat) : mk_to (ce_Town cy g r 97) (mm_ce (mm_g g r a q) cy mm_h0 97) := mk_to_e rfl
set_option maxRecDepth 100000 in
theorem ct_98 (cy : Nat → ClassId) (g : Nat → Nat → Nat) (r : Nat → Nat) (a : Nat) (q : Nat → Nat) : mk_to (ce_Town cy g r 98) (mm_ce (mm_g g r a q) cy mm_h0 98) := mk_to_e rfl
set_option maxRecDepth 100000 in
theorem ct_99 (cy : Nat → ClassId) (g : Nat → Nat → Nat) (r : Nat → Nat) (a : Nat) (q : Nat → Nat) : mk_to (ce_Town cy g r 99) (mm_ce (mm_g g r a q) cy mm_h0 99) := mk_to_i (fun i hi => by match i, hi with
  | 0, _ => rfl
  | 1, _ => rfl
  | 2, _ => rfl
  | 3, _ => rfl
  | 4, _ => rfl)
set_option maxRecDepth 100000 in
theorem ct_100 (cy : Nat → ClassId) (g : Nat → Nat → Nat) (r : Nat → Nat) (a : Nat) (q : Nat → Nat) : mk_to (ce_Town cy g r 100) (mm_ce (mm_g g r a q) cy mm_h0 100) := mk_to_e rfl
set_option maxRecDepth 100000 in
theorem ct_101 (cy : Nat → ClassId) (g : Nat → Nat → Nat) (r : Nat → Nat) (a : Nat) (q : Nat → Nat) : mk_to (ce_Town cy g r 101) (mm_ce (mm_g g r a q) cy mm_h0 101) := mk_to_e rfl
set_option maxRecDepth 100000 in
theorem ct_102 (cy : Nat → ClassId) (g : Nat → Nat → Nat) (r : Nat → Nat) (a : Nat) (q : Nat → Nat) : mk_to (ce_Town cy g r 102) (mm_ce (mm_g g r a q) cy mm_h0 102) := mk_to_e rfl
set_option maxRecDepth 100000 in
theorem ct_103 (cy : Nat → ClassId) (g : Nat → Nat → Nat) (r : Nat → Nat) (a : Nat) (q : Nat → Nat) : mk_to (ce_Town cy g r 103) (mm_ce (mm_g g r a q) cy mm_h0 103) := mk_to_e rfl
set_option maxRecDepth 100000 in
theorem ct_104 (cy : Nat → ClassId) (g : Nat → Nat → Nat) (r : Nat → Nat) (a : Nat) (q : Nat → Nat) : mk_to (ce_Town cy g r 104) (mm_ce (mm_g g r a q) cy mm_h0 104) := mk_to_e rfl
set_option maxRecDepth 100000 in
theorem ct_105 (cy : Nat → ClassId) (g : Nat → Nat → Nat) (r : Nat → Nat) (a : Nat) (q : Nat → Nat) : mk_to (ce_Town cy g r 105) (mm_ce (mm_g g r a q) cy mm_h0 105) := mk_to_e rfl
set_option maxRecDepth 100000 in
theorem ct_106 (cy : Nat → ClassId) (g : Nat → Nat → Nat) (r : Nat → Nat) (a : Nat) (q : Nat → Nat) : mk_to (ce_Town cy g r 106) (mm_ce (mm_g g r a q) cy mm_h0 106) := mk_to_e rfl
set_option maxRecDepth 100000 in
theorem ct_107 (cy : Nat → ClassId) (g : Nat → Nat → Nat) (r : Nat → Nat) (a : Nat) (q : Nat → Nat) : mk_to (ce_Town cy g r 107) (mm_ce (mm_g g r a q) cy mm_h0 107) := mk_to_e rfl
set_option maxRecDepth 100000 in
theorem ct_108 (cy : Nat → ClassId) (g : Nat → Nat → Nat) (r : Nat → Nat) (a : Nat) (q : Nat → Nat) : mk_to (ce_Town cy g r 108) (mm_ce (mm_g g r a q) cy mm_h0 108) := mk_to_e rfl
set_option maxRecDepth 100000 in
theorem ct_109 (cy : Nat → ClassId) (g : Nat → Nat → Nat) (r : Nat → Nat) (a : Nat) (q : Nat → Nat) : mk_to (ce_Town cy g r 109) (mm_ce (mm_g g r a q) cy mm_h0 109) := mk_to_e rfl
set_option maxRecDepth 100000 in
theorem ct_110 (cy : Nat → ClassId) (g : Nat → Nat → Nat) (r : Nat → Nat) (a : Nat) (q : Nat → Nat) : mk_to (ce_Town cy g r 110) (mm_ce (mm_g g r a q) cy mm_h0 110) := mk_to_e rfl
set_option maxRecDepth 100000 in
theorem ct_111 (cy : Nat → ClassId) (g : Nat → Nat → Nat) (r : Nat → Nat) (a : Nat) (q : Nat → Nat) : mk_to (ce_Town cy g r 111) (mm_ce (mm_g g r a q) cy mm_h0 111) := mk_to_e rfl
set_option maxRecDepth 100000 in
theorem ct_112 (cy : Nat → ClassId) (g : Nat → Nat → Nat) (r : Nat → Nat) (a : Nat) (q : Nat → Nat) : mk_to (ce_Town cy g r 112) (mm_ce (mm_g g r a q) cy mm_h0 112) := mk_to_e rfl
set_option maxRecDepth 100000 in
theorem ct_113 (cy : Nat → ClassId) (g : Nat → Nat → Nat) (r : Nat → Nat) (a : Nat) (q : Nat → Nat) : mk_to (ce_Town cy g r 113) (mm_ce (mm_g g r a q) cy mm_h0 113) := mk_to_e rfl
set_option maxRecDepth 100000 in
theorem ct_114 (cy : Nat → ClassId) (g : Nat → Nat → Nat) (r : Nat → Nat) (a : Nat) (q : Nat → Nat) : mk_to (ce_Town cy g r 114) (mm_ce (mm_g g r a q) cy mm_h0 114) := mk_to_e rfl
set_option maxRecDepth 100000 in
theorem ct_115 (cy : Nat → ClassId) (g : Nat → Nat → Nat) (r : Nat → Nat) (a : Nat) (q : Nat → Nat) : mk_to (ce_Town cy g r 115) (mm_ce (mm_g g r a q) cy mm_h0 115) := mk_to_e rfl
set_option maxRecDepth 100000 in
theorem ct_116 (cy : Nat → ClassId) (g : Nat → Nat → Nat) (r : Nat → Nat) (a : Nat) (q : Nat → Nat) : mk_to (ce_Town cy g r 116) (mm_ce (mm_g g r a q) cy mm_h0 116) := mk_to_e rfl
set_option maxRecDepth 100000 in
theorem ct_117 (cy : Nat → ClassId) (g : Nat → Nat → Nat) (r : Nat → Nat) (a : Nat) (q : Nat → Nat) : mk_to (ce_Town cy g r 117) (mm_ce (mm_g g r a q) cy mm_h0 117) := mk_to_e rfl
set_option maxRecDepth 100000 in
theorem ct_118 (cy : Nat → ClassId) (g : Nat → Nat → Nat) (r : Nat → Nat) (a : Nat) (q : Nat → Nat) : mk_to (ce_Town cy g r 118) (mm_ce (mm_g g r a q) cy mm_h0 118) := mk_to_i (fun i hi => by match i, hi with
  | 0, _ => rfl
  | 1, _ => rfl
  | 2, _ => rfl
  | 3, _ => rfl
  | 4, _ => rfl)
set_option maxRecDepth 100000 in
theorem ct_119 (cy : Nat → ClassId) (g : Nat → Nat → Nat) (r : Nat → Nat) (a : Nat) (q : Nat → Nat) : mk_to (ce_Town cy g r 119) (mm_ce (mm_g g r a q) cy mm_h0 119) := mk_to_e rfl
set_option maxRecDepth 100000 in
theorem ct_120 (cy : Nat → ClassId) (g : Nat → Nat → Nat) (r : Nat → Nat) (a : Nat) (q : Nat → Nat) : mk_to (ce_Town cy g r 120) (mm_ce (mm_g g r a q) cy mm_h0 120) := mk_to_e rfl
set_option maxRecDepth 100000 in
theorem ct_121 (cy : Nat → ClassId) (g : Nat → Nat → Nat) (r : Nat → Nat) (a : Nat) (q : Nat → Nat) : mk_to (ce_Town cy g r 121) (mm_ce (mm_g g r a q) cy mm_h0 121) := mk_to_e rfl
set_option maxRecDepth 100000 in
theorem ct_122 (cy : Nat → ClassId) (g : Nat → Nat → Nat) (r : Nat → Nat) (a : Nat) (q : Nat → Nat) : mk_to (ce_Town cy g r 122) (mm_ce (mm_g g r a q) cy mm_h0 122) := mk_to_e rfl
set_option maxRecDepth 100000 in
theorem ct_123 (cy : Nat → ClassId) (g : Nat → Nat → Nat) (r : Nat → Nat) (a : Nat) (q : Nat → Nat) : mk_to (ce_Town cy g r 123) (mm_ce (mm_g g r a q) cy mm_h0 123) := mk_to_e rfl
set_option maxRecDepth 100000 in
theorem ct_124 (cy : Nat → ClassId) (g : Nat → Nat → Nat) (r : Nat → Nat) (a : Nat) (q : Nat → Nat) : mk_to (ce_Town cy g r 124) (mm_ce (mm_g g r a q) cy mm_h0 124) := mk_to_e rfl
set_option maxRecDepth 100000 in
theorem ct_125 (cy : Nat → ClassId) (g : Nat → Nat → Nat) (r : Nat → Nat) (a : Nat) (q : Nat → Nat) : mk_to (ce_Town cy g r 125) (mm_ce (mm_g g r a q) cy mm_h0 125) := mk_to_e rfl
set_option maxRecDepth 100000 in
theorem ct_126 (cy : Nat → ClassId) (g : Nat → Nat → Nat) (r : Nat → Nat) (a : Nat) (q : Nat → Nat) : mk_to (ce_Town cy g r 126) (mm_ce (mm_g g r a q) cy mm_h0 126) := mk_to_e rfl
set_option maxRecDepth 100000 in
theorem ct_127 (cy : Nat → ClassId) (g : Nat → Nat → Nat) (r : Nat → Nat) (a : Nat) (q : Nat → Nat) : mk_to (ce_Town cy g r 127) (mm_ce (mm_g g r a q) cy mm_h0 127) := mk_to_e rfl
set_option maxRecDepth 100000 in
theorem ct_128 (cy : Nat → ClassId) (g : Nat → Nat → Nat) (r : Nat → Nat) (a : Nat) (q : Nat → Nat) : mk_to (ce_Town cy g r 128) (mm_ce (mm_g g r a q) cy mm_h0 128) := mk_to_e rfl
set_option maxRecDepth 100000 in
theorem ct_129 (cy : Nat → ClassId) (g : Nat → Nat → Nat) (r : Nat → Nat) (a : Nat) (q : Nat → Nat) : mk_to (ce_Town cy g r 129) (mm_ce (mm_g g r a q) cy mm_h0 129) := mk_to_e rfl
set_option maxRecDepth 100000 in
theorem ct_130 (cy : Nat → ClassId) (g : Nat → Nat → Nat) (r : Nat → Nat) (a : Nat) (q : Nat → Nat) : mk_to (ce_Town cy g r 130) (mm_ce (mm_g g r a q) cy mm_h0 130) := mk_to_e rfl
set_option maxRecDepth 100000 in
theorem ct_131 (cy : Nat → ClassId) (g : Nat → Nat → Nat) (r : Nat → Nat) (a : Nat) (q : Nat → Nat) : mk_to (ce_Town cy g r 131) (mm_ce (mm_g g r a q) cy mm_h0 131) := mk_to_e rfl
set_option maxRecDepth 100000 in
theorem ct_132 (cy : Nat → ClassId) (g : Nat → Nat → Nat) (r : Nat → Nat) (a : Nat) (q : Nat → Nat) : mk_to (ce_Town cy g r 132) (mm_ce (mm_g g r a q) cy mm_h0 132) := mk_to_e rfl
