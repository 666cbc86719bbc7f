/-! The constructors, walked -/
theorem dk8_0 : decode cX8_init 0 = .ok (.aload_n 0, 1) := by decide +kernel
theorem dk8_1 : decode cX8_init 1 = .ok (.invokespecial 3, 3) := by decide +kernel
theorem dk8_4 : decode cX8_init 4 = .ok (.aload_n 0, 1) := by decide +kernel
theorem dk8_5 : decode cX8_init 5 = .ok (.sipush 940, 3) := by decide +kernel
theorem dk8_8 : decode cX8_init 8 = .ok (.newarray .byte, 2) := by decide +kernel
theorem dk8_10 : decode cX8_init 10 = .ok (.putfield 9, 3) := by decide +kernel
theorem dk8_13 : decode cX8_init 13 = .ok (.aload_n 0, 1) := by decide +kernel
theorem dk8_14 : decode cX8_init 14 = .ok (.getstatic 15, 3) := by decide +kernel
theorem dk8_17 : decode cX8_init 17 = .ok (.putfield 21, 3) := by decide +kernel
theorem dk8_20 : decode cX8_init 20 = .ok (.return_, 1) := by decide +kernel
def ce_Tape (cy : Nat → ClassId) (g : Nat → Nat → Nat) (r : Nat → Nat) (o : Nat) : va_E := if o = 0 then .inr (8, [.ref (r 1), .int 0, .int 0, .int 0, .ref (g 1 0), .int 0, .int 0, .long 0, .int 0, .int 0]) else if o = 1 then .inl (cy 3, 940, .inl fun _ => 0) else .inr (0, [])
set_option maxHeartbeats 8000000 in
set_option maxRecDepth 100000 in
theorem mt_Tape (l : Launch) (D : va_G) (cy : Nat → ClassId) (g : Nat → Nat → Nat) (z0 a sz : Nat) : Met l yX8_init (mk_w yX8_init cX8_init 1) (mk_rm 1 1 940) (va_Pc [.ref a] (mk_U D cy g z0 a sz (.inr (8, [.null, .int 0, .int 0, .int 0, .null, .int 0, .int 0, .long 0, .int 0, .int 0])))) (mk_Q D 2 (ce_Tape cy g) a (va_A [(a, .inr (8, [.null, .int 0, .int 0, .int 0, .null, .int 0, .int 0, .long 0, .int 0, .int 0]))] sz)) 1 940 (va_A [(a, .inr (8, [.null, .int 0, .int 0, .int 0, .null, .int 0, .int 0, .long 0, .int 0, .int 0]))] sz) := by
  refine Met.ofW (cc := cX8_init) (maxL := 1) (ret := none) (by decide +kernel) rfl ?_
  intro p e s m args below meth c s₁ B hml hv
  obtain ⟨rfl, hsz, hP, hK, hZ, hN, hO, hza, hzs⟩ := hv
  have hx := B.exec
  have hb := B.bytes
  have hr := B.returns
  have hts := fun w hw => atoms_spec (ws := mk_w yX8_init cX8_init 1) B.pre w (List.mem_cons_of_mem _ hw)
  have hown : s.vm.findClass RX8 = some m.cls := findClass_of_methodNamed B.named
  have hlocks := B.notSynchronized
  have hin : meth.name = "<init>" := (name_of_methodNamed B.named B.method).1
  subst hsz
  have hD := mk_D1 (a := a) (sz := s.heap.size) (b := .inr (8, [.null, .int 0, .int 0, .int 0, .null, .int 0, .int 0, .long 0, .int 0, .int 0]))
  have hAz : ∀ q, va_A [(a, .inr (8, [.null, .int 0, .int 0, .int 0, .null, .int 0, .int 0, .long 0, .int 0, .int 0]))] s.heap.size q → z0 ≤ q := fun q h => by
    rcases mk_A1.mp h with h | h <;> omega
  generalize hAe : va_A [(a, .inr (8, [.null, .int 0, .int 0, .int 0, .null, .int 0, .int 0, .long 0, .int 0, .int 0]))] s.heap.size = A at hD hAz ⊢
  have hA : ∀ q : Nat, s.heap.size ≤ q → A q := fun q h => by rw [← hAe]; exact Or.inr h
  have hS : va_S A s.heap s.heap [] := va_S.rf
  have hl := lv_entry ([.ref a]) (n := 1) (Nat.le_of_ble_eq_true rfl)
  rw [lg_entry_eq]
  generalize (lg_sl ([.ref a]) ++ List.replicate (1 - (lg_sl ([.ref a])).length) Slot.unset).toArray = ls at hl ⊢
  have hl : lv_has ls 1 [(0, .ref a)] := hl
  have hP : va_P D vwCl ((a, .inr (8, [.null, .int 0, .int 0, .int 0, .null, .int 0, .int 0, .long 0, .int 0, .int 0])) :: ([])) s.heap := hP
  refine lv_aload_n hx hb dk8_0 rfl (lv_at hl 0 rfl) ?_
  refine W.objInit hx hb hown (hts _ (mm_tw1 38 rfl rfl)) (hts _ (mm_tw1 31 rfl rfl)) (hts _ (mm_tw1 32 rfl rfl)) rfl (by rw [hml]; exact hl.1) rfl dk8_1 (Nat.le_of_ble_eq_true rfl) (Nat.le_of_ble_eq_true rfl) ?_
  refine W.eq (g2 := F0 m 4 ls []) rfl ?_
  refine lv_aload_n hx hb dk8_4 rfl (lv_at hl 0 rfl) ?_
  refine lv_sipush (v := 940) hx hb dk8_5 (by decide) ?_
  refine mk_ab hx hb hts hK hP hD hS hA 940 (by decide) (by decide) (by decide) (Nat.le_of_ble_eq_true rfl) (Nat.le_of_ble_eq_true rfl) dk8_8 (fun q8 H hP hD hS => ?_)
  have hP : va_P D vwCl ((a, .inr (8, [.null, .int 0, .int 0, .int 0, .null, .int 0, .int 0, .long 0, .int 0, .int 0])) :: ([(q8, .inl (cy 3, 940, .inl fun _ => 0))])) H := hP
  have hD : va_D A ((a, .inr (8, [.null, .int 0, .int 0, .int 0, .null, .int 0, .int 0, .long 0, .int 0, .int 0])) :: ([(q8, .inl (cy 3, 940, .inl fun _ => 0))])) := hD
  refine va_putF (D := D) (ci := 8) (v := .ref q8) (C := RX8) (T := TX8) (N := 10) hx hb hts mm_cw18 tyX8 tyX8_ok nmX8 hown hK hP hD hS 0 rfl rfl 0 (by decide) (hts _ (mm_tw1 41 rfl rfl)) (fun _ w => w) rfl hin rfl (tyX8_ok 0 (by decide)) rfl rfl (Nat.le_of_ble_eq_true rfl) dk8_10 (fun H locs hP hD hS => ?_)
  have hP : va_P D vwCl ((a, .inr (8, [.ref q8, .int 0, .int 0, .int 0, .null, .int 0, .int 0, .long 0, .int 0, .int 0])) :: ([(q8, .inl (cy 3, 940, .inl fun _ => 0))])) H := hP
  have hD : va_D A ((a, .inr (8, [.ref q8, .int 0, .int 0, .int 0, .null, .int 0, .int 0, .long 0, .int 0, .int 0])) :: ([(q8, .inl (cy 3, 940, .inl fun _ => 0))])) := hD
  refine lv_aload_n hx hb dk8_13 rfl (lv_at hl 0 rfl) ?_
  refine va_gets hx hb ((hZ.1 0 (by decide)).narrow hAz) hS hown (hts _ (mm_tw1 39 rfl rfl)) (fun _ w => w) dk8_14 ?_
  refine va_put (D := D) (ci := 8) (v := .ref (g 1 0)) (C := RX8) (T := TX8) (N := 10) hx hb hts mm_cw18 tyX8 tyX8_ok nmX8 hown hK hP hD hS 0 rfl rfl 4 (by decide) (hts _ (mm_tw1 47 rfl rfl)) (fun _ w => w) rfl (tyX8_ok 4 (by decide)) rfl rfl (Nat.le_of_ble_eq_true rfl) dk8_17 (fun H locs hP hD hS => ?_)
  have hP : va_P D vwCl ((a, .inr (8, [.ref q8, .int 0, .int 0, .int 0, .ref (g 1 0), .int 0, .int 0, .long 0, .int 0, .int 0])) :: ([(q8, .inl (cy 3, 940, .inl fun _ => 0))])) H := hP
  have hD : va_D A ((a, .inr (8, [.ref q8, .int 0, .int 0, .int 0, .ref (g 1 0), .int 0, .int 0, .long 0, .int 0, .int 0])) :: ([(q8, .inl (cy 3, 940, .inl fun _ => 0))])) := hD
  have hP9 : va_P D vwCl (nw 2 (fun i => if i = 0 then a else if i = 1 then q8 else 0) (ce_Tape cy g (fun i => if i = 0 then a else if i = 1 then q8 else 0))) H := hP
  have hD9 : va_D A (nw 2 (fun i => if i = 0 then a else if i = 1 then q8 else 0) (ce_Tape cy g (fun i => if i = 0 then a else if i = 1 then q8 else 0))) := hD
  refine W.widen (k := 1) (n := 940) (Nat.le_of_ble_eq_true rfl) (Nat.le_of_ble_eq_true rfl) ?_
  exact W.vret hx hb hr (fun t ht hW => ⟨⟨(fun i => if i = 0 then a else if i = 1 then q8 else 0), rfl, rfl, by rw [ht]; exact hP9, hD9⟩, hS.F ht⟩) hS.2.2 dk8_20
theorem dk4_0 : decode cX4_init 0 = .ok (.aload_n 0, 1) := by decide +kernel
theorem dk4_1 : decode cX4_init 1 = .ok (.invokespecial 3, 3) := by decide +kernel
theorem dk4_4 : decode cX4_init 4 = .ok (.aload_n 0, 1) := by decide +kernel
theorem dk4_5 : decode cX4_init 5 = .ok (.bipush 8, 2) := by decide +kernel
theorem dk4_7 : decode cX4_init 7 = .ok (.putfield 11, 3) := by decide +kernel
theorem dk4_10 : decode cX4_init 10 = .ok (.aload_n 0, 1) := by decide +kernel
theorem dk4_11 : decode cX4_init 11 = .ok (.iconst 4, 1) := by decide +kernel
theorem dk4_12 : decode cX4_init 12 = .ok (.newarray .int, 2) := by decide +kernel
theorem dk4_14 : decode cX4_init 14 = .ok (.putfield 15, 3) := by decide +kernel
theorem dk4_17 : decode cX4_init 17 = .ok (.aload_n 0, 1) := by decide +kernel
theorem dk4_18 : decode cX4_init 18 = .ok (.bipush 28, 2) := by decide +kernel
theorem dk4_20 : decode cX4_init 20 = .ok (.newarray .long, 2) := by decide +kernel
theorem dk4_22 : decode cX4_init 22 = .ok (.putfield 19, 3) := by decide +kernel
theorem dk4_25 : decode cX4_init 25 = .ok (.aload_n 0, 1) := by decide +kernel
theorem dk4_26 : decode cX4_init 26 = .ok (.iconst 5, 1) := by decide +kernel
theorem dk4_27 : decode cX4_init 27 = .ok (.newarray .int, 2) := by decide +kernel
theorem dk4_29 : decode cX4_init 29 = .ok (.dup, 1) := by decide +kernel
theorem dk4_30 : decode cX4_init 30 = .ok (.iconst 0, 1) := by decide +kernel
theorem dk4_31 : decode cX4_init 31 = .ok (.iconst 4, 1) := by decide +kernel
theorem dk4_32 : decode cX4_init 32 = .ok (.iastore, 1) := by decide +kernel
theorem dk4_33 : decode cX4_init 33 = .ok (.dup, 1) := by decide +kernel
theorem dk4_34 : decode cX4_init 34 = .ok (.iconst 1, 1) := by decide +kernel
theorem dk4_35 : decode cX4_init 35 = .ok (.iconst 0, 1) := by decide +kernel
theorem dk4_36 : decode cX4_init 36 = .ok (.iastore, 1) := by decide +kernel
theorem dk4_37 : decode cX4_init 37 = .ok (.dup, 1) := by decide +kernel
theorem dk4_38 : decode cX4_init 38 = .ok (.iconst 2, 1) := by decide +kernel
theorem dk4_39 : decode cX4_init 39 = .ok (.iconst 0, 1) := by decide +kernel
theorem dk4_40 : decode cX4_init 40 = .ok (.iastore, 1) := by decide +kernel
theorem dk4_41 : decode cX4_init 41 = .ok (.dup, 1) := by decide +kernel
theorem dk4_42 : decode cX4_init 42 = .ok (.iconst 3, 1) := by decide +kernel
theorem dk4_43 : decode cX4_init 43 = .ok (.iconst 0, 1) := by decide +kernel
theorem dk4_44 : decode cX4_init 44 = .ok (.iastore, 1) := by decide +kernel
theorem dk4_45 : decode cX4_init 45 = .ok (.dup, 1) := by decide +kernel
theorem dk4_46 : decode cX4_init 46 = .ok (.iconst 4, 1) := by decide +kernel
theorem dk4_47 : decode cX4_init 47 = .ok (.iconst 0, 1) := by decide +kernel
theorem dk4_48 : decode cX4_init 48 = .ok (.iastore, 1) := by decide +kernel
theorem dk4_49 : decode cX4_init 49 = .ok (.putfield 23, 3) := by decide +kernel
theorem dk4_52 : decode cX4_init 52 = .ok (.aload_n 0, 1) := by decide +kernel
theorem dk4_53 : decode cX4_init 53 = .ok (.bipush 7, 2) := by decide +kernel
theorem dk4_55 : decode cX4_init 55 = .ok (.newarray .int, 2) := by decide +kernel
theorem dk4_57 : decode cX4_init 57 = .ok (.putfield 26, 3) := by decide +kernel
theorem dk4_60 : decode cX4_init 60 = .ok (.aload_n 0, 1) := by decide +kernel
theorem dk4_61 : decode cX4_init 61 = .ok (.bipush 7, 2) := by decide +kernel
theorem dk4_63 : decode cX4_init 63 = .ok (.newarray .int, 2) := by decide +kernel
theorem dk4_65 : decode cX4_init 65 = .ok (.putfield 29, 3) := by decide +kernel
theorem dk4_68 : decode cX4_init 68 = .ok (.aload_n 0, 1) := by decide +kernel
theorem dk4_69 : decode cX4_init 69 = .ok (.bipush 6, 2) := by decide +kernel
theorem dk4_71 : decode cX4_init 71 = .ok (.newarray .int, 2) := by decide +kernel
theorem dk4_73 : decode cX4_init 73 = .ok (.putfield 32, 3) := by decide +kernel
theorem dk4_76 : decode cX4_init 76 = .ok (.aload_n 0, 1) := by decide +kernel
theorem dk4_77 : decode cX4_init 77 = .ok (.bipush 6, 2) := by decide +kernel
theorem dk4_79 : decode cX4_init 79 = .ok (.newarray .int, 2) := by decide +kernel
theorem dk4_81 : decode cX4_init 81 = .ok (.putfield 35, 3) := by decide +kernel
theorem dk4_84 : decode cX4_init 84 = .ok (.aload_n 0, 1) := by decide +kernel
theorem dk4_85 : decode cX4_init 85 = .ok (.bipush 6, 2) := by decide +kernel
theorem dk4_87 : decode cX4_init 87 = .ok (.newarray .int, 2) := by decide +kernel
theorem dk4_89 : decode cX4_init 89 = .ok (.putfield 38, 3) := by decide +kernel
theorem dk4_92 : decode cX4_init 92 = .ok (.aload_n 0, 1) := by decide +kernel
theorem dk4_93 : decode cX4_init 93 = .ok (.iconst 5, 1) := by decide +kernel
theorem dk4_94 : decode cX4_init 94 = .ok (.newarray .int, 2) := by decide +kernel
theorem dk4_96 : decode cX4_init 96 = .ok (.putfield 41, 3) := by decide +kernel
theorem dk4_99 : decode cX4_init 99 = .ok (.return_, 1) := by decide +kernel
def ce_Plan (cy : Nat → ClassId) (g : Nat → Nat → Nat) (r : Nat → Nat) (o : Nat) : va_E := if o = 0 then .inr (4, [.int 8, .int 0, .ref (r 1), .ref (r 2), .ref (r 3), .ref (r 4), .ref (r 5), .ref (r 6), .ref (r 7), .ref (r 8), .ref (r 9)]) else if o = 1 then .inl (cy 0, 4, .inl fun _ => 0) else if o = 2 then .inl (cy 1, 28, .inr (.inl fun _ => 0)) else if o = 3 then .inl (cy 0, 5, .inl (upd (upd (upd (upd (upd (fun _ => 0) (0 : Int32).toNatClampNeg 4) (1 : Int32).toNatClampNeg 0) (2 : Int32).toNatClampNeg 0) (3 : Int32).toNatClampNeg 0) (4 : Int32).toNatClampNeg 0)) else if o = 4 then .inl (cy 0, 7, .inl fun _ => 0) else if o = 5 then .inl (cy 0, 7, .inl fun _ => 0) else if o = 6 then .inl (cy 0, 6, .inl fun _ => 0) else if o = 7 then .inl (cy 0, 6, .inl fun _ => 0) else if o = 8 then .inl (cy 0, 6, .inl fun _ => 0) else if o = 9 then .inl (cy 0, 5, .inl fun _ => 0) else .inr (0, [])
set_option maxHeartbeats 8000000 in
set_option maxRecDepth 100000 in
theorem mt_Plan (l : Launch) (D : va_G) (cy : Nat → ClassId) (g : Nat → Nat → Nat) (z0 a sz : Nat) : Met l yX4_init (mk_w yX4_init cX4_init 1) (mk_rm 1 9 74) (va_Pc [.ref a] (mk_U D cy g z0 a sz (.inr (4, [.int 0, .int 0, .null, .null, .null, .null, .null, .null, .null, .null, .null])))) (mk_Q D 10 (ce_Plan cy g) a (va_A [(a, .inr (4, [.int 0, .int 0, .null, .null, .null, .null, .null, .null, .null, .null, .null]))] sz)) 9 74 (va_A [(a, .inr (4, [.int 0, .int 0, .null, .null, .null, .null, .null, .null, .null, .null, .null]))] sz) := by
  refine Met.ofW (cc := cX4_init) (maxL := 1) (ret := none) (by decide +kernel) rfl ?_
  intro p e s m args below meth c s₁ B hml hv
  obtain ⟨rfl, hsz, hP, hK, hZ, hN, hO, hza, hzs⟩ := hv
  have hx := B.exec
  have hb := B.bytes
  have hr := B.returns
  have hts := fun w hw => atoms_spec (ws := mk_w yX4_init cX4_init 1) B.pre w (List.mem_cons_of_mem _ hw)
  have hown : s.vm.findClass RX4 = some m.cls := findClass_of_methodNamed B.named
  have hlocks := B.notSynchronized
  have hin : meth.name = "<init>" := (name_of_methodNamed B.named B.method).1
  subst hsz
  have hD := mk_D1 (a := a) (sz := s.heap.size) (b := .inr (4, [.int 0, .int 0, .null, .null, .null, .null, .null, .null, .null, .null, .null]))
  have hAz : ∀ q, va_A [(a, .inr (4, [.int 0, .int 0, .null, .null, .null, .null, .null, .null, .null, .null, .null]))] s.heap.size q → z0 ≤ q := fun q h => by
    rcases mk_A1.mp h with h | h <;> omega
  generalize hAe : va_A [(a, .inr (4, [.int 0, .int 0, .null, .null, .null, .null, .null, .null, .null, .null, .null]))] s.heap.size = A at hD hAz ⊢
  have hA : ∀ q : Nat, s.heap.size ≤ q → A q := fun q h => by rw [← hAe]; exact Or.inr h
  have hS : va_S A s.heap s.heap [] := va_S.rf
  have hl := lv_entry ([.ref a]) (n := 1) (Nat.le_of_ble_eq_true rfl)
  rw [lg_entry_eq]
  generalize (lg_sl ([.ref a]) ++ List.replicate (1 - (lg_sl ([.ref a])).length) Slot.unset).toArray = ls at hl ⊢
  have hl : lv_has ls 1 [(0, .ref a)] := hl
  have hP : va_P D vwCl ((a, .inr (4, [.int 0, .int 0, .null, .null, .null, .null, .null, .null, .null, .null, .null])) :: ([])) s.heap := hP
  refine lv_aload_n hx hb dk4_0 rfl (lv_at hl 0 rfl) ?_
  refine W.objInit hx hb hown (hts _ (mm_tw1 94 rfl rfl)) (hts _ (mm_tw1 31 rfl rfl)) (hts _ (mm_tw1 32 rfl rfl)) rfl (by rw [hml]; exact hl.1) rfl dk4_1 (Nat.le_of_ble_eq_true rfl) (Nat.le_of_ble_eq_true rfl) ?_
  refine W.eq (g2 := F0 m 4 ls []) rfl ?_
  refine lv_aload_n hx hb dk4_4 rfl (lv_at hl 0 rfl) ?_
  refine lv_bipush (v := 8) hx hb dk4_5 (by decide) ?_
  refine va_put (D := D) (ci := 4) (v := .int 8) (C := RX4) (T := TX4) (N := 11) hx hb hts mm_cw14 tyX4 tyX4_ok nmX4 hown hK hP hD hS 0 rfl rfl 0 (by decide) (hts _ (mm_tw1 95 rfl rfl)) (fun _ w => w) rfl (tyX4_ok 0 (by decide)) rfl rfl (Nat.le_of_ble_eq_true rfl) dk4_7 (fun H locs hP hD hS => ?_)
  have hP : va_P D vwCl ((a, .inr (4, [.int 8, .int 0, .null, .null, .null, .null, .null, .null, .null, .null, .null])) :: ([])) H := hP
  have hD : va_D A ((a, .inr (4, [.int 8, .int 0, .null, .null, .null, .null, .null, .null, .null, .null, .null])) :: ([])) := hD
  refine lv_aload_n hx hb dk4_10 rfl (lv_at hl 0 rfl) ?_
  refine lv_iconst (v := 4) hx hb dk4_11 (by decide) ?_
  refine mk_ai hx hb hts hK hP hD hS hA 4 (by decide) (by decide) (by decide) (Nat.le_of_ble_eq_true rfl) (Nat.le_of_ble_eq_true rfl) dk4_12 (fun q12 H hP hD hS => ?_)
  have hP : va_P D vwCl ((a, .inr (4, [.int 8, .int 0, .null, .null, .null, .null, .null, .null, .null, .null, .null])) :: ([(q12, .inl (cy 0, 4, .inl fun _ => 0))])) H := hP
  have hD : va_D A ((a, .inr (4, [.int 8, .int 0, .null, .null, .null, .null, .null, .null, .null, .null, .null])) :: ([(q12, .inl (cy 0, 4, .inl fun _ => 0))])) := hD
  refine va_putF (D := D) (ci := 4) (v := .ref q12) (C := RX4) (T := TX4) (N := 11) hx hb hts mm_cw14 tyX4 tyX4_ok nmX4 hown hK hP hD hS 0 rfl rfl 2 (by decide) (hts _ (mm_tw1 102 rfl rfl)) (fun _ w => w) rfl hin rfl (tyX4_ok 2 (by decide)) rfl rfl (Nat.le_of_ble_eq_true rfl) dk4_14 (fun H locs hP hD hS => ?_)
  have hP : va_P D vwCl ((a, .inr (4, [.int 8, .int 0, .ref q12, .null, .null, .null, .null, .null, .null, .null, .null])) :: ([(q12, .inl (cy 0, 4, .inl fun _ => 0))])) H := hP
  have hD : va_D A ((a, .inr (4, [.int 8, .int 0, .ref q12, .null, .null, .null, .null, .null, .null, .null, .null])) :: ([(q12, .inl (cy 0, 4, .inl fun _ => 0))])) := hD
  refine lv_aload_n hx hb dk4_17 rfl (lv_at hl 0 rfl) ?_
  refine lv_bipush (v := 28) hx hb dk4_18 (by decide) ?_
  refine mk_al hx hb hts hK hP hD hS hA 28 (by decide) (by decide) (by decide) (Nat.le_of_ble_eq_true rfl) (Nat.le_of_ble_eq_true rfl) dk4_20 (fun q20 H hP hD hS => ?_)
  have hP : va_P D vwCl ((a, .inr (4, [.int 8, .int 0, .ref q12, .null, .null, .null, .null, .null, .null, .null, .null])) :: ([(q12, .inl (cy 0, 4, .inl fun _ => 0))] ++ [(q20, .inl (cy 1, 28, .inr (.inl fun _ => 0)))])) H := hP
  have hD : va_D A ((a, .inr (4, [.int 8, .int 0, .ref q12, .null, .null, .null, .null, .null, .null, .null, .null])) :: ([(q12, .inl (cy 0, 4, .inl fun _ => 0))] ++ [(q20, .inl (cy 1, 28, .inr (.inl fun _ => 0)))])) := hD
  refine va_putF (D := D) (ci := 4) (v := .ref q20) (C := RX4) (T := TX4) (N := 11) hx hb hts mm_cw14 tyX4 tyX4_ok nmX4 hown hK hP hD hS 0 rfl rfl 3 (by decide) (hts _ (mm_tw1 107 rfl rfl)) (fun _ w => w) rfl hin rfl (tyX4_ok 3 (by decide)) rfl rfl (Nat.le_of_ble_eq_true rfl) dk4_22 (fun H locs hP hD hS => ?_)
  have hP : va_P D vwCl ((a, .inr (4, [.int 8, .int 0, .ref q12, .ref q20, .null, .null, .null, .null, .null, .null, .null])) :: ([(q12, .inl (cy 0, 4, .inl fun _ => 0))] ++ [(q20, .inl (cy 1, 28, .inr (.inl fun _ => 0)))])) H := hP
  have hD : va_D A ((a, .inr (4, [.int 8, .int 0, .ref q12, .ref q20, .null, .null, .null, .null, .null, .null, .null])) :: ([(q12, .inl (cy 0, 4, .inl fun _ => 0))] ++ [(q20, .inl (cy 1, 28, .inr (.inl fun _ => 0)))])) := hD
  refine lv_aload_n hx hb dk4_25 rfl (lv_at hl 0 rfl) ?_
  refine lv_iconst (v := 5) hx hb dk4_26 (by decide) ?_
  refine mk_ai hx hb hts hK hP hD hS hA 5 (by decide) (by decide) (by decide) (Nat.le_of_ble_eq_true rfl) (Nat.le_of_ble_eq_true rfl) dk4_27 (fun q27 H hP hD hS => ?_)
  have hP : va_P D vwCl ((a, .inr (4, [.int 8, .int 0, .ref q12, .ref q20, .null, .null, .null, .null, .null, .null, .null])) :: ([(q12, .inl (cy 0, 4, .inl fun _ => 0))] ++ [(q20, .inl (cy 1, 28, .inr (.inl fun _ => 0)))] ++ [(q27, .inl (cy 0, 5, .inl fun _ => 0))])) H := hP
  have hD : va_D A ((a, .inr (4, [.int 8, .int 0, .ref q12, .ref q20, .null, .null, .null, .null, .null, .null, .null])) :: ([(q12, .inl (cy 0, 4, .inl fun _ => 0))] ++ [(q20, .inl (cy 1, 28, .inr (.inl fun _ => 0)))] ++ [(q27, .inl (cy 0, 5, .inl fun _ => 0))])) := hD
  refine lv_dup hx hb dk4_29 rfl ?_
  refine lv_iconst (v := 0) hx hb dk4_30 (by decide) ?_
  refine lv_iconst (v := 4) hx hb dk4_31 (by decide) ?_
  refine va_iast hx hb hK hP hD hS 3 0 rfl (mm_tys_get (by decide)) (by unfold vp_in; decide) dk4_32 (fun H locs hP hD hS => ?_)
  have hP : va_P D vwCl ((a, .inr (4, [.int 8, .int 0, .ref q12, .ref q20, .null, .null, .null, .null, .null, .null, .null])) :: ([(q12, .inl (cy 0, 4, .inl fun _ => 0))] ++ [(q20, .inl (cy 1, 28, .inr (.inl fun _ => 0)))] ++ [(q27, .inl (cy 0, 5, .inl (upd (fun _ => 0) (0 : Int32).toNatClampNeg 4)))])) H := hP
  have hD : va_D A ((a, .inr (4, [.int 8, .int 0, .ref q12, .ref q20, .null, .null, .null, .null, .null, .null, .null])) :: ([(q12, .inl (cy 0, 4, .inl fun _ => 0))] ++ [(q20, .inl (cy 1, 28, .inr (.inl fun _ => 0)))] ++ [(q27, .inl (cy 0, 5, .inl (upd (fun _ => 0) (0 : Int32).toNatClampNeg 4)))])) := hD
  refine lv_dup hx hb dk4_33 rfl ?_
  refine lv_iconst (v := 1) hx hb dk4_34 (by decide) ?_
  refine lv_iconst (v := 0) hx hb dk4_35 (by decide) ?_
  refine va_iast hx hb hK hP hD hS 3 0 rfl (mm_tys_get (by decide)) (by unfold vp_in; decide) dk4_36 (fun H locs hP hD hS => ?_)
  have hP : va_P D vwCl ((a, .inr (4, [.int 8, .int 0, .ref q12, .ref q20, .null, .null, .null, .null, .null, .null, .null])) :: ([(q12, .inl (cy 0, 4, .inl fun _ => 0))] ++ [(q20, .inl (cy 1, 28, .inr (.inl fun _ => 0)))] ++ [(q27, .inl (cy 0, 5, .inl (upd (upd (fun _ => 0) (0 : Int32).toNatClampNeg 4) (1 : Int32).toNatClampNeg 0)))])) H := hP
  have hD : va_D A ((a, .inr (4, [.int 8, .int 0, .ref q12, .ref q20, .null, .null, .null, .null, .null, .null, .null])) :: ([(q12, .inl (cy 0, 4, .inl fun _ => 0))] ++ [(q20, .inl (cy 1, 28, .inr (.inl fun _ => 0)))] ++ [(q27, .inl (cy 0, 5, .inl (upd (upd (fun _ => 0) (0 : Int32).toNatClampNeg 4) (1 : Int32).toNatClampNeg 0)))])) := hD
  refine lv_dup hx hb dk4_37 rfl ?_
  refine lv_iconst (v := 2) hx hb dk4_38 (by decide) ?_
  refine lv_iconst (v := 0) hx hb dk4_39 (by decide) ?_
  refine va_iast hx hb hK hP hD hS 3 0 rfl (mm_tys_get (by decide)) (by unfold vp_in; decide) dk4_40 (fun H locs hP hD hS => ?_)
  have hP : va_P D vwCl ((a, .inr (4, [.int 8, .int 0, .ref q12, .ref q20, .null, .null, .null, .null, .null, .null, .null])) :: ([(q12, .inl (cy 0, 4, .inl fun _ => 0))] ++ [(q20, .inl (cy 1, 28, .inr (.inl fun _ => 0)))] ++ [(q27, .inl (cy 0, 5, .inl (upd (upd (upd (fun _ => 0) (0 : Int32).toNatClampNeg 4) (1 : Int32).toNatClampNeg 0) (2 : Int32).toNatClampNeg 0)))])) H := hP
  have hD : va_D A ((a, .inr (4, [.int 8, .int 0, .ref q12, .ref q20, .null, .null, .null, .null, .null, .null, .null])) :: ([(q12, .inl (cy 0, 4, .inl fun _ => 0))] ++ [(q20, .inl (cy 1, 28, .inr (.inl fun _ => 0)))] ++ [(q27, .inl (cy 0, 5, .inl (upd (upd (upd (fun _ => 0) (0 : Int32).toNatClampNeg 4) (1 : Int32).toNatClampNeg 0) (2 : Int32).toNatClampNeg 0)))])) := hD
  refine lv_dup hx hb dk4_41 rfl ?_
  refine lv_iconst (v := 3) hx hb dk4_42 (by decide) ?_
  refine lv_iconst (v := 0) hx hb dk4_43 (by decide) ?_
  refine va_iast hx hb hK hP hD hS 3 0 rfl (mm_tys_get (by decide)) (by unfold vp_in; decide) dk4_44 (fun H locs hP hD hS => ?_)
  have hP : va_P D vwCl ((a, .inr (4, [.int 8, .int 0, .ref q12, .ref q20, .null, .null, .null, .null, .null, .null, .null])) :: ([(q12, .inl (cy 0, 4, .inl fun _ => 0))] ++ [(q20, .inl (cy 1, 28, .inr (.inl fun _ => 0)))] ++ [(q27, .inl (cy 0, 5, .inl (upd (upd (upd (upd (fun _ => 0) (0 : Int32).toNatClampNeg 4) (1 : Int32).toNatClampNeg 0) (2 : Int32).toNatClampNeg 0) (3 : Int32).toNatClampNeg 0)))])) H := hP
  have hD : va_D A ((a, .inr (4, [.int 8, .int 0, .ref q12, .ref q20, .null, .null, .null, .null, .null, .null, .null])) :: ([(q12, .inl (cy 0, 4, .inl fun _ => 0))] ++ [(q20, .inl (cy 1, 28, .inr (.inl fun _ => 0)))] ++ [(q27, .inl (cy 0, 5, .inl (upd (upd (upd (upd (fun _ => 0) (0 : Int32).toNatClampNeg 4) (1 : Int32).toNatClampNeg 0) (2 : Int32).toNatClampNeg 0) (3 : Int32).toNatClampNeg 0)))])) := hD
  refine lv_dup hx hb dk4_45 rfl ?_
  refine lv_iconst (v := 4) hx hb dk4_46 (by decide) ?_
  refine lv_iconst (v := 0) hx hb dk4_47 (by decide) ?_
  refine va_iast hx hb hK hP hD hS 3 0 rfl (mm_tys_get (by decide)) (by unfold vp_in; decide) dk4_48 (fun H locs hP hD hS => ?_)
  have hP : va_P D vwCl ((a, .inr (4, [.int 8, .int 0, .ref q12, .ref q20, .null, .null, .null, .null, .null, .null, .null])) :: ([(q12, .inl (cy 0, 4, .inl fun _ => 0))] ++ [(q20, .inl (cy 1, 28, .inr (.inl fun _ => 0)))] ++ [(q27, .inl (cy 0, 5, .inl (upd (upd (upd (upd (upd (fun _ => 0) (0 : Int32).toNatClampNeg 4) (1 : Int32).toNatClampNeg 0) (2 : Int32).toNatClampNeg 0) (3 : Int32).toNatClampNeg 0) (4 : Int32).toNatClampNeg 0)))])) H := hP
  have hD : va_D A ((a, .inr (4, [.int 8, .int 0, .ref q12, .ref q20, .null, .null, .null, .null, .null, .null, .null])) :: ([(q12, .inl (cy 0, 4, .inl fun _ => 0))] ++ [(q20, .inl (cy 1, 28, .inr (.inl fun _ => 0)))] ++ [(q27, .inl (cy 0, 5, .inl (upd (upd (upd (upd (upd (fun _ => 0) (0 : Int32).toNatClampNeg 4) (1 : Int32).toNatClampNeg 0) (2 : Int32).toNatClampNeg 0) (3 : Int32).toNatClampNeg 0) (4 : Int32).toNatClampNeg 0)))])) := hD
  refine va_putF (D := D) (ci := 4) (v := .ref q27) (C := RX4) (T := TX4) (N := 11) hx hb hts mm_cw14 tyX4 tyX4_ok nmX4 hown hK hP hD hS 0 rfl rfl 4 (by decide) (hts _ (mm_tw1 108 rfl rfl)) (fun _ w => w) rfl hin rfl (tyX4_ok 4 (by decide)) rfl rfl (Nat.le_of_ble_eq_true rfl) dk4_49 (fun H locs hP hD hS => ?_)
  have hP : va_P D vwCl ((a, .inr (4, [.int 8, .int 0, .ref q12, .ref q20, .ref q27, .null, .null, .null, .null, .null, .null])) :: ([(q12, .inl (cy 0, 4, .inl fun _ => 0))] ++ [(q20, .inl (cy 1, 28, .inr (.inl fun _ => 0)))] ++ [(q27, .inl (cy 0, 5, .inl (upd (upd (upd (upd (upd (fun _ => 0) (0 : Int32).toNatClampNeg 4) (1 : Int32).toNatClampNeg 0) (2 : Int32).toNatClampNeg 0) (3 : Int32).toNatClampNeg 0) (4 : Int32).toNatClampNeg 0)))])) H := hP
  have hD : va_D A ((a, .inr (4, [.int 8, .int 0, .ref q12, .ref q20, .ref q27, .null, .null, .null, .null, .null, .null])) :: ([(q12, .inl (cy 0, 4, .inl fun _ => 0))] ++ [(q20, .inl (cy 1, 28, .inr (.inl fun _ => 0)))] ++ [(q27, .inl (cy 0, 5, .inl (upd (upd (upd (upd (upd (fun _ => 0) (0 : Int32).toNatClampNeg 4) (1 : Int32).toNatClampNeg 0) (2 : Int32).toNatClampNeg 0) (3 : Int32).toNatClampNeg 0) (4 : Int32).toNatClampNeg 0)))])) := hD
  refine lv_aload_n hx hb dk4_52 rfl (lv_at hl 0 rfl) ?_
  refine lv_bipush (v := 7) hx hb dk4_53 (by decide) ?_
  refine mk_ai hx hb hts hK hP hD hS hA 7 (by decide) (by decide) (by decide) (Nat.le_of_ble_eq_true rfl) (Nat.le_of_ble_eq_true rfl) dk4_55 (fun q55 H hP hD hS => ?_)
  have hP : va_P D vwCl ((a, .inr (4, [.int 8, .int 0, .ref q12, .ref q20, .ref q27, .null, .null, .null, .null, .null, .null])) :: ([(q12, .inl (cy 0, 4, .inl fun _ => 0))] ++ [(q20, .inl (cy 1, 28, .inr (.inl fun _ => 0)))] ++ [(q27, .inl (cy 0, 5, .inl (upd (upd (upd (upd (upd (fun _ => 0) (0 : Int32).toNatClampNeg 4) (1 : Int32).toNatClampNeg 0) (2 : Int32).toNatClampNeg 0) (3 : Int32).toNatClampNeg 0) (4 : Int32).toNatClampNeg 0)))] ++ [(q55, .inl (cy 0, 7, .inl fun _ => 0))])) H := hP
  have hD : va_D A ((a, .inr (4, [.int 8, .int 0, .ref q12, .ref q20, .ref q27, .null, .null, .null, .null, .null, .null])) :: ([(q12, .inl (cy 0, 4, .inl fun _ => 0))] ++ [(q20, .inl (cy 1, 28, .inr (.inl fun _ => 0)))] ++ [(q27, .inl (cy 0, 5, .inl (upd (upd (upd (upd (upd (fun _ => 0) (0 : Int32).toNatClampNeg 4) (1 : Int32).toNatClampNeg 0) (2 : Int32).toNatClampNeg 0) (3 : Int32).toNatClampNeg 0) (4 : Int32).toNatClampNeg 0)))] ++ [(q55, .inl (cy 0, 7, .inl fun _ => 0))])) := hD
  refine va_putF (D := D) (ci := 4) (v := .ref q55) (C := RX4) (T := TX4) (N := 11) hx hb hts mm_cw14 tyX4 tyX4_ok nmX4 hown hK hP hD hS 0 rfl rfl 5 (by decide) (hts _ (mm_tw1 111 rfl rfl)) (fun _ w => w) rfl hin rfl (tyX4_ok 5 (by decide)) rfl rfl (Nat.le_of_ble_eq_true rfl) dk4_57 (fun H locs hP hD hS => ?_)
  have hP : va_P D vwCl ((a, .inr (4, [.int 8, .int 0, .ref q12, .ref q20, .ref q27, .ref q55, .null, .null, .null, .null, .null])) :: ([(q12, .inl (cy 0, 4, .inl fun _ => 0))] ++ [(q20, .inl (cy 1, 28, .inr (.inl fun _ => 0)))] ++ [(q27, .inl (cy 0, 5, .inl (upd (upd (upd (upd (upd (fun _ => 0) (0 : Int32).toNatClampNeg 4) (1 : Int32).toNatClampNeg 0) (2 : Int32).toNatClampNeg 0) (3 : Int32).toNatClampNeg 0) (4 : Int32).toNatClampNeg 0)))] ++ [(q55, .inl (cy 0, 7, .inl fun _ => 0))])) H := hP
  have hD : va_D A ((a, .inr (4, [.int 8, .int 0, .ref q12, .ref q20, .ref q27, .ref q55, .null, .null, .null, .null, .null])) :: ([(q12, .inl (cy 0, 4, .inl fun _ => 0))] ++ [(q20, .inl (cy 1, 28, .inr (.inl fun _ => 0)))] ++ [(q27, .inl (cy 0, 5, .inl (upd (upd (upd (upd (upd (fun _ => 0) (0 : Int32).toNatClampNeg 4) (1 : Int32).toNatClampNeg 0) (2 : Int32).toNatClampNeg 0) (3 : Int32).toNatClampNeg 0) (4 : Int32).toNatClampNeg 0)))] ++ [(q55, .inl (cy 0, 7, .inl fun _ => 0))])) := hD
  refine lv_aload_n hx hb dk4_60 rfl (lv_at hl 0 rfl) ?_
  refine lv_bipush (v := 7) hx hb dk4_61 (by decide) ?_
  refine mk_ai hx hb hts hK hP hD hS hA 7 (by decide) (by decide) (by decide) (Nat.le_of_ble_eq_true rfl) (Nat.le_of_ble_eq_true rfl) dk4_63 (fun q63 H hP hD hS => ?_)
  have hP : va_P D vwCl ((a, .inr (4, [.int 8, .int 0, .ref q12, .ref q20, .ref q27, .ref q55, .null, .null, .null, .null, .null])) :: ([(q12, .inl (cy 0, 4, .inl fun _ => 0))] ++ [(q20, .inl (cy 1, 28, .inr (.inl fun _ => 0)))] ++ [(q27, .inl (cy 0, 5, .inl (upd (upd (upd (upd (upd (fun _ => 0) (0 : Int32).toNatClampNeg 4) (1 : Int32).toNatClampNeg 0) (2 : Int32).toNatClampNeg 0) (3 : Int32).toNatClampNeg 0) (4 : Int32).toNatClampNeg 0)))] ++ [(q55, .inl (cy 0, 7, .inl fun _ => 0))] ++ [(q63, .inl (cy 0, 7, .inl fun _ => 0))])) H := hP
  have hD : va_D A ((a, .inr (4, [.int 8, .int 0, .ref q12, .ref q20, .ref q27, .ref q55, .null, .null, .null, .null, .null])) :: ([(q12, .inl (cy 0, 4, .inl fun _ => 0))] ++ [(q20, .inl (cy 1, 28, .inr (.inl fun _ => 0)))] ++ [(q27, .inl (cy 0, 5, .inl (upd (upd (upd (upd (upd (fun _ => 0) (0 : Int32).toNatClampNeg 4) (1 : Int32).toNatClampNeg 0) (2 : Int32).toNatClampNeg 0) (3 : Int32).toNatClampNeg 0) (4 : Int32).toNatClampNeg 0)))] ++ [(q55, .inl (cy 0, 7, .inl fun _ => 0))] ++ [(q63, .inl (cy 0, 7, .inl fun _ => 0))])) := hD
  refine va_putF (D := D) (ci := 4) (v := .ref q63) (C := RX4) (T := TX4) (N := 11) hx hb hts mm_cw14 tyX4 tyX4_ok nmX4 hown hK hP hD hS 0 rfl rfl 6 (by decide) (hts _ (mm_tw1 114 rfl rfl)) (fun _ w => w) rfl hin rfl (tyX4_ok 6 (by decide)) rfl rfl (Nat.le_of_ble_eq_true rfl) dk4_65 (fun H locs hP hD hS => ?_)
  have hP : va_P D vwCl ((a, .inr (4, [.int 8, .int 0, .ref q12, .ref q20, .ref q27, .ref q55, .ref q63, .null, .null, .null, .null])) :: ([(q12, .inl (cy 0, 4, .inl fun _ => 0))] ++ [(q20, .inl (cy 1, 28, .inr (.inl fun _ => 0)))] ++ [(q27, .inl (cy 0, 5, .inl (upd (upd (upd (upd (upd (fun _ => 0) (0 : Int32).toNatClampNeg 4) (1 : Int32).toNatClampNeg 0) (2 : Int32).toNatClampNeg 0) (3 : Int32).toNatClampNeg 0) (4 : Int32).toNatClampNeg 0)))] ++ [(q55, .inl (cy 0, 7, .inl fun _ => 0))] ++ [(q63, .inl (cy 0, 7, .inl fun _ => 0))])) H := hP
  have hD : va_D A ((a, .inr (4, [.int 8, .int 0, .ref q12, .ref q20, .ref q27, .ref q55, .ref q63, .null, .null, .null, .null])) :: ([(q12, .inl (cy 0, 4, .inl fun _ => 0))] ++ [(q20, .inl (cy 1, 28, .inr (.inl fun _ => 0)))] ++ [(q27, .inl (cy 0, 5, .inl (upd (upd (upd (upd (upd (fun _ => 0) (0 : Int32).toNatClampNeg 4) (1 : Int32).toNatClampNeg 0) (2 : Int32).toNatClampNeg 0) (3 : Int32).toNatClampNeg 0) (4 : Int32).toNatClampNeg 0)))] ++ [(q55, .inl (cy 0, 7, .inl fun _ => 0))] ++ [(q63, .inl (cy 0, 7, .inl fun _ => 0))])) := hD
  refine lv_aload_n hx hb dk4_68 rfl (lv_at hl 0 rfl) ?_
  refine lv_bipush (v := 6) hx hb dk4_69 (by decide) ?_
  refine mk_ai hx hb hts hK hP hD hS hA 6 (by decide) (by decide) (by decide) (Nat.le_of_ble_eq_true rfl) (Nat.le_of_ble_eq_true rfl) dk4_71 (fun q71 H hP hD hS => ?_)
  have hP : va_P D vwCl ((a, .inr (4, [.int 8, .int 0, .ref q12, .ref q20, .ref q27, .ref q55, .ref q63, .null, .null, .null, .null])) :: ([(q12, .inl (cy 0, 4, .inl fun _ => 0))] ++ [(q20, .inl (cy 1, 28, .inr (.inl fun _ => 0)))] ++ [(q27, .inl (cy 0, 5, .inl (upd (upd (upd (upd (upd (fun _ => 0) (0 : Int32).toNatClampNeg 4) (1 : Int32).toNatClampNeg 0) (2 : Int32).toNatClampNeg 0) (3 : Int32).toNatClampNeg 0) (4 : Int32).toNatClampNeg 0)))] ++ [(q55, .inl (cy 0, 7, .inl fun _ => 0))] ++ [(q63, .inl (cy 0, 7, .inl fun _ => 0))] ++ [(q71, .inl (cy 0, 6, .inl fun _ => 0))])) H := hP
  have hD : va_D A ((a, .inr (4, [.int 8, .int 0, .ref q12, .ref q20, .ref q27, .ref q55, .ref q63, .null, .null, .null, .null])) :: ([(q12, .inl (cy 0, 4, .inl fun _ => 0))] ++ [(q20, .inl (cy 1, 28, .inr (.inl fun _ => 0)))] ++ [(q27, .inl (cy 0, 5, .inl (upd (upd (upd (upd (upd (fun _ => 0) (0 : Int32).toNatClampNeg 4) (1 : Int32).toNatClampNeg 0) (2 : Int32).toNatClampNeg 0) (3 : Int32).toNatClampNeg 0) (4 : Int32).toNatClampNeg 0)))] ++ [(q55, .inl (cy 0, 7, .inl fun _ => 0))] ++ [(q63, .inl (cy 0, 7, .inl fun _ => 0))] ++ [(q71, .inl (cy 0, 6, .inl fun _ => 0))])) := hD
  refine va_putF (D := D) (ci := 4) (v := .ref q71) (C := RX4) (T := TX4) (N := 11) hx hb hts mm_cw14 tyX4 tyX4_ok nmX4 hown hK hP hD hS 0 rfl rfl 7 (by decide) (hts _ (mm_tw1 119 rfl rfl)) (fun _ w => w) rfl hin rfl (tyX4_ok 7 (by decide)) rfl rfl (Nat.le_of_ble_eq_true rfl) dk4_73 (fun H locs hP hD hS => ?_)
  have hP : va_P D vwCl ((a, .inr (4, [.int 8, .int 0, .ref q12, .ref q20, .ref q27, .ref q55, .ref q63, .ref q71, .null, .null, .null])) :: ([(q12, .inl (cy 0, 4, .inl fun _ => 0))] ++ [(q20, .inl (cy 1, 28, .inr (.inl fun _ => 0)))] ++ [(q27, .inl (cy 0, 5, .inl (upd (upd (upd (upd (upd (fun _ => 0) (0 : Int32).toNatClampNeg 4) (1 : Int32).toNatClampNeg 0) (2 : Int32).toNatClampNeg 0) (3 : Int32).toNatClampNeg 0) (4 : Int32).toNatClampNeg 0)))] ++ [(q55, .inl (cy 0, 7, .inl fun _ => 0))] ++ [(q63, .inl (cy 0, 7, .inl fun _ => 0))] ++ [(q71, .inl (cy 0, 6, .inl fun _ => 0))])) H := hP
  have hD : va_D A ((a, .inr (4, [.int 8, .int 0, .ref q12, .ref q20, .ref q27, .ref q55, .ref q63, .ref q71, .null, .null, .null])) :: ([(q12, .inl (cy 0, 4, .inl fun _ => 0))] ++ [(q20, .inl (cy 1, 28, .inr (.inl fun _ => 0)))] ++ [(q27, .inl (cy 0, 5, .inl (upd (upd (upd (upd (upd (fun _ => 0) (0 : Int32).toNatClampNeg 4) (1 : Int32).toNatClampNeg 0) (2 : Int32).toNatClampNeg 0) (3 : Int32).toNatClampNeg 0) (4 : Int32).toNatClampNeg 0)))] ++ [(q55, .inl (cy 0, 7, .inl fun _ => 0))] ++ [(q63, .inl (cy 0, 7, .inl fun _ => 0))] ++ [(q71, .inl (cy 0, 6, .inl fun _ => 0))])) := hD
  refine lv_aload_n hx hb dk4_76 rfl (lv_at hl 0 rfl) ?_
  refine lv_bipush (v := 6) hx hb dk4_77 (by decide) ?_
  refine mk_ai hx hb hts hK hP hD hS hA 6 (by decide) (by decide) (by decide) (Nat.le_of_ble_eq_true rfl) (Nat.le_of_ble_eq_true rfl) dk4_79 (fun q79 H hP hD hS => ?_)
  have hP : va_P D vwCl ((a, .inr (4, [.int 8, .int 0, .ref q12, .ref q20, .ref q27, .ref q55, .ref q63, .ref q71, .null, .null, .null])) :: ([(q12, .inl (cy 0, 4, .inl fun _ => 0))] ++ [(q20, .inl (cy 1, 28, .inr (.inl fun _ => 0)))] ++ [(q27, .inl (cy 0, 5, .inl (upd (upd (upd (upd (upd (fun _ => 0) (0 : Int32).toNatClampNeg 4) (1 : Int32).toNatClampNeg 0) (2 : Int32).toNatClampNeg 0) (3 : Int32).toNatClampNeg 0) (4 : Int32).toNatClampNeg 0)))] ++ [(q55, .inl (cy 0, 7, .inl fun _ => 0))] ++ [(q63, .inl (cy 0, 7, .inl fun _ => 0))] ++ [(q71, .inl (cy 0, 6, .inl fun _ => 0))] ++ [(q79, .inl (cy 0, 6, .inl fun _ => 0))])) H := hP
  have hD : va_D A ((a, .inr (4, [.int 8, .int 0, .ref q12, .ref q20, .ref q27, .ref q55, .ref q63, .ref q71, .null, .null, .null])) :: ([(q12, .inl (cy 0, 4, .inl fun _ => 0))] ++ [(q20, .inl (cy 1, 28, .inr (.inl fun _ => 0)))] ++ [(q27, .inl (cy 0, 5, .inl (upd (upd (upd (upd (upd (fun _ => 0) (0 : Int32).toNatClampNeg 4) (1 : Int32).toNatClampNeg 0) (2 : Int32).toNatClampNeg 0) (3 : Int32).toNatClampNeg 0) (4 : Int32).toNatClampNeg 0)))] ++ [(q55, .inl (cy 0, 7, .inl fun _ => 0))] ++ [(q63, .inl (cy 0, 7, .inl fun _ => 0))] ++ [(q71, .inl (cy 0, 6, .inl fun _ => 0))] ++ [(q79, .inl (cy 0, 6, .inl fun _ => 0))])) := hD
  refine va_putF (D := D) (ci := 4) (v := .ref q79) (C := RX4) (T := TX4) (N := 11) hx hb hts mm_cw14 tyX4 tyX4_ok nmX4 hown hK hP hD hS 0 rfl rfl 8 (by decide) (hts _ (mm_tw1 124 rfl rfl)) (fun _ w => w) rfl hin rfl (tyX4_ok 8 (by decide)) rfl rfl (Nat.le_of_ble_eq_true rfl) dk4_81 (fun H locs hP hD hS => ?_)
  have hP : va_P D vwCl ((a, .inr (4, [.int 8, .int 0, .ref q12, .ref q20, .ref q27, .ref q55, .ref q63, .ref q71, .ref q79, .null, .null])) :: ([(q12, .inl (cy 0, 4, .inl fun _ => 0))] ++ [(q20, .inl (cy 1, 28, .inr (.inl fun _ => 0)))] ++ [(q27, .inl (cy 0, 5, .inl (upd (upd (upd (upd (upd (fun _ => 0) (0 : Int32).toNatClampNeg 4) (1 : Int32).toNatClampNeg 0) (2 : Int32).toNatClampNeg 0) (3 : Int32).toNatClampNeg 0) (4 : Int32).toNatClampNeg 0)))] ++ [(q55, .inl (cy 0, 7, .inl fun _ => 0))] ++ [(q63, .inl (cy 0, 7, .inl fun _ => 0))] ++ [(q71, .inl (cy 0, 6, .inl fun _ => 0))] ++ [(q79, .inl (cy 0, 6, .inl fun _ => 0))])) H := hP
  have hD : va_D A ((a, .inr (4, [.int 8, .int 0, .ref q12, .ref q20, .ref q27, .ref q55, .ref q63, .ref q71, .ref q79, .null, .null])) :: ([(q12, .inl (cy 0, 4, .inl fun _ => 0))] ++ [(q20, .inl (cy 1, 28, .inr (.inl fun _ => 0)))] ++ [(q27, .inl (cy 0, 5, .inl (upd (upd (upd (upd (upd (fun _ => 0) (0 : Int32).toNatClampNeg 4) (1 : Int32).toNatClampNeg 0) (2 : Int32).toNatClampNeg 0) (3 : Int32).toNatClampNeg 0) (4 : Int32).toNatClampNeg 0)))] ++ [(q55, .inl (cy 0, 7, .inl fun _ => 0))] ++ [(q63, .inl (cy 0, 7, .inl fun _ => 0))] ++ [(q71, .inl (cy 0, 6, .inl fun _ => 0))] ++ [(q79, .inl (cy 0, 6, .inl fun _ => 0))])) := hD
  refine lv_aload_n hx hb dk4_84 rfl (lv_at hl 0 rfl) ?_
  refine lv_bipush (v := 6) hx hb dk4_85 (by decide) ?_
  refine mk_ai hx hb hts hK hP hD hS hA 6 (by decide) (by decide) (by decide) (Nat.le_of_ble_eq_true rfl) (Nat.le_of_ble_eq_true rfl) dk4_87 (fun q87 H hP hD hS => ?_)
  have hP : va_P D vwCl ((a, .inr (4, [.int 8, .int 0, .ref q12, .ref q20, .ref q27, .ref q55, .ref q63, .ref q71, .ref q79, .null, .null])) :: ([(q12, .inl (cy 0, 4, .inl fun _ => 0))] ++ [(q20, .inl (cy 1, 28, .inr (.inl fun _ => 0)))] ++ [(q27, .inl (cy 0, 5, .inl (upd (upd (upd (upd (upd (fun _ => 0) (0 : Int32).toNatClampNeg 4) (1 : Int32).toNatClampNeg 0) (2 : Int32).toNatClampNeg 0) (3 : Int32).toNatClampNeg 0) (4 : Int32).toNatClampNeg 0)))] ++ [(q55, .inl (cy 0, 7, .inl fun _ => 0))] ++ [(q63, .inl (cy 0, 7, .inl fun _ => 0))] ++ [(q71, .inl (cy 0, 6, .inl fun _ => 0))] ++ [(q79, .inl (cy 0, 6, .inl fun _ => 0))] ++ [(q87, .inl (cy 0, 6, .inl fun _ => 0))])) H := hP
  have hD : va_D A ((a, .inr (4, [.int 8, .int 0, .ref q12, .ref q20, .ref q27, .ref q55, .ref q63, .ref q71, .ref q79, .null, .null])) :: ([(q12, .inl (cy 0, 4, .inl fun _ => 0))] ++ [(q20, .inl (cy 1, 28, .inr (.inl fun _ => 0)))] ++ [(q27, .inl (cy 0, 5, .inl (upd (upd (upd (upd (upd (fun _ => 0) (0 : Int32).toNatClampNeg 4) (1 : Int32).toNatClampNeg 0) (2 : Int32).toNatClampNeg 0) (3 : Int32).toNatClampNeg 0) (4 : Int32).toNatClampNeg 0)))] ++ [(q55, .inl (cy 0, 7, .inl fun _ => 0))] ++ [(q63, .inl (cy 0, 7, .inl fun _ => 0))] ++ [(q71, .inl (cy 0, 6, .inl fun _ => 0))] ++ [(q79, .inl (cy 0, 6, .inl fun _ => 0))] ++ [(q87, .inl (cy 0, 6, .inl fun _ => 0))])) := hD
  refine va_putF (D := D) (ci := 4) (v := .ref q87) (C := RX4) (T := TX4) (N := 11) hx hb hts mm_cw14 tyX4 tyX4_ok nmX4 hown hK hP hD hS 0 rfl rfl 9 (by decide) (hts _ (mm_tw1 128 rfl rfl)) (fun _ w => w) rfl hin rfl (tyX4_ok 9 (by decide)) rfl rfl (Nat.le_of_ble_eq_true rfl) dk4_89 (fun H locs hP hD hS => ?_)
  have hP : va_P D vwCl ((a, .inr (4, [.int 8, .int 0, .ref q12, .ref q20, .ref q27, .ref q55, .ref q63, .ref q71, .ref q79, .ref q87, .null])) :: ([(q12, .inl (cy 0, 4, .inl fun _ => 0))] ++ [(q20, .inl (cy 1, 28, .inr (.inl fun _ => 0)))] ++ [(q27, .inl (cy 0, 5, .inl (upd (upd (upd (upd (upd (fun _ => 0) (0 : Int32).toNatClampNeg 4) (1 : Int32).toNatClampNeg 0) (2 : Int32).toNatClampNeg 0) (3 : Int32).toNatClampNeg 0) (4 : Int32).toNatClampNeg 0)))] ++ [(q55, .inl (cy 0, 7, .inl fun _ => 0))] ++ [(q63, .inl (cy 0, 7, .inl fun _ => 0))] ++ [(q71, .inl (cy 0, 6, .inl fun _ => 0))] ++ [(q79, .inl (cy 0, 6, .inl fun _ => 0))] ++ [(q87, .inl (cy 0, 6, .inl fun _ => 0))])) H := hP
  have hD : va_D A ((a, .inr (4, [.int 8, .int 0, .ref q12, .ref q20, .ref q27, .ref q55, .ref q63, .ref q71, .ref q79, .ref q87, .null])) :: ([(q12, .inl (cy 0, 4, .inl fun _ => 0))] ++ [(q20, .inl (cy 1, 28, .inr (.inl fun _ => 0)))] ++ [(q27, .inl (cy 0, 5, .inl (upd (upd (upd (upd (upd (fun _ => 0) (0 : Int32).toNatClampNeg 4) (1 : Int32).toNatClampNeg 0) (2 : Int32).toNatClampNeg 0) (3 : Int32).toNatClampNeg 0) (4 : Int32).toNatClampNeg 0)))] ++ [(q55, .inl (cy 0, 7, .inl fun _ => 0))] ++ [(q63, .inl (cy 0, 7, .inl fun _ => 0))] ++ [(q71, .inl (cy 0, 6, .inl fun _ => 0))] ++ [(q79, .inl (cy 0, 6, .inl fun _ => 0))] ++ [(q87, .inl (cy 0, 6, .inl fun _ => 0))])) := hD
  refine lv_aload_n hx hb dk4_92 rfl (lv_at hl 0 rfl) ?_
  refine lv_iconst (v := 5) hx hb dk4_93 (by decide) ?_
  refine mk_ai hx hb hts hK hP hD hS hA 5 (by decide) (by decide) (by decide) (Nat.le_of_ble_eq_true rfl) (Nat.le_of_ble_eq_true rfl) dk4_94 (fun q94 H hP hD hS => ?_)
  have hP : va_P D vwCl ((a, .inr (4, [.int 8, .int 0, .ref q12, .ref q20, .ref q27, .ref q55, .ref q63, .ref q71, .ref q79, .ref q87, .null])) :: ([(q12, .inl (cy 0, 4, .inl fun _ => 0))] ++ [(q20, .inl (cy 1, 28, .inr (.inl fun _ => 0)))] ++ [(q27, .inl (cy 0, 5, .inl (upd (upd (upd (upd (upd (fun _ => 0) (0 : Int32).toNatClampNeg 4) (1 : Int32).toNatClampNeg 0) (2 : Int32).toNatClampNeg 0) (3 : Int32).toNatClampNeg 0) (4 : Int32).toNatClampNeg 0)))] ++ [(q55, .inl (cy 0, 7, .inl fun _ => 0))] ++ [(q63, .inl (cy 0, 7, .inl fun _ => 0))] ++ [(q71, .inl (cy 0, 6, .inl fun _ => 0))] ++ [(q79, .inl (cy 0, 6, .inl fun _ => 0))] ++ [(q87, .inl (cy 0, 6, .inl fun _ => 0))] ++ [(q94, .inl (cy 0, 5, .inl fun _ => 0))])) H := hP
  have hD : va_D A ((a, .inr (4, [.int 8, .int 0, .ref q12, .ref q20, .ref q27, .ref q55, .ref q63, .ref q71, .ref q79, .ref q87, .null])) :: ([(q12, .inl (cy 0, 4, .inl fun _ => 0))] ++ [(q20, .inl (cy 1, 28, .inr (.inl fun _ => 0)))] ++ [(q27, .inl (cy 0, 5, .inl (upd (upd (upd (upd (upd (fun _ => 0) (0 : Int32).toNatClampNeg 4) (1 : Int32).toNatClampNeg 0) (2 : Int32).toNatClampNeg 0) (3 : Int32).toNatClampNeg 0) (4 : Int32).toNatClampNeg 0)))] ++ [(q55, .inl (cy 0, 7, .inl fun _ => 0))] ++ [(q63, .inl (cy 0, 7, .inl fun _ => 0))] ++ [(q71, .inl (cy 0, 6, .inl fun _ => 0))] ++ [(q79, .inl (cy 0, 6, .inl fun _ => 0))] ++ [(q87, .inl (cy 0, 6, .inl fun _ => 0))] ++ [(q94, .inl (cy 0, 5, .inl fun _ => 0))])) := hD
  refine va_putF (D := D) (ci := 4) (v := .ref q94) (C := RX4) (T := TX4) (N := 11) hx hb hts mm_cw14 tyX4 tyX4_ok nmX4 hown hK hP hD hS 0 rfl rfl 10 (by decide) (hts _ (mm_tw1 132 rfl rfl)) (fun _ w => w) rfl hin rfl (tyX4_ok 10 (by decide)) rfl rfl (Nat.le_of_ble_eq_true rfl) dk4_96 (fun H locs hP hD hS => ?_)
  have hP : va_P D vwCl ((a, .inr (4, [.int 8, .int 0, .ref q12, .ref q20, .ref q27, .ref q55, .ref q63, .ref q71, .ref q79, .ref q87, .ref q94])) :: ([(q12, .inl (cy 0, 4, .inl fun _ => 0))] ++ [(q20, .inl (cy 1, 28, .inr (.inl fun _ => 0)))] ++ [(q27, .inl (cy 0, 5, .inl (upd (upd (upd (upd (upd (fun _ => 0) (0 : Int32).toNatClampNeg 4) (1 : Int32).toNatClampNeg 0) (2 : Int32).toNatClampNeg 0) (3 : Int32).toNatClampNeg 0) (4 : Int32).toNatClampNeg 0)))] ++ [(q55, .inl (cy 0, 7, .inl fun _ => 0))] ++ [(q63, .inl (cy 0, 7, .inl fun _ => 0))] ++ [(q71, .inl (cy 0, 6, .inl fun _ => 0))] ++ [(q79, .inl (cy 0, 6, .inl fun _ => 0))] ++ [(q87, .inl (cy 0, 6, .inl fun _ => 0))] ++ [(q94, .inl (cy 0, 5, .inl fun _ => 0))])) H := hP
  have hD : va_D A ((a, .inr (4, [.int 8, .int 0, .ref q12, .ref q20, .ref q27, .ref q55, .ref q63, .ref q71, .ref q79, .ref q87, .ref q94])) :: ([(q12, .inl (cy 0, 4, .inl fun _ => 0))] ++ [(q20, .inl (cy 1, 28, .inr (.inl fun _ => 0)))] ++ [(q27, .inl (cy 0, 5, .inl (upd (upd (upd (upd (upd (fun _ => 0) (0 : Int32).toNatClampNeg 4) (1 : Int32).toNatClampNeg 0) (2 : Int32).toNatClampNeg 0) (3 : Int32).toNatClampNeg 0) (4 : Int32).toNatClampNeg 0)))] ++ [(q55, .inl (cy 0, 7, .inl fun _ => 0))] ++ [(q63, .inl (cy 0, 7, .inl fun _ => 0))] ++ [(q71, .inl (cy 0, 6, .inl fun _ => 0))] ++ [(q79, .inl (cy 0, 6, .inl fun _ => 0))] ++ [(q87, .inl (cy 0, 6, .inl fun _ => 0))] ++ [(q94, .inl (cy 0, 5, .inl fun _ => 0))])) := hD
  have hP9 : va_P D vwCl (nw 10 (fun i => if i = 0 then a else if i = 1 then q12 else if i = 2 then q20 else if i = 3 then q27 else if i = 4 then q55 else if i = 5 then q63 else if i = 6 then q71 else if i = 7 then q79 else if i = 8 then q87 else if i = 9 then q94 else 0) (ce_Plan cy g (fun i => if i = 0 then a else if i = 1 then q12 else if i = 2 then q20 else if i = 3 then q27 else if i = 4 then q55 else if i = 5 then q63 else if i = 6 then q71 else if i = 7 then q79 else if i = 8 then q87 else if i = 9 then q94 else 0))) H := hP
  have hD9 : va_D A (nw 10 (fun i => if i = 0 then a else if i = 1 then q12 else if i = 2 then q20 else if i = 3 then q27 else if i = 4 then q55 else if i = 5 then q63 else if i = 6 then q71 else if i = 7 then q79 else if i = 8 then q87 else if i = 9 then q94 else 0) (ce_Plan cy g (fun i => if i = 0 then a else if i = 1 then q12 else if i = 2 then q20 else if i = 3 then q27 else if i = 4 then q55 else if i = 5 then q63 else if i = 6 then q71 else if i = 7 then q79 else if i = 8 then q87 else if i = 9 then q94 else 0))) := hD
  refine W.widen (k := 9) (n := 74) (Nat.le_of_ble_eq_true rfl) (Nat.le_of_ble_eq_true rfl) ?_
  exact W.vret hx hb hr (fun t ht hW => ⟨⟨(fun i => if i = 0 then a else if i = 1 then q12 else if i = 2 then q20 else if i = 3 then q27 else if i = 4 then q55 else if i = 5 then q63 else if i = 6 then q71 else if i = 7 then q79 else if i = 8 then q87 else if i = 9 then q94 else 0), rfl, rfl, by rw [ht]; exact hP9, hD9⟩, hS.F ht⟩) hS.2.2 dk4_99
theorem dk9_0 : decode cX9_init 0 = .ok (.aload_n 0, 1) := by decide +kernel
theorem dk9_1 : decode cX9_init 1 = .ok (.invokespecial 3, 3) := by decide +kernel
theorem dk9_4 : decode cX9_init 4 = .ok (.aload_n 0, 1) := by decide +kernel
theorem dk9_5 : decode cX9_init 5 = .ok (.new 9, 3) := by decide +kernel
theorem dk9_8 : decode cX9_init 8 = .ok (.dup, 1) := by decide +kernel
theorem dk9_9 : decode cX9_init 9 = .ok (.invokespecial 11, 3) := by decide +kernel
theorem dk9_12 : decode cX9_init 12 = .ok (.putfield 12, 3) := by decide +kernel
theorem dk9_15 : decode cX9_init 15 = .ok (.return_, 1) := by decide +kernel
def ce_TownReader (cy : Nat → ClassId) (g : Nat → Nat → Nat) (r : Nat → Nat) (o : Nat) : va_E := if o = 0 then .inr (9, [.ref (r 1), .int 0, .int 0]) else if o < 11 then ce_Plan cy g (fun i => r (1 + i)) (o - 1) else .inr (0, [])
set_option maxHeartbeats 8000000 in
set_option maxRecDepth 100000 in
theorem mt_TownReader (l : Launch) (D : va_G) (cy : Nat → ClassId) (g : Nat → Nat → Nat) (z0 a sz : Nat) : Met l yX9_init (mk_w yX9_init cX9_init 1) (mk_rm 2 10 85) (va_Pc [.ref a] (mk_U D cy g z0 a sz (.inr (9, [.null, .int 0, .int 0])))) (mk_Q D 11 (ce_TownReader cy g) a (va_A [(a, .inr (9, [.null, .int 0, .int 0]))] sz)) 10 85 (va_A [(a, .inr (9, [.null, .int 0, .int 0]))] sz) := by
  refine Met.ofW (cc := cX9_init) (maxL := 1) (ret := none) (by decide +kernel) rfl ?_
  intro p e s m args below meth c s₁ B hml hv
  obtain ⟨rfl, hsz, hP, hK, hZ, hN, hO, hza, hzs⟩ := hv
  have hx := B.exec
  have hb := B.bytes
  have hr := B.returns
  have hts := fun w hw => atoms_spec (ws := mk_w yX9_init cX9_init 1) B.pre w (List.mem_cons_of_mem _ hw)
  have hown : s.vm.findClass RX9 = some m.cls := findClass_of_methodNamed B.named
  have hlocks := B.notSynchronized
  have hin : meth.name = "<init>" := (name_of_methodNamed B.named B.method).1
  subst hsz
  have hD := mk_D1 (a := a) (sz := s.heap.size) (b := .inr (9, [.null, .int 0, .int 0]))
  have hAz : ∀ q, va_A [(a, .inr (9, [.null, .int 0, .int 0]))] s.heap.size q → z0 ≤ q := fun q h => by
    rcases mk_A1.mp h with h | h <;> omega
  generalize hAe : va_A [(a, .inr (9, [.null, .int 0, .int 0]))] s.heap.size = A at hD hAz ⊢
  have hA : ∀ q : Nat, s.heap.size ≤ q → A q := fun q h => by rw [← hAe]; exact Or.inr h
  have hS : va_S A s.heap s.heap [] := va_S.rf
  have hl := lv_entry ([.ref a]) (n := 1) (Nat.le_of_ble_eq_true rfl)
  rw [lg_entry_eq]
  generalize (lg_sl ([.ref a]) ++ List.replicate (1 - (lg_sl ([.ref a])).length) Slot.unset).toArray = ls at hl ⊢
  have hl : lv_has ls 1 [(0, .ref a)] := hl
  have hP : va_P D vwCl ((a, .inr (9, [.null, .int 0, .int 0])) :: ([])) s.heap := hP
  refine lv_aload_n hx hb dk9_0 rfl (lv_at hl 0 rfl) ?_
  refine W.objInit hx hb hown (hts _ (mm_tw1 88 rfl rfl)) (hts _ (mm_tw1 31 rfl rfl)) (hts _ (mm_tw1 32 rfl rfl)) rfl (by rw [hml]; exact hl.1) rfl dk9_1 (Nat.le_of_ble_eq_true rfl) (Nat.le_of_ble_eq_true rfl) ?_
  refine W.eq (g2 := F0 m 4 ls []) rfl ?_
  refine lv_aload_n hx hb dk9_4 rfl (lv_at hl 0 rfl) ?_
  refine mk_obj (host := "HiccupTown") (nM := 1) (f := 1) (n := 9) (S := 74) (ce := ce_Plan cy g) (fs := [.int 0, .int 0, .null, .null, .null, .null, .null, .null, .null, .null, .null]) hx hb hml hown hts hK hZ hN hO hP hD hS hA hAz hl.1 14 (by decide) (by decide) rfl tyX4 tyX4_ok (by decide) (mm_tw1 89 rfl rfl) (mm_tw1 90 rfl rfl) (mm_tw1 6 rfl rfl) (mt_Plan l D cy g z0) (mm_tw1 93 rfl rfl) rfl rfl (mm_tw1 92 rfl rfl) (Or.inr (mm_tn1 91 rfl rfl)) ⟨by decide +kernel, by decide +kernel, by decide +kernel⟩ ⟨Nat.le_of_ble_eq_true rfl, Nat.le_of_ble_eq_true rfl⟩ (Nat.le_of_ble_eq_true rfl) (Nat.le_of_ble_eq_true rfl) (by simp [Value.category]) dk9_5 dk9_8 dk9_9 (fun r5 H locs hP hD hS => ?_)
  have hP : va_P D vwCl ((a, .inr (9, [.null, .int 0, .int 0])) :: (nw 10 r5 (ce_Plan cy g r5))) H := hP
  have hD : va_D A ((a, .inr (9, [.null, .int 0, .int 0])) :: (nw 10 r5 (ce_Plan cy g r5))) := hD
  refine va_putF (D := D) (ci := 9) (v := .ref (r5 0)) (C := RX9) (T := TX9) (N := 3) hx hb hts mm_cw19 tyX9 tyX9_ok nmX9 hown hK hP hD hS 0 rfl rfl 0 (by decide) (hts _ (mm_tw1 160 rfl rfl)) (fun _ w => w) rfl hin rfl (tyX9_ok 0 (by decide)) rfl rfl (Nat.le_of_ble_eq_true rfl) dk9_12 (fun H locs hP hD hS => ?_)
  have hP : va_P D vwCl ((a, .inr (9, [.ref (r5 0), .int 0, .int 0])) :: (nw 10 r5 (ce_Plan cy g r5))) H := hP
  have hD : va_D A ((a, .inr (9, [.ref (r5 0), .int 0, .int 0])) :: (nw 10 r5 (ce_Plan cy g r5))) := hD
  have hP9 : va_P D vwCl (nw 11 (fun i => if i = 0 then a else if i < 11 then r5 (i - 1) else 0) (ce_TownReader cy g (fun i => if i = 0 then a else if i < 11 then r5 (i - 1) else 0))) H := hP
  have hD9 : va_D A (nw 11 (fun i => if i = 0 then a else if i < 11 then r5 (i - 1) else 0) (ce_TownReader cy g (fun i => if i = 0 then a else if i < 11 then r5 (i - 1) else 0))) := hD
  refine W.widen (k := 10) (n := 85) (Nat.le_of_ble_eq_true rfl) (Nat.le_of_ble_eq_true rfl) ?_
  exact W.vret hx hb hr (fun t ht hW => ⟨⟨(fun i => if i = 0 then a else if i < 11 then r5 (i - 1) else 0), rfl, rfl, by rw [ht]; exact hP9, hD9⟩, hS.F ht⟩) hS.2.2 dk9_15
theorem dk2_0 : decode cX2_init 0 = .ok (.aload_n 0, 1) := by decide +kernel
theorem dk2_1 : decode cX2_init 1 = .ok (.invokespecial 3, 3) := by decide +kernel
theorem dk2_4 : decode cX2_init 4 = .ok (.aload_n 0, 1) := by decide +kernel
theorem dk2_5 : decode cX2_init 5 = .ok (.iconst 4, 1) := by decide +kernel
theorem dk2_6 : decode cX2_init 6 = .ok (.putfield 11, 3) := by decide +kernel
theorem dk2_9 : decode cX2_init 9 = .ok (.aload_n 0, 1) := by decide +kernel
theorem dk2_10 : decode cX2_init 10 = .ok (.bipush 7, 2) := by decide +kernel
theorem dk2_12 : decode cX2_init 12 = .ok (.newarray .int, 2) := by decide +kernel
theorem dk2_14 : decode cX2_init 14 = .ok (.putfield 17, 3) := by decide +kernel
theorem dk2_17 : decode cX2_init 17 = .ok (.aload_n 0, 1) := by decide +kernel
theorem dk2_18 : decode cX2_init 18 = .ok (.bipush 7, 2) := by decide +kernel
theorem dk2_20 : decode cX2_init 20 = .ok (.newarray .int, 2) := by decide +kernel
theorem dk2_22 : decode cX2_init 22 = .ok (.putfield 21, 3) := by decide +kernel
theorem dk2_25 : decode cX2_init 25 = .ok (.aload_n 0, 1) := by decide +kernel
theorem dk2_26 : decode cX2_init 26 = .ok (.bipush 6, 2) := by decide +kernel
theorem dk2_28 : decode cX2_init 28 = .ok (.newarray .int, 2) := by decide +kernel
theorem dk2_30 : decode cX2_init 30 = .ok (.putfield 24, 3) := by decide +kernel
theorem dk2_33 : decode cX2_init 33 = .ok (.return_, 1) := by decide +kernel
def ce_Moment (cy : Nat → ClassId) (g : Nat → Nat → Nat) (r : Nat → Nat) (o : Nat) : va_E := if o = 0 then .inr (2, [.int 0, .int 0, .int 4, .int 0, .int 0, .int 0, .ref (r 1), .ref (r 2), .ref (r 3)]) else if o = 1 then .inl (cy 0, 7, .inl fun _ => 0) else if o = 2 then .inl (cy 0, 7, .inl fun _ => 0) else if o = 3 then .inl (cy 0, 6, .inl fun _ => 0) else .inr (0, [])
set_option maxHeartbeats 8000000 in
set_option maxRecDepth 100000 in
theorem mt_Moment (l : Launch) (D : va_G) (cy : Nat → ClassId) (g : Nat → Nat → Nat) (z0 a sz : Nat) : Met l yX2_init (mk_w yX2_init cX2_init 1) (mk_rm 1 3 20) (va_Pc [.ref a] (mk_U D cy g z0 a sz (.inr (2, [.int 0, .int 0, .int 0, .int 0, .int 0, .int 0, .null, .null, .null])))) (mk_Q D 4 (ce_Moment cy g) a (va_A [(a, .inr (2, [.int 0, .int 0, .int 0, .int 0, .int 0, .int 0, .null, .null, .null]))] sz)) 3 20 (va_A [(a, .inr (2, [.int 0, .int 0, .int 0, .int 0, .int 0, .int 0, .null, .null, .null]))] sz) := by
  refine Met.ofW (cc := cX2_init) (maxL := 1) (ret := none) (by decide +kernel) rfl ?_
  intro p e s m args below meth c s₁ B hml hv
  obtain ⟨rfl, hsz, hP, hK, hZ, hN, hO, hza, hzs⟩ := hv
  have hx := B.exec
  have hb := B.bytes
  have hr := B.returns
  have hts := fun w hw => atoms_spec (ws := mk_w yX2_init cX2_init 1) B.pre w (List.mem_cons_of_mem _ hw)
  have hown : s.vm.findClass RX2 = some m.cls := findClass_of_methodNamed B.named
  have hlocks := B.notSynchronized
  have hin : meth.name = "<init>" := (name_of_methodNamed B.named B.method).1
  subst hsz
  have hD := mk_D1 (a := a) (sz := s.heap.size) (b := .inr (2, [.int 0, .int 0, .int 0, .int 0, .int 0, .int 0, .null, .null, .null]))
  have hAz : ∀ q, va_A [(a, .inr (2, [.int 0, .int 0, .int 0, .int 0, .int 0, .int 0, .null, .null, .null]))] s.heap.size q → z0 ≤ q := fun q h => by
    rcases mk_A1.mp h with h | h <;> omega
  generalize hAe : va_A [(a, .inr (2, [.int 0, .int 0, .int 0, .int 0, .int 0, .int 0, .null, .null, .null]))] s.heap.size = A at hD hAz ⊢
  have hA : ∀ q : Nat, s.heap.size ≤ q → A q := fun q h => by rw [← hAe]; exact Or.inr h
  have hS : va_S A s.heap s.heap [] := va_S.rf
  have hl := lv_entry ([.ref a]) (n := 1) (Nat.le_of_ble_eq_true rfl)
  rw [lg_entry_eq]
  generalize (lg_sl ([.ref a]) ++ List.replicate (1 - (lg_sl ([.ref a])).length) Slot.unset).toArray = ls at hl ⊢
  have hl : lv_has ls 1 [(0, .ref a)] := hl
  have hP : va_P D vwCl ((a, .inr (2, [.int 0, .int 0, .int 0, .int 0, .int 0, .int 0, .null, .null, .null])) :: ([])) s.heap := hP
  refine lv_aload_n hx hb dk2_0 rfl (lv_at hl 0 rfl) ?_
  refine W.objInit hx hb hown (hts _ (mm_tw1 184 rfl rfl)) (hts _ (mm_tw1 31 rfl rfl)) (hts _ (mm_tw1 32 rfl rfl)) rfl (by rw [hml]; exact hl.1) rfl dk2_1 (Nat.le_of_ble_eq_true rfl) (Nat.le_of_ble_eq_true rfl) ?_
  refine W.eq (g2 := F0 m 4 ls []) rfl ?_
  refine lv_aload_n hx hb dk2_4 rfl (lv_at hl 0 rfl) ?_
  refine lv_iconst (v := 4) hx hb dk2_5 (by decide) ?_
  refine va_put (D := D) (ci := 2) (v := .int 4) (C := RX2) (T := TX2) (N := 9) hx hb hts mm_cw12 tyX2 tyX2_ok nmX2 hown hK hP hD hS 0 rfl rfl 2 (by decide) (hts _ (mm_tw1 190 rfl rfl)) (fun _ w => w) rfl (tyX2_ok 2 (by decide)) rfl rfl (Nat.le_of_ble_eq_true rfl) dk2_6 (fun H locs hP hD hS => ?_)
  have hP : va_P D vwCl ((a, .inr (2, [.int 0, .int 0, .int 4, .int 0, .int 0, .int 0, .null, .null, .null])) :: ([])) H := hP
  have hD : va_D A ((a, .inr (2, [.int 0, .int 0, .int 4, .int 0, .int 0, .int 0, .null, .null, .null])) :: ([])) := hD
  refine lv_aload_n hx hb dk2_9 rfl (lv_at hl 0 rfl) ?_
  refine lv_bipush (v := 7) hx hb dk2_10 (by decide) ?_
  refine mk_ai hx hb hts hK hP hD hS hA 7 (by decide) (by decide) (by decide) (Nat.le_of_ble_eq_true rfl) (Nat.le_of_ble_eq_true rfl) dk2_12 (fun q12 H hP hD hS => ?_)
  have hP : va_P D vwCl ((a, .inr (2, [.int 0, .int 0, .int 4, .int 0, .int 0, .int 0, .null, .null, .null])) :: ([(q12, .inl (cy 0, 7, .inl fun _ => 0))])) H := hP
  have hD : va_D A ((a, .inr (2, [.int 0, .int 0, .int 4, .int 0, .int 0, .int 0, .null, .null, .null])) :: ([(q12, .inl (cy 0, 7, .inl fun _ => 0))])) := hD
  refine va_putF (D := D) (ci := 2) (v := .ref q12) (C := RX2) (T := TX2) (N := 9) hx hb hts mm_cw12 tyX2 tyX2_ok nmX2 hown hK hP hD hS 0 rfl rfl 6 (by decide) (hts _ (mm_tw1 198 rfl rfl)) (fun _ w => w) rfl hin rfl (tyX2_ok 6 (by decide)) rfl rfl (Nat.le_of_ble_eq_true rfl) dk2_14 (fun H locs hP hD hS => ?_)
  have hP : va_P D vwCl ((a, .inr (2, [.int 0, .int 0, .int 4, .int 0, .int 0, .int 0, .ref q12, .null, .null])) :: ([(q12, .inl (cy 0, 7, .inl fun _ => 0))])) H := hP
  have hD : va_D A ((a, .inr (2, [.int 0, .int 0, .int 4, .int 0, .int 0, .int 0, .ref q12, .null, .null])) :: ([(q12, .inl (cy 0, 7, .inl fun _ => 0))])) := hD
  refine lv_aload_n hx hb dk2_17 rfl (lv_at hl 0 rfl) ?_
  refine lv_bipush (v := 7) hx hb dk2_18 (by decide) ?_
  refine mk_ai hx hb hts hK hP hD hS hA 7 (by decide) (by decide) (by decide) (Nat.le_of_ble_eq_true rfl) (Nat.le_of_ble_eq_true rfl) dk2_20 (fun q20 H hP hD hS => ?_)
  have hP : va_P D vwCl ((a, .inr (2, [.int 0, .int 0, .int 4, .int 0, .int 0, .int 0, .ref q12, .null, .null])) :: ([(q12, .inl (cy 0, 7, .inl fun _ => 0))] ++ [(q20, .inl (cy 0, 7, .inl fun _ => 0))])) H := hP
  have hD : va_D A ((a, .inr (2, [.int 0, .int 0, .int 4, .int 0, .int 0, .int 0, .ref q12, .null, .null])) :: ([(q12, .inl (cy 0, 7, .inl fun _ => 0))] ++ [(q20, .inl (cy 0, 7, .inl fun _ => 0))])) := hD
  refine va_putF (D := D) (ci := 2) (v := .ref q20) (C := RX2) (T := TX2) (N := 9) hx hb hts mm_cw12 tyX2 tyX2_ok nmX2 hown hK hP hD hS 0 rfl rfl 7 (by decide) (hts _ (mm_tw1 201 rfl rfl)) (fun _ w => w) rfl hin rfl (tyX2_ok 7 (by decide)) rfl rfl (Nat.le_of_ble_eq_true rfl) dk2_22 (fun H locs hP hD hS => ?_)
  have hP : va_P D vwCl ((a, .inr (2, [.int 0, .int 0, .int 4, .int 0, .int 0, .int 0, .ref q12, .ref q20, .null])) :: ([(q12, .inl (cy 0, 7, .inl fun _ => 0))] ++ [(q20, .inl (cy 0, 7, .inl fun _ => 0))])) H := hP
  have hD : va_D A ((a, .inr (2, [.int 0, .int 0, .int 4, .int 0, .int 0, .int 0, .ref q12, .ref q20, .null])) :: ([(q12, .inl (cy 0, 7, .inl fun _ => 0))] ++ [(q20, .inl (cy 0, 7, .inl fun _ => 0))])) := hD
  refine lv_aload_n hx hb dk2_25 rfl (lv_at hl 0 rfl) ?_
  refine lv_bipush (v := 6) hx hb dk2_26 (by decide) ?_
  refine mk_ai hx hb hts hK hP hD hS hA 6 (by decide) (by decide) (by decide) (Nat.le_of_ble_eq_true rfl) (Nat.le_of_ble_eq_true rfl) dk2_28 (fun q28 H hP hD hS => ?_)
  have hP : va_P D vwCl ((a, .inr (2, [.int 0, .int 0, .int 4, .int 0, .int 0, .int 0, .ref q12, .ref q20, .null])) :: ([(q12, .inl (cy 0, 7, .inl fun _ => 0))] ++ [(q20, .inl (cy 0, 7, .inl fun _ => 0))] ++ [(q28, .inl (cy 0, 6, .inl fun _ => 0))])) H := hP
  have hD : va_D A ((a, .inr (2, [.int 0, .int 0, .int 4, .int 0, .int 0, .int 0, .ref q12, .ref q20, .null])) :: ([(q12, .inl (cy 0, 7, .inl fun _ => 0))] ++ [(q20, .inl (cy 0, 7, .inl fun _ => 0))] ++ [(q28, .inl (cy 0, 6, .inl fun _ => 0))])) := hD
  refine va_putF (D := D) (ci := 2) (v := .ref q28) (C := RX2) (T := TX2) (N := 9) hx hb hts mm_cw12 tyX2 tyX2_ok nmX2 hown hK hP hD hS 0 rfl rfl 8 (by decide) (hts _ (mm_tw1 204 rfl rfl)) (fun _ w => w) rfl hin rfl (tyX2_ok 8 (by decide)) rfl rfl (Nat.le_of_ble_eq_true rfl) dk2_30 (fun H locs hP hD hS => ?_)
  have hP : va_P D vwCl ((a, .inr (2, [.int 0, .int 0, .int 4, .int 0, .int 0, .int 0, .ref q12, .ref q20, .ref q28])) :: ([(q12, .inl (cy 0, 7, .inl fun _ => 0))] ++ [(q20, .inl (cy 0, 7, .inl fun _ => 0))] ++ [(q28, .inl (cy 0, 6, .inl fun _ => 0))])) H := hP
  have hD : va_D A ((a, .inr (2, [.int 0, .int 0, .int 4, .int 0, .int 0, .int 0, .ref q12, .ref q20, .ref q28])) :: ([(q12, .inl (cy 0, 7, .inl fun _ => 0))] ++ [(q20, .inl (cy 0, 7, .inl fun _ => 0))] ++ [(q28, .inl (cy 0, 6, .inl fun _ => 0))])) := hD
  have hP9 : va_P D vwCl (nw 4 (fun i => if i = 0 then a else if i = 1 then q12 else if i = 2 then q20 else if i = 3 then q28 else 0) (ce_Moment cy g (fun i => if i = 0 then a else if i = 1 then q12 else if i = 2 then q20 else if i = 3 then q28 else 0))) H := hP
  have hD9 : va_D A (nw 4 (fun i => if i = 0 then a else if i = 1 then q12 else if i = 2 then q20 else if i = 3 then q28 else 0) (ce_Moment cy g (fun i => if i = 0 then a else if i = 1 then q12 else if i = 2 then q20 else if i = 3 then q28 else 0))) := hD
  refine W.widen (k := 3) (n := 20) (Nat.le_of_ble_eq_true rfl) (Nat.le_of_ble_eq_true rfl) ?_
  exact W.vret hx hb hr (fun t ht hW => ⟨⟨(fun i => if i = 0 then a else if i = 1 then q12 else if i = 2 then q20 else if i = 3 then q28 else 0), rfl, rfl, by rw [ht]; exact hP9, hD9⟩, hS.F ht⟩) hS.2.2 dk2_33
theorem dk7_0 : decode cX7_init 0 = .ok (.aload_n 0, 1) := by decide +kernel
theorem dk7_1 : decode cX7_init 1 = .ok (.invokespecial 5, 3) := by decide +kernel
theorem dk7_4 : decode cX7_init 4 = .ok (.aload_n 0, 1) := by decide +kernel
theorem dk7_5 : decode cX7_init 5 = .ok (.bipush 40, 2) := by decide +kernel
theorem dk7_7 : decode cX7_init 7 = .ok (.anewarray 11, 3) := by decide +kernel
theorem dk7_10 : decode cX7_init 10 = .ok (.putfield 13, 3) := by decide +kernel
theorem dk7_13 : decode cX7_init 13 = .ok (.aload_n 0, 1) := by decide +kernel
theorem dk7_14 : decode cX7_init 14 = .ok (.bipush 40, 2) := by decide +kernel
theorem dk7_16 : decode cX7_init 16 = .ok (.anewarray 11, 3) := by decide +kernel
theorem dk7_19 : decode cX7_init 19 = .ok (.putfield 17, 3) := by decide +kernel
theorem dk7_22 : decode cX7_init 22 = .ok (.aload_n 0, 1) := by decide +kernel
theorem dk7_23 : decode cX7_init 23 = .ok (.bipush 40, 2) := by decide +kernel
theorem dk7_25 : decode cX7_init 25 = .ok (.newarray .int, 2) := by decide +kernel
theorem dk7_27 : decode cX7_init 27 = .ok (.putfield 20, 3) := by decide +kernel
theorem dk7_30 : decode cX7_init 30 = .ok (.return_, 1) := by decide +kernel
def ce_Sentence (cy : Nat → ClassId) (g : Nat → Nat → Nat) (r : Nat → Nat) (o : Nat) : va_E := if o = 0 then .inr (7, [.ref (r 1), .ref (r 2), .ref (r 3), .int 0, .int 0]) else if o = 1 then .inl (cy 2, 40, .inr (.inr (.inr (.inr fun _ => none)))) else if o = 2 then .inl (cy 2, 40, .inr (.inr (.inr (.inr fun _ => none)))) else if o = 3 then .inl (cy 0, 40, .inl fun _ => 0) else .inr (0, [])
set_option maxHeartbeats 8000000 in
set_option maxRecDepth 100000 in
theorem mt_Sentence (l : Launch) (D : va_G) (cy : Nat → ClassId) (g : Nat → Nat → Nat) (z0 a sz : Nat) : Met l yX7_init (mk_w yX7_init cX7_init 1) (mk_rm 1 3 120) (va_Pc [.ref a] (mk_U D cy g z0 a sz (.inr (7, [.null, .null, .null, .int 0, .int 0])))) (mk_Q D 4 (ce_Sentence cy g) a (va_A [(a, .inr (7, [.null, .null, .null, .int 0, .int 0]))] sz)) 3 120 (va_A [(a, .inr (7, [.null, .null, .null, .int 0, .int 0]))] sz) := by
  refine Met.ofW (cc := cX7_init) (maxL := 1) (ret := none) (by decide +kernel) rfl ?_
  intro p e s m args below meth c s₁ B hml hv
  obtain ⟨rfl, hsz, hP, hK, hZ, hN, hO, hza, hzs⟩ := hv
  have hx := B.exec
  have hb := B.bytes
  have hr := B.returns
  have hts := fun w hw => atoms_spec (ws := mk_w yX7_init cX7_init 1) B.pre w (List.mem_cons_of_mem _ hw)
  have hown : s.vm.findClass RX7 = some m.cls := findClass_of_methodNamed B.named
  have hlocks := B.notSynchronized
  have hin : meth.name = "<init>" := (name_of_methodNamed B.named B.method).1
  subst hsz
  have hD := mk_D1 (a := a) (sz := s.heap.size) (b := .inr (7, [.null, .null, .null, .int 0, .int 0]))
  have hAz : ∀ q, va_A [(a, .inr (7, [.null, .null, .null, .int 0, .int 0]))] s.heap.size q → z0 ≤ q := fun q h => by
    rcases mk_A1.mp h with h | h <;> omega
  generalize hAe : va_A [(a, .inr (7, [.null, .null, .null, .int 0, .int 0]))] s.heap.size = A at hD hAz ⊢
  have hA : ∀ q : Nat, s.heap.size ≤ q → A q := fun q h => by rw [← hAe]; exact Or.inr h
  have hS : va_S A s.heap s.heap [] := va_S.rf
  have hl := lv_entry ([.ref a]) (n := 1) (Nat.le_of_ble_eq_true rfl)
  rw [lg_entry_eq]
  generalize (lg_sl ([.ref a]) ++ List.replicate (1 - (lg_sl ([.ref a])).length) Slot.unset).toArray = ls at hl ⊢
  have hl : lv_has ls 1 [(0, .ref a)] := hl
  have hP : va_P D vwCl ((a, .inr (7, [.null, .null, .null, .int 0, .int 0])) :: ([])) s.heap := hP
  refine lv_aload_n hx hb dk7_0 rfl (lv_at hl 0 rfl) ?_
  refine W.objInit hx hb hown (hts _ (mm_tw1 230 rfl rfl)) (hts _ (mm_tw1 31 rfl rfl)) (hts _ (mm_tw1 32 rfl rfl)) rfl (by rw [hml]; exact hl.1) rfl dk7_1 (Nat.le_of_ble_eq_true rfl) (Nat.le_of_ble_eq_true rfl) ?_
  refine W.eq (g2 := F0 m 4 ls []) rfl ?_
  refine lv_aload_n hx hb dk7_4 rfl (lv_at hl 0 rfl) ?_
  refine lv_bipush (v := 40) hx hb dk7_5 (by decide) ?_
  refine va_newq hx hb hown (hts _ (mm_tw1 231 rfl rfl)) (hO (.object "HiccupTown$Word") (by simp)) hK hP hD hS hA (N' := 40) (by decide) (by decide) (by decide) (Nat.le_of_ble_eq_true rfl) (Nat.le_of_ble_eq_true rfl) dk7_7 (fun q7 cA H hK9 hP hD hS => ?_)
  have ec := mk_cAo (c := 2) (by decide) rfl hK hK9
  subst ec
  have hP : va_P D vwCl ((a, .inr (7, [.null, .null, .null, .int 0, .int 0])) :: ([(q7, .inl (cy 2, 40, .inr (.inr (.inr (.inr fun _ => none)))))])) H := hP
  have hD : va_D A ((a, .inr (7, [.null, .null, .null, .int 0, .int 0])) :: ([(q7, .inl (cy 2, 40, .inr (.inr (.inr (.inr fun _ => none)))))])) := hD
  refine va_putF (D := D) (ci := 7) (v := .ref q7) (C := RX7) (T := TX7) (N := 5) hx hb hts mm_cw17 tyX7 tyX7_ok nmX7 hown hK hP hD hS 0 rfl rfl 0 (by decide) (hts _ (mm_tw1 233 rfl rfl)) (fun _ w => w) rfl hin rfl (tyX7_ok 0 (by decide)) rfl rfl (Nat.le_of_ble_eq_true rfl) dk7_10 (fun H locs hP hD hS => ?_)
  have hP : va_P D vwCl ((a, .inr (7, [.ref q7, .null, .null, .int 0, .int 0])) :: ([(q7, .inl (cy 2, 40, .inr (.inr (.inr (.inr fun _ => none)))))])) H := hP
  have hD : va_D A ((a, .inr (7, [.ref q7, .null, .null, .int 0, .int 0])) :: ([(q7, .inl (cy 2, 40, .inr (.inr (.inr (.inr fun _ => none)))))])) := hD
  refine lv_aload_n hx hb dk7_13 rfl (lv_at hl 0 rfl) ?_
  refine lv_bipush (v := 40) hx hb dk7_14 (by decide) ?_
  refine va_newq hx hb hown (hts _ (mm_tw1 231 rfl rfl)) (hO (.object "HiccupTown$Word") (by simp)) hK hP hD hS hA (N' := 40) (by decide) (by decide) (by decide) (Nat.le_of_ble_eq_true rfl) (Nat.le_of_ble_eq_true rfl) dk7_16 (fun q16 cA H hK9 hP hD hS => ?_)
  have ec := mk_cAo (c := 2) (by decide) rfl hK hK9
  subst ec
  have hP : va_P D vwCl ((a, .inr (7, [.ref q7, .null, .null, .int 0, .int 0])) :: ([(q7, .inl (cy 2, 40, .inr (.inr (.inr (.inr fun _ => none)))))] ++ [(q16, .inl (cy 2, 40, .inr (.inr (.inr (.inr fun _ => none)))))])) H := hP
  have hD : va_D A ((a, .inr (7, [.ref q7, .null, .null, .int 0, .int 0])) :: ([(q7, .inl (cy 2, 40, .inr (.inr (.inr (.inr fun _ => none)))))] ++ [(q16, .inl (cy 2, 40, .inr (.inr (.inr (.inr fun _ => none)))))])) := hD
  refine va_putF (D := D) (ci := 7) (v := .ref q16) (C := RX7) (T := TX7) (N := 5) hx hb hts mm_cw17 tyX7 tyX7_ok nmX7 hown hK hP hD hS 0 rfl rfl 1 (by decide) (hts _ (mm_tw1 234 rfl rfl)) (fun _ w => w) rfl hin rfl (tyX7_ok 1 (by decide)) rfl rfl (Nat.le_of_ble_eq_true rfl) dk7_19 (fun H locs hP hD hS => ?_)
  have hP : va_P D vwCl ((a, .inr (7, [.ref q7, .ref q16, .null, .int 0, .int 0])) :: ([(q7, .inl (cy 2, 40, .inr (.inr (.inr (.inr fun _ => none)))))] ++ [(q16, .inl (cy 2, 40, .inr (.inr (.inr (.inr fun _ => none)))))])) H := hP
  have hD : va_D A ((a, .inr (7, [.ref q7, .ref q16, .null, .int 0, .int 0])) :: ([(q7, .inl (cy 2, 40, .inr (.inr (.inr (.inr fun _ => none)))))] ++ [(q16, .inl (cy 2, 40, .inr (.inr (.inr (.inr fun _ => none)))))])) := hD
  refine lv_aload_n hx hb dk7_22 rfl (lv_at hl 0 rfl) ?_
  refine lv_bipush (v := 40) hx hb dk7_23 (by decide) ?_
  refine mk_ai hx hb hts hK hP hD hS hA 40 (by decide) (by decide) (by decide) (Nat.le_of_ble_eq_true rfl) (Nat.le_of_ble_eq_true rfl) dk7_25 (fun q25 H hP hD hS => ?_)
  have hP : va_P D vwCl ((a, .inr (7, [.ref q7, .ref q16, .null, .int 0, .int 0])) :: ([(q7, .inl (cy 2, 40, .inr (.inr (.inr (.inr fun _ => none)))))] ++ [(q16, .inl (cy 2, 40, .inr (.inr (.inr (.inr fun _ => none)))))] ++ [(q25, .inl (cy 0, 40, .inl fun _ => 0))])) H := hP
  have hD : va_D A ((a, .inr (7, [.ref q7, .ref q16, .null, .int 0, .int 0])) :: ([(q7, .inl (cy 2, 40, .inr (.inr (.inr (.inr fun _ => none)))))] ++ [(q16, .inl (cy 2, 40, .inr (.inr (.inr (.inr fun _ => none)))))] ++ [(q25, .inl (cy 0, 40, .inl fun _ => 0))])) := hD
  refine va_putF (D := D) (ci := 7) (v := .ref q25) (C := RX7) (T := TX7) (N := 5) hx hb hts mm_cw17 tyX7 tyX7_ok nmX7 hown hK hP hD hS 0 rfl rfl 2 (by decide) (hts _ (mm_tw1 235 rfl rfl)) (fun _ w => w) rfl hin rfl (tyX7_ok 2 (by decide)) rfl rfl (Nat.le_of_ble_eq_true rfl) dk7_27 (fun H locs hP hD hS => ?_)
  have hP : va_P D vwCl ((a, .inr (7, [.ref q7, .ref q16, .ref q25, .int 0, .int 0])) :: ([(q7, .inl (cy 2, 40, .inr (.inr (.inr (.inr fun _ => none)))))] ++ [(q16, .inl (cy 2, 40, .inr (.inr (.inr (.inr fun _ => none)))))] ++ [(q25, .inl (cy 0, 40, .inl fun _ => 0))])) H := hP
  have hD : va_D A ((a, .inr (7, [.ref q7, .ref q16, .ref q25, .int 0, .int 0])) :: ([(q7, .inl (cy 2, 40, .inr (.inr (.inr (.inr fun _ => none)))))] ++ [(q16, .inl (cy 2, 40, .inr (.inr (.inr (.inr fun _ => none)))))] ++ [(q25, .inl (cy 0, 40, .inl fun _ => 0))])) := hD
  have hP9 : va_P D vwCl (nw 4 (fun i => if i = 0 then a else if i = 1 then q7 else if i = 2 then q16 else if i = 3 then q25 else 0) (ce_Sentence cy g (fun i => if i = 0 then a else if i = 1 then q7 else if i = 2 then q16 else if i = 3 then q25 else 0))) H := hP
  have hD9 : va_D A (nw 4 (fun i => if i = 0 then a else if i = 1 then q7 else if i = 2 then q16 else if i = 3 then q25 else 0) (ce_Sentence cy g (fun i => if i = 0 then a else if i = 1 then q7 else if i = 2 then q16 else if i = 3 then q25 else 0))) := hD
  refine W.widen (k := 3) (n := 120) (Nat.le_of_ble_eq_true rfl) (Nat.le_of_ble_eq_true rfl) ?_
  exact W.vret hx hb hr (fun t ht hW => ⟨⟨(fun i => if i = 0 then a else if i = 1 then q7 else if i = 2 then q16 else if i = 3 then q25 else 0), rfl, rfl, by rw [ht]; exact hP9, hD9⟩, hS.F ht⟩) hS.2.2 dk7_30
theorem dk6_0 : decode cX6_init 0 = .ok (.aload_n 0, 1) := by decide +kernel
theorem dk6_1 : decode cX6_init 1 = .ok (.invokespecial 1, 3) := by decide +kernel
theorem dk6_4 : decode cX6_init 4 = .ok (.aload_n 0, 1) := by decide +kernel
theorem dk6_5 : decode cX6_init 5 = .ok (.new 7, 3) := by decide +kernel
theorem dk6_8 : decode cX6_init 8 = .ok (.dup, 1) := by decide +kernel
theorem dk6_9 : decode cX6_init 9 = .ok (.invokespecial 9, 3) := by decide +kernel
theorem dk6_12 : decode cX6_init 12 = .ok (.putfield 10, 3) := by decide +kernel
theorem dk6_15 : decode cX6_init 15 = .ok (.aload_n 0, 1) := by decide +kernel
theorem dk6_16 : decode cX6_init 16 = .ok (.new 16, 3) := by decide +kernel
theorem dk6_19 : decode cX6_init 19 = .ok (.dup, 1) := by decide +kernel
theorem dk6_20 : decode cX6_init 20 = .ok (.invokespecial 18, 3) := by decide +kernel
theorem dk6_23 : decode cX6_init 23 = .ok (.putfield 19, 3) := by decide +kernel
theorem dk6_26 : decode cX6_init 26 = .ok (.aload_n 0, 1) := by decide +kernel
theorem dk6_27 : decode cX6_init 27 = .ok (.new 23, 3) := by decide +kernel
theorem dk6_30 : decode cX6_init 30 = .ok (.dup, 1) := by decide +kernel
theorem dk6_31 : decode cX6_init 31 = .ok (.invokespecial 25, 3) := by decide +kernel
theorem dk6_34 : decode cX6_init 34 = .ok (.putfield 26, 3) := by decide +kernel
theorem dk6_37 : decode cX6_init 37 = .ok (.return_, 1) := by decide +kernel
def ce_Scene (cy : Nat → ClassId) (g : Nat → Nat → Nat) (r : Nat → Nat) (o : Nat) : va_E := if o = 0 then .inr (6, [.ref (r 1), .ref (r 11), .ref (r 15), .int 0]) else if o < 11 then ce_Plan cy g (fun i => r (1 + i)) (o - 1) else if o < 15 then ce_Moment cy g (fun i => r (11 + i)) (o - 11) else if o < 19 then ce_Sentence cy g (fun i => r (15 + i)) (o - 15) else .inr (0, [])
set_option maxHeartbeats 8000000 in
set_option maxRecDepth 100000 in
theorem mt_Scene (l : Launch) (D : va_G) (cy : Nat → ClassId) (g : Nat → Nat → Nat) (z0 a sz : Nat) : Met l yX6_init (mk_w yX6_init cX6_init 1) (mk_rm 2 18 239) (va_Pc [.ref a] (mk_U D cy g z0 a sz (.inr (6, [.null, .null, .null, .int 0])))) (mk_Q D 19 (ce_Scene cy g) a (va_A [(a, .inr (6, [.null, .null, .null, .int 0]))] sz)) 18 239 (va_A [(a, .inr (6, [.null, .null, .null, .int 0]))] sz) := by
  refine Met.ofW (cc := cX6_init) (maxL := 1) (ret := none) (by decide +kernel) rfl ?_
  intro p e s m args below meth c s₁ B hml hv
  obtain ⟨rfl, hsz, hP, hK, hZ, hN, hO, hza, hzs⟩ := hv
  have hx := B.exec
  have hb := B.bytes
  have hr := B.returns
  have hts := fun w hw => atoms_spec (ws := mk_w yX6_init cX6_init 1) B.pre w (List.mem_cons_of_mem _ hw)
  have hown : s.vm.findClass RX6 = some m.cls := findClass_of_methodNamed B.named
  have hlocks := B.notSynchronized
  have hin : meth.name = "<init>" := (name_of_methodNamed B.named B.method).1
  subst hsz
  have hD := mk_D1 (a := a) (sz := s.heap.size) (b := .inr (6, [.null, .null, .null, .int 0]))
  have hAz : ∀ q, va_A [(a, .inr (6, [.null, .null, .null, .int 0]))] s.heap.size q → z0 ≤ q := fun q h => by
    rcases mk_A1.mp h with h | h <;> omega
  generalize hAe : va_A [(a, .inr (6, [.null, .null, .null, .int 0]))] s.heap.size = A at hD hAz ⊢
  have hA : ∀ q : Nat, s.heap.size ≤ q → A q := fun q h => by rw [← hAe]; exact Or.inr h
  have hS : va_S A s.heap s.heap [] := va_S.rf
  have hl := lv_entry ([.ref a]) (n := 1) (Nat.le_of_ble_eq_true rfl)
  rw [lg_entry_eq]
  generalize (lg_sl ([.ref a]) ++ List.replicate (1 - (lg_sl ([.ref a])).length) Slot.unset).toArray = ls at hl ⊢
  have hl : lv_has ls 1 [(0, .ref a)] := hl
  have hP : va_P D vwCl ((a, .inr (6, [.null, .null, .null, .int 0])) :: ([])) s.heap := hP
  refine lv_aload_n hx hb dk6_0 rfl (lv_at hl 0 rfl) ?_
  refine W.objInit hx hb hown (hts _ (mm_tw1 176 rfl rfl)) (hts _ (mm_tw1 31 rfl rfl)) (hts _ (mm_tw1 32 rfl rfl)) rfl (by rw [hml]; exact hl.1) rfl dk6_1 (Nat.le_of_ble_eq_true rfl) (Nat.le_of_ble_eq_true rfl) ?_
  refine W.eq (g2 := F0 m 4 ls []) rfl ?_
  refine lv_aload_n hx hb dk6_4 rfl (lv_at hl 0 rfl) ?_
  refine mk_obj (host := "HiccupTown") (nM := 1) (f := 1) (n := 9) (S := 74) (ce := ce_Plan cy g) (fs := [.int 0, .int 0, .null, .null, .null, .null, .null, .null, .null, .null, .null]) hx hb hml hown hts hK hZ hN hO hP hD hS hA hAz hl.1 14 (by decide) (by decide) rfl tyX4 tyX4_ok (by decide) (mm_tw1 177 rfl rfl) (mm_tw1 90 rfl rfl) (mm_tw1 6 rfl rfl) (mt_Plan l D cy g z0) (mm_tw1 93 rfl rfl) rfl rfl (mm_tw1 92 rfl rfl) (Or.inr (mm_tn1 178 rfl rfl)) ⟨by decide +kernel, by decide +kernel, by decide +kernel⟩ ⟨Nat.le_of_ble_eq_true rfl, Nat.le_of_ble_eq_true rfl⟩ (Nat.le_of_ble_eq_true rfl) (Nat.le_of_ble_eq_true rfl) (by simp [Value.category]) dk6_5 dk6_8 dk6_9 (fun r5 H locs hP hD hS => ?_)
  have hP : va_P D vwCl ((a, .inr (6, [.null, .null, .null, .int 0])) :: (nw 10 r5 (ce_Plan cy g r5))) H := hP
  have hD : va_D A ((a, .inr (6, [.null, .null, .null, .int 0])) :: (nw 10 r5 (ce_Plan cy g r5))) := hD
  refine va_putF (D := D) (ci := 6) (v := .ref (r5 0)) (C := RX6) (T := TX6) (N := 4) hx hb hts mm_cw16 tyX6 tyX6_ok nmX6 hown hK hP hD hS 0 rfl rfl 0 (by decide) (hts _ (mm_tw2 10 rfl rfl)) (fun _ w => w) rfl hin rfl (tyX6_ok 0 (by decide)) rfl rfl (Nat.le_of_ble_eq_true rfl) dk6_12 (fun H locs hP hD hS => ?_)
  have hP : va_P D vwCl ((a, .inr (6, [.ref (r5 0), .null, .null, .int 0])) :: (nw 10 r5 (ce_Plan cy g r5))) H := hP
  have hD : va_D A ((a, .inr (6, [.ref (r5 0), .null, .null, .int 0])) :: (nw 10 r5 (ce_Plan cy g r5))) := hD
  refine lv_aload_n hx hb dk6_15 rfl (lv_at hl 0 rfl) ?_
  refine mk_obj (host := "HiccupTown") (nM := 1) (f := 1) (n := 3) (S := 20) (ce := ce_Moment cy g) (fs := [.int 0, .int 0, .int 0, .int 0, .int 0, .int 0, .null, .null, .null]) hx hb hml hown hts hK hZ hN hO hP hD hS hA hAz hl.1 12 (by decide) (by decide) rfl tyX2 tyX2_ok (by decide) (mm_tw1 179 rfl rfl) (mm_tw1 180 rfl rfl) (mm_tw1 8 rfl rfl) (mt_Moment l D cy g z0) (mm_tw1 183 rfl rfl) rfl rfl (mm_tw1 182 rfl rfl) (Or.inr (mm_tn1 181 rfl rfl)) ⟨by decide +kernel, by decide +kernel, by decide +kernel⟩ ⟨Nat.le_of_ble_eq_true rfl, Nat.le_of_ble_eq_true rfl⟩ (Nat.le_of_ble_eq_true rfl) (Nat.le_of_ble_eq_true rfl) (by simp [Value.category]) dk6_16 dk6_19 dk6_20 (fun r16 H locs hP hD hS => ?_)
  have hP : va_P D vwCl ((a, .inr (6, [.ref (r5 0), .null, .null, .int 0])) :: (nw 10 r5 (ce_Plan cy g r5) ++ nw 4 r16 (ce_Moment cy g r16))) H := hP
  have hD : va_D A ((a, .inr (6, [.ref (r5 0), .null, .null, .int 0])) :: (nw 10 r5 (ce_Plan cy g r5) ++ nw 4 r16 (ce_Moment cy g r16))) := hD
  refine va_putF (D := D) (ci := 6) (v := .ref (r16 0)) (C := RX6) (T := TX6) (N := 4) hx hb hts mm_cw16 tyX6 tyX6_ok nmX6 hown hK hP hD hS 0 rfl rfl 1 (by decide) (hts _ (mm_tw2 12 rfl rfl)) (fun _ w => w) rfl hin rfl (tyX6_ok 1 (by decide)) rfl rfl (Nat.le_of_ble_eq_true rfl) dk6_23 (fun H locs hP hD hS => ?_)
  have hP : va_P D vwCl ((a, .inr (6, [.ref (r5 0), .ref (r16 0), .null, .int 0])) :: (nw 10 r5 (ce_Plan cy g r5) ++ nw 4 r16 (ce_Moment cy g r16))) H := hP
  have hD : va_D A ((a, .inr (6, [.ref (r5 0), .ref (r16 0), .null, .int 0])) :: (nw 10 r5 (ce_Plan cy g r5) ++ nw 4 r16 (ce_Moment cy g r16))) := hD
  refine lv_aload_n hx hb dk6_26 rfl (lv_at hl 0 rfl) ?_
  refine mk_obj (host := "HiccupTown") (nM := 1) (f := 1) (n := 3) (S := 120) (ce := ce_Sentence cy g) (fs := [.null, .null, .null, .int 0, .int 0]) hx hb hml hown hts hK hZ hN hO hP hD hS hA hAz hl.1 17 (by decide) (by decide) rfl tyX7 tyX7_ok (by decide) (mm_tw1 225 rfl rfl) (mm_tw1 226 rfl rfl) (mm_tw1 9 rfl rfl) (mt_Sentence l D cy g z0) (mm_tw1 229 rfl rfl) rfl rfl (mm_tw1 228 rfl rfl) (Or.inr (mm_tn1 227 rfl rfl)) ⟨by decide +kernel, by decide +kernel, by decide +kernel⟩ ⟨Nat.le_of_ble_eq_true rfl, Nat.le_of_ble_eq_true rfl⟩ (Nat.le_of_ble_eq_true rfl) (Nat.le_of_ble_eq_true rfl) (by simp [Value.category]) dk6_27 dk6_30 dk6_31 (fun r27 H locs hP hD hS => ?_)
  have hP : va_P D vwCl ((a, .inr (6, [.ref (r5 0), .ref (r16 0), .null, .int 0])) :: (nw 10 r5 (ce_Plan cy g r5) ++ nw 4 r16 (ce_Moment cy g r16) ++ nw 4 r27 (ce_Sentence cy g r27))) H := hP
  have hD : va_D A ((a, .inr (6, [.ref (r5 0), .ref (r16 0), .null, .int 0])) :: (nw 10 r5 (ce_Plan cy g r5) ++ nw 4 r16 (ce_Moment cy g r16) ++ nw 4 r27 (ce_Sentence cy g r27))) := hD
  refine va_putF (D := D) (ci := 6) (v := .ref (r27 0)) (C := RX6) (T := TX6) (N := 4) hx hb hts mm_cw16 tyX6 tyX6_ok nmX6 hown hK hP hD hS 0 rfl rfl 2 (by decide) (hts _ (mm_tw2 14 rfl rfl)) (fun _ w => w) rfl hin rfl (tyX6_ok 2 (by decide)) rfl rfl (Nat.le_of_ble_eq_true rfl) dk6_34 (fun H locs hP hD hS => ?_)
  have hP : va_P D vwCl ((a, .inr (6, [.ref (r5 0), .ref (r16 0), .ref (r27 0), .int 0])) :: (nw 10 r5 (ce_Plan cy g r5) ++ nw 4 r16 (ce_Moment cy g r16) ++ nw 4 r27 (ce_Sentence cy g r27))) H := hP
  have hD : va_D A ((a, .inr (6, [.ref (r5 0), .ref (r16 0), .ref (r27 0), .int 0])) :: (nw 10 r5 (ce_Plan cy g r5) ++ nw 4 r16 (ce_Moment cy g r16) ++ nw 4 r27 (ce_Sentence cy g r27))) := hD
  have hP9 : va_P D vwCl (nw 19 (fun i => if i = 0 then a else if i < 11 then r5 (i - 1) else if i < 15 then r16 (i - 11) else if i < 19 then r27 (i - 15) else 0) (ce_Scene cy g (fun i => if i = 0 then a else if i < 11 then r5 (i - 1) else if i < 15 then r16 (i - 11) else if i < 19 then r27 (i - 15) else 0))) H := hP
  have hD9 : va_D A (nw 19 (fun i => if i = 0 then a else if i < 11 then r5 (i - 1) else if i < 15 then r16 (i - 11) else if i < 19 then r27 (i - 15) else 0) (ce_Scene cy g (fun i => if i = 0 then a else if i < 11 then r5 (i - 1) else if i < 15 then r16 (i - 11) else if i < 19 then r27 (i - 15) else 0))) := hD
  refine W.widen (k := 18) (n := 239) (Nat.le_of_ble_eq_true rfl) (Nat.le_of_ble_eq_true rfl) ?_
  exact W.vret hx hb hr (fun t ht hW => ⟨⟨(fun i => if i = 0 then a else if i < 11 then r5 (i - 1) else if i < 15 then r16 (i - 11) else if i < 19 then r27 (i - 15) else 0), rfl, rfl, by rw [ht]; exact hP9, hD9⟩, hS.F ht⟩) hS.2.2 dk6_37
theorem dk3_0 : decode cX3_init 0 = .ok (.aload_n 0, 1) := by decide +kernel
theorem dk3_1 : decode cX3_init 1 = .ok (.invokespecial 3, 3) := by decide +kernel
theorem dk3_4 : decode cX3_init 4 = .ok (.aload_n 0, 1) := by decide +kernel
theorem dk3_5 : decode cX3_init 5 = .ok (.bipush 8, 2) := by decide +kernel
theorem dk3_7 : decode cX3_init 7 = .ok (.anewarray 11, 3) := by decide +kernel
theorem dk3_10 : decode cX3_init 10 = .ok (.putfield 13, 3) := by decide +kernel
theorem dk3_13 : decode cX3_init 13 = .ok (.iconst 0, 1) := by decide +kernel
theorem dk3_14 : decode cX3_init 14 = .ok (.istore_n 1, 1) := by decide +kernel
theorem dk3_15 : decode cX3_init 15 = .ok (.iload_n 1, 1) := by decide +kernel
theorem dk3_16 : decode cX3_init 16 = .ok (.bipush 8, 2) := by decide +kernel
theorem dk3_18 : decode cX3_init 18 = .ok (.if_icmp .ge 22, 3) := by decide +kernel
theorem dk3_21 : decode cX3_init 21 = .ok (.aload_n 0, 1) := by decide +kernel
theorem dk3_22 : decode cX3_init 22 = .ok (.getfield 13, 3) := by decide +kernel
theorem dk3_25 : decode cX3_init 25 = .ok (.iload_n 1, 1) := by decide +kernel
theorem dk3_26 : decode cX3_init 26 = .ok (.new 11, 3) := by decide +kernel
theorem dk3_29 : decode cX3_init 29 = .ok (.dup, 1) := by decide +kernel
theorem dk3_30 : decode cX3_init 30 = .ok (.invokespecial 17, 3) := by decide +kernel
theorem dk3_33 : decode cX3_init 33 = .ok (.aastore, 1) := by decide +kernel
theorem dk3_34 : decode cX3_init 34 = .ok (.iinc 1 1, 3) := by decide +kernel
theorem dk3_37 : decode cX3_init 37 = .ok (.goto (-22), 3) := by decide +kernel
theorem dk3_40 : decode cX3_init 40 = .ok (.return_, 1) := by decide +kernel
def ce_Past (cy : Nat → ClassId) (g : Nat → Nat → Nat) (r : Nat → Nat) (o : Nat) : va_E := if o = 0 then .inr (3, [.ref (r 1), .int 0, .int 0]) else if o = 1 then .inl (cy 5, 8, .inr (.inr (.inr (.inr (va_up (va_up (va_up (va_up (va_up (va_up (va_up (va_up (fun _ => none) (0 : Int32).toNatClampNeg (some (r 2))) (1 : Int32).toNatClampNeg (some (r 6))) (2 : Int32).toNatClampNeg (some (r 10))) (3 : Int32).toNatClampNeg (some (r 14))) (4 : Int32).toNatClampNeg (some (r 18))) (5 : Int32).toNatClampNeg (some (r 22))) (6 : Int32).toNatClampNeg (some (r 26))) (7 : Int32).toNatClampNeg (some (r 30))))))) else if o < 6 then ce_Moment cy g (fun i => r (2 + i)) (o - 2) else if o < 10 then ce_Moment cy g (fun i => r (6 + i)) (o - 6) else if o < 14 then ce_Moment cy g (fun i => r (10 + i)) (o - 10) else if o < 18 then ce_Moment cy g (fun i => r (14 + i)) (o - 14) else if o < 22 then ce_Moment cy g (fun i => r (18 + i)) (o - 18) else if o < 26 then ce_Moment cy g (fun i => r (22 + i)) (o - 22) else if o < 30 then ce_Moment cy g (fun i => r (26 + i)) (o - 26) else if o < 34 then ce_Moment cy g (fun i => r (30 + i)) (o - 30) else .inr (0, [])
set_option maxHeartbeats 8000000 in
set_option maxRecDepth 100000 in
theorem mt_Past (l : Launch) (D : va_G) (cy : Nat → ClassId) (g : Nat → Nat → Nat) (z0 a sz : Nat) : Met l yX3_init (mk_w yX3_init cX3_init 2) (mk_rm 2 33 240) (va_Pc [.ref a] (mk_U D cy g z0 a sz (.inr (3, [.null, .int 0, .int 0])))) (mk_Q D 34 (ce_Past cy g) a (va_A [(a, .inr (3, [.null, .int 0, .int 0]))] sz)) 33 240 (va_A [(a, .inr (3, [.null, .int 0, .int 0]))] sz) := by
  refine Met.ofW (cc := cX3_init) (maxL := 2) (ret := none) (by decide +kernel) rfl ?_
  intro p e s m args below meth c s₁ B hml hv
  obtain ⟨rfl, hsz, hP, hK, hZ, hN, hO, hza, hzs⟩ := hv
  have hx := B.exec
  have hb := B.bytes
  have hr := B.returns
  have hts := fun w hw => atoms_spec (ws := mk_w yX3_init cX3_init 2) B.pre w (List.mem_cons_of_mem _ hw)
  have hown : s.vm.findClass RX3 = some m.cls := findClass_of_methodNamed B.named
  have hlocks := B.notSynchronized
  have hin : meth.name = "<init>" := (name_of_methodNamed B.named B.method).1
  subst hsz
  have hD := mk_D1 (a := a) (sz := s.heap.size) (b := .inr (3, [.null, .int 0, .int 0]))
  have hAz : ∀ q, va_A [(a, .inr (3, [.null, .int 0, .int 0]))] s.heap.size q → z0 ≤ q := fun q h => by
    rcases mk_A1.mp h with h | h <;> omega
  generalize hAe : va_A [(a, .inr (3, [.null, .int 0, .int 0]))] s.heap.size = A at hD hAz ⊢
  have hA : ∀ q : Nat, s.heap.size ≤ q → A q := fun q h => by rw [← hAe]; exact Or.inr h
  have hS : va_S A s.heap s.heap [] := va_S.rf
  have hl := lv_entry ([.ref a]) (n := 2) (Nat.le_of_ble_eq_true rfl)
  rw [lg_entry_eq]
  generalize (lg_sl ([.ref a]) ++ List.replicate (2 - (lg_sl ([.ref a])).length) Slot.unset).toArray = ls at hl ⊢
  have hl : lv_has ls 2 [(0, .ref a)] := hl
  have hP : va_P D vwCl ((a, .inr (3, [.null, .int 0, .int 0])) :: ([])) s.heap := hP
  refine lv_aload_n hx hb dk3_0 rfl (lv_at hl 0 rfl) ?_
  refine W.objInit hx hb hown (hts _ (mm_tw2 32 rfl rfl)) (hts _ (mm_tw1 31 rfl rfl)) (hts _ (mm_tw1 32 rfl rfl)) rfl (by rw [hml]; exact hl.1) rfl dk3_1 (Nat.le_of_ble_eq_true rfl) (Nat.le_of_ble_eq_true rfl) ?_
  refine W.eq (g2 := F0 m 4 ls []) rfl ?_
  refine lv_aload_n hx hb dk3_4 rfl (lv_at hl 0 rfl) ?_
  refine lv_bipush (v := 8) hx hb dk3_5 (by decide) ?_
  refine va_newq hx hb hown (hts _ (mm_tw2 33 rfl rfl)) (hO (.object "HiccupTown$Moment") (by simp)) hK hP hD hS hA (N' := 8) (by decide) (by decide) (by decide) (Nat.le_of_ble_eq_true rfl) (Nat.le_of_ble_eq_true rfl) dk3_7 (fun q7 cA H hK9 hP hD hS => ?_)
  have ec := mk_cAo (c := 5) (by decide) rfl hK hK9
  subst ec
  have hP : va_P D vwCl ((a, .inr (3, [.null, .int 0, .int 0])) :: ([(q7, .inl (cy 5, 8, .inr (.inr (.inr (.inr fun _ => none)))))])) H := hP
  have hD : va_D A ((a, .inr (3, [.null, .int 0, .int 0])) :: ([(q7, .inl (cy 5, 8, .inr (.inr (.inr (.inr fun _ => none)))))])) := hD
  refine va_putF (D := D) (ci := 3) (v := .ref q7) (C := RX3) (T := TX3) (N := 3) hx hb hts mm_cw13 tyX3 tyX3_ok nmX3 hown hK hP hD hS 0 rfl rfl 0 (by decide) (hts _ (mm_tw2 36 rfl rfl)) (fun _ w => w) rfl hin rfl (tyX3_ok 0 (by decide)) rfl rfl (Nat.le_of_ble_eq_true rfl) dk3_10 (fun H locs hP hD hS => ?_)
  have hP : va_P D vwCl ((a, .inr (3, [.ref q7, .int 0, .int 0])) :: ([(q7, .inl (cy 5, 8, .inr (.inr (.inr (.inr fun _ => none)))))])) H := hP
  have hD : va_D A ((a, .inr (3, [.ref q7, .int 0, .int 0])) :: ([(q7, .inl (cy 5, 8, .inr (.inr (.inr (.inr fun _ => none)))))])) := hD
  refine lv_iconst (v := 0) hx hb dk3_13 (by decide) ?_
  refine lv_istore_n hx hb dk3_14 rfl hl (by decide) (lv' := [(1, .int 0), (0, .ref a)]) rfl (fun ls hl => ?_)
  refine lv_iload_n hx hb dk3_15 rfl (lv_at hl 0 rfl) ?_
  refine lv_bipush (v := 8) hx hb dk3_16 (by decide) ?_
  refine lv_icmp_ge (tgt := 40) hx hb dk3_18 (by decide) (fun w => absurd w (by decide)) (fun _ => ?_)
  refine lv_aload_n hx hb dk3_21 rfl (lv_at hl 1 rfl) ?_
  refine va_get (D := D) (ci := 3) (v := .ref q7) (C := RX3) (T := TX3) (N := 3) hx hb hts mm_cw13 hown hK hP 0 rfl rfl 0 (by decide) (hts _ (mm_tw2 36 rfl rfl)) (fun _ w => w) rfl dk3_22 ?_
  refine lv_iload_n hx hb dk3_25 rfl (lv_at hl 0 rfl) ?_
  refine mk_obj (host := "HiccupTown") (nM := 1) (f := 1) (n := 3) (S := 20) (ce := ce_Moment cy g) (fs := [.int 0, .int 0, .int 0, .int 0, .int 0, .int 0, .null, .null, .null]) hx hb hml hown hts hK hZ hN hO hP hD hS hA hAz hl.1 12 (by decide) (by decide) rfl tyX2 tyX2_ok (by decide) (mm_tw2 33 rfl rfl) (mm_tw1 180 rfl rfl) (mm_tw1 8 rfl rfl) (mt_Moment l D cy g z0) (mm_tw1 183 rfl rfl) rfl rfl (mm_tw1 182 rfl rfl) (Or.inr (mm_tn2 35 rfl rfl)) ⟨by decide +kernel, by decide +kernel, by decide +kernel⟩ ⟨Nat.le_of_ble_eq_true rfl, Nat.le_of_ble_eq_true rfl⟩ (Nat.le_of_ble_eq_true rfl) (Nat.le_of_ble_eq_true rfl) (by simp [Value.category]) dk3_26 dk3_29 dk3_30 (fun r26 H locs hP hD hS => ?_)
  have hP : va_P D vwCl ((a, .inr (3, [.ref q7, .int 0, .int 0])) :: ([(q7, .inl (cy 5, 8, .inr (.inr (.inr (.inr fun _ => none)))))] ++ nw 4 r26 (ce_Moment cy g r26))) H := hP
  have hD : va_D A ((a, .inr (3, [.ref q7, .int 0, .int 0])) :: ([(q7, .inl (cy 5, 8, .inr (.inr (.inr (.inr fun _ => none)))))] ++ nw 4 r26 (ce_Moment cy g r26))) := hD
  refine va_astq hx hb hK hP hD hS 1 5 2 2 rfl (mm_tys_get (by decide)) rfl rfl (by unfold vp_in; decide) dk3_33 (fun H locs hP hD hS => ?_)
  have hP : va_P D vwCl ((a, .inr (3, [.ref q7, .int 0, .int 0])) :: ([(q7, .inl (cy 5, 8, .inr (.inr (.inr (.inr (va_up (fun _ => none) (0 : Int32).toNatClampNeg (some (r26 0))))))))] ++ nw 4 r26 (ce_Moment cy g r26))) H := hP
  have hD : va_D A ((a, .inr (3, [.ref q7, .int 0, .int 0])) :: ([(q7, .inl (cy 5, 8, .inr (.inr (.inr (.inr (va_up (fun _ => none) (0 : Int32).toNatClampNeg (some (r26 0))))))))] ++ nw 4 r26 (ce_Moment cy g r26))) := hD
  refine lv_iinc (k := 0) (v := 1) hx hb dk3_34 hl rfl (by decide) (by decide) (lv' := [(1, .int 1), (0, .ref a)]) rfl (fun ls hl => ?_)
  refine lv_goto (tgt := 15) hx hb dk3_37 (by decide) ?_
  refine lv_iload_n hx hb dk3_15 rfl (lv_at hl 0 rfl) ?_
  refine lv_bipush (v := 8) hx hb dk3_16 (by decide) ?_
  refine lv_icmp_ge (tgt := 40) hx hb dk3_18 (by decide) (fun w => absurd w (by decide)) (fun _ => ?_)
  refine lv_aload_n hx hb dk3_21 rfl (lv_at hl 1 rfl) ?_
  refine va_get (D := D) (ci := 3) (v := .ref q7) (C := RX3) (T := TX3) (N := 3) hx hb hts mm_cw13 hown hK hP 0 rfl rfl 0 (by decide) (hts _ (mm_tw2 36 rfl rfl)) (fun _ w => w) rfl dk3_22 ?_
  refine lv_iload_n hx hb dk3_25 rfl (lv_at hl 0 rfl) ?_
  refine mk_obj (host := "HiccupTown") (nM := 1) (f := 1) (n := 3) (S := 20) (ce := ce_Moment cy g) (fs := [.int 0, .int 0, .int 0, .int 0, .int 0, .int 0, .null, .null, .null]) hx hb hml hown hts hK hZ hN hO hP hD hS hA hAz hl.1 12 (by decide) (by decide) rfl tyX2 tyX2_ok (by decide) (mm_tw2 33 rfl rfl) (mm_tw1 180 rfl rfl) (mm_tw1 8 rfl rfl) (mt_Moment l D cy g z0) (mm_tw1 183 rfl rfl) rfl rfl (mm_tw1 182 rfl rfl) (Or.inr (mm_tn2 35 rfl rfl)) ⟨by decide +kernel, by decide +kernel, by decide +kernel⟩ ⟨Nat.le_of_ble_eq_true rfl, Nat.le_of_ble_eq_true rfl⟩ (Nat.le_of_ble_eq_true rfl) (Nat.le_of_ble_eq_true rfl) (by simp [Value.category]) dk3_26 dk3_29 dk3_30 (fun r1026 H locs hP hD hS => ?_)
  have hP : va_P D vwCl ((a, .inr (3, [.ref q7, .int 0, .int 0])) :: ([(q7, .inl (cy 5, 8, .inr (.inr (.inr (.inr (va_up (fun _ => none) (0 : Int32).toNatClampNeg (some (r26 0))))))))] ++ nw 4 r26 (ce_Moment cy g r26) ++ nw 4 r1026 (ce_Moment cy g r1026))) H := hP
  have hD : va_D A ((a, .inr (3, [.ref q7, .int 0, .int 0])) :: ([(q7, .inl (cy 5, 8, .inr (.inr (.inr (.inr (va_up (fun _ => none) (0 : Int32).toNatClampNeg (some (r26 0))))))))] ++ nw 4 r26 (ce_Moment cy g r26) ++ nw 4 r1026 (ce_Moment cy g r1026))) := hD
  refine va_astq hx hb hK hP hD hS 1 5 6 2 rfl (mm_tys_get (by decide)) rfl rfl (by unfold vp_in; decide) dk3_33 (fun H locs hP hD hS => ?_)
  have hP : va_P D vwCl ((a, .inr (3, [.ref q7, .int 0, .int 0])) :: ([(q7, .inl (cy 5, 8, .inr (.inr (.inr (.inr (va_up (va_up (fun _ => none) (0 : Int32).toNatClampNeg (some (r26 0))) (1 : Int32).toNatClampNeg (some (r1026 0))))))))] ++ nw 4 r26 (ce_Moment cy g r26) ++ nw 4 r1026 (ce_Moment cy g r1026))) H := hP
  have hD : va_D A ((a, .inr (3, [.ref q7, .int 0, .int 0])) :: ([(q7, .inl (cy 5, 8, .inr (.inr (.inr (.inr (va_up (va_up (fun _ => none) (0 : Int32).toNatClampNeg (some (r26 0))) (1 : Int32).toNatClampNeg (some (r1026 0))))))))] ++ nw 4 r26 (ce_Moment cy g r26) ++ nw 4 r1026 (ce_Moment cy g r1026))) := hD
  refine lv_iinc (k := 0) (v := 2) hx hb dk3_34 hl rfl (by decide) (by decide) (lv' := [(1, .int 2), (0, .ref a)]) rfl (fun ls hl => ?_)
  refine lv_goto (tgt := 15) hx hb dk3_37 (by decide) ?_
  refine lv_iload_n hx hb dk3_15 rfl (lv_at hl 0 rfl) ?_
  refine lv_bipush (v := 8) hx hb dk3_16 (by decide) ?_
  refine lv_icmp_ge (tgt := 40) hx hb dk3_18 (by decide) (fun w => absurd w (by decide)) (fun _ => ?_)
  refine lv_aload_n hx hb dk3_21 rfl (lv_at hl 1 rfl) ?_
  refine va_get (D := D) (ci := 3) (v := .ref q7) (C := RX3) (T := TX3) (N := 3) hx hb hts mm_cw13 hown hK hP 0 rfl rfl 0 (by decide) (hts _ (mm_tw2 36 rfl rfl)) (fun _ w => w) rfl dk3_22 ?_
  refine lv_iload_n hx hb dk3_25 rfl (lv_at hl 0 rfl) ?_
  refine mk_obj (host := "HiccupTown") (nM := 1) (f := 1) (n := 3) (S := 20) (ce := ce_Moment cy g) (fs := [.int 0, .int 0, .int 0, .int 0, .int 0, .int 0, .null, .null, .null]) hx hb hml hown hts hK hZ hN hO hP hD hS hA hAz hl.1 12 (by decide) (by decide) rfl tyX2 tyX2_ok (by decide) (mm_tw2 33 rfl rfl) (mm_tw1 180 rfl rfl) (mm_tw1 8 rfl rfl) (mt_Moment l D cy g z0) (mm_tw1 183 rfl rfl) rfl rfl (mm_tw1 182 rfl rfl) (Or.inr (mm_tn2 35 rfl rfl)) ⟨by decide +kernel, by decide +kernel, by decide +kernel⟩ ⟨Nat.le_of_ble_eq_true rfl, Nat.le_of_ble_eq_true rfl⟩ (Nat.le_of_ble_eq_true rfl) (Nat.le_of_ble_eq_true rfl) (by simp [Value.category]) dk3_26 dk3_29 dk3_30 (fun r2026 H locs hP hD hS => ?_)
  have hP : va_P D vwCl ((a, .inr (3, [.ref q7, .int 0, .int 0])) :: ([(q7, .inl (cy 5, 8, .inr (.inr (.inr (.inr (va_up (va_up (fun _ => none) (0 : Int32).toNatClampNeg (some (r26 0))) (1 : Int32).toNatClampNeg (some (r1026 0))))))))] ++ nw 4 r26 (ce_Moment cy g r26) ++ nw 4 r1026 (ce_Moment cy g r1026) ++ nw 4 r2026 (ce_Moment cy g r2026))) H := hP
  have hD : va_D A ((a, .inr (3, [.ref q7, .int 0, .int 0])) :: ([(q7, .inl (cy 5, 8, .inr (.inr (.inr (.inr (va_up (va_up (fun _ => none) (0 : Int32).toNatClampNeg (some (r26 0))) (1 : Int32).toNatClampNeg (some (r1026 0))))))))] ++ nw 4 r26 (ce_Moment cy g r26) ++ nw 4 r1026 (ce_Moment cy g r1026) ++ nw 4 r2026 (ce_Moment cy g r2026))) := hD
  refine va_astq hx hb hK hP hD hS 1 5 10 2 rfl (mm_tys_get (by decide)) rfl rfl (by unfold vp_in; decide) dk3_33 (fun H locs hP hD hS => ?_)
  have hP : va_P D vwCl ((a, .inr (3, [.ref q7, .int 0, .int 0])) :: ([(q7, .inl (cy 5, 8, .inr (.inr (.inr (.inr (va_up (va_up (va_up (fun _ => none) (0 : Int32).toNatClampNeg (some (r26 0))) (1 : Int32).toNatClampNeg (some (r1026 0))) (2 : Int32).toNatClampNeg (some (r2026 0))))))))] ++ nw 4 r26 (ce_Moment cy g r26) ++ nw 4 r1026 (ce_Moment cy g r1026) ++ nw 4 r2026 (ce_Moment cy g r2026))) H := hP
  have hD : va_D A ((a, .inr (3, [.ref q7, .int 0, .int 0])) :: ([(q7, .inl (cy 5, 8, .inr (.inr (.inr (.inr (va_up (va_up (va_up (fun _ => none) (0 : Int32).toNatClampNeg (some (r26 0))) (1 : Int32).toNatClampNeg (some (r1026 0))) (2 : Int32).toNatClampNeg (some (r2026 0))))))))] ++ nw 4 r26 (ce_Moment cy g r26) ++ nw 4 r1026 (ce_Moment cy g r1026) ++ nw 4 r2026 (ce_Moment cy g r2026))) := hD
  refine lv_iinc (k := 0) (v := 3) hx hb dk3_34 hl rfl (by decide) (by decide) (lv' := [(1, .int 3), (0, .ref a)]) rfl (fun ls hl => ?_)
  refine lv_goto (tgt := 15) hx hb dk3_37 (by decide) ?_
  refine lv_iload_n hx hb dk3_15 rfl (lv_at hl 0 rfl) ?_
  refine lv_bipush (v := 8) hx hb dk3_16 (by decide) ?_
  refine lv_icmp_ge (tgt := 40) hx hb dk3_18 (by decide) (fun w => absurd w (by decide)) (fun _ => ?_)
  refine lv_aload_n hx hb dk3_21 rfl (lv_at hl 1 rfl) ?_
  refine va_get (D := D) (ci := 3) (v := .ref q7) (C := RX3) (T := TX3) (N := 3) hx hb hts mm_cw13 hown hK hP 0 rfl rfl 0 (by decide) (hts _ (mm_tw2 36 rfl rfl)) (fun _ w => w) rfl dk3_22 ?_
  refine lv_iload_n hx hb dk3_25 rfl (lv_at hl 0 rfl) ?_
  refine mk_obj (host := "HiccupTown") (nM := 1) (f := 1) (n := 3) (S := 20) (ce := ce_Moment cy g) (fs := [.int 0, .int 0, .int 0, .int 0, .int 0, .int 0, .null, .null, .null]) hx hb hml hown hts hK hZ hN hO hP hD hS hA hAz hl.1 12 (by decide) (by decide) rfl tyX2 tyX2_ok (by decide) (mm_tw2 33 rfl rfl) (mm_tw1 180 rfl rfl) (mm_tw1 8 rfl rfl) (mt_Moment l D cy g z0) (mm_tw1 183 rfl rfl) rfl rfl (mm_tw1 182 rfl rfl) (Or.inr (mm_tn2 35 rfl rfl)) ⟨by decide +kernel, by decide +kernel, by decide +kernel⟩ ⟨Nat.le_of_ble_eq_true rfl, Nat.le_of_ble_eq_true rfl⟩ (Nat.le_of_ble_eq_true rfl) (Nat.le_of_ble_eq_true rfl) (by simp [Value.category]) dk3_26 dk3_29 dk3_30 (fun r3026 H locs hP hD hS => ?_)
  have hP : va_P D vwCl ((a, .inr (3, [.ref q7, .int 0, .int 0])) :: ([(q7, .inl (cy 5, 8, .inr (.inr (.inr (.inr (va_up (va_up (va_up (fun _ => none) (0 : Int32).toNatClampNeg (some (r26 0))) (1 : Int32).toNatClampNeg (some (r1026 0))) (2 : Int32).toNatClampNeg (some (r2026 0))))))))] ++ nw 4 r26 (ce_Moment cy g r26) ++ nw 4 r1026 (ce_Moment cy g r1026) ++ nw 4 r2026 (ce_Moment cy g r2026) ++ nw 4 r3026 (ce_Moment cy g r3026))) H := hP
  have hD : va_D A ((a, .inr (3, [.ref q7, .int 0, .int 0])) :: ([(q7, .inl (cy 5, 8, .inr (.inr (.inr (.inr (va_up (va_up (va_up (fun _ => none) (0 : Int32).toNatClampNeg (some (r26 0))) (1 : Int32).toNatClampNeg (some (r1026 0))) (2 : Int32).toNatClampNeg (some (r2026 0))))))))] ++ nw 4 r26 (ce_Moment cy g r26) ++ nw 4 r1026 (ce_Moment cy g r1026) ++ nw 4 r2026 (ce_Moment cy g r2026) ++ nw 4 r3026 (ce_Moment cy g r3026))) := hD
  refine va_astq hx hb hK hP hD hS 1 5 14 2 rfl (mm_tys_get (by decide)) rfl rfl (by unfold vp_in; decide) dk3_33 (fun H locs hP hD hS => ?_)
  have hP : va_P D vwCl ((a, .inr (3, [.ref q7, .int 0, .int 0])) :: ([(q7, .inl (cy 5, 8, .inr (.inr (.inr (.inr (va_up (va_up (va_up (va_up (fun _ => none) (0 : Int32).toNatClampNeg (some (r26 0))) (1 : Int32).toNatClampNeg (some (r1026 0))) (2 : Int32).toNatClampNeg (some (r2026 0))) (3 : Int32).toNatClampNeg (some (r3026 0))))))))] ++ nw 4 r26 (ce_Moment cy g r26) ++ nw 4 r1026 (ce_Moment cy g r1026) ++ nw 4 r2026 (ce_Moment cy g r2026) ++ nw 4 r3026 (ce_Moment cy g r3026))) H := hP
  have hD : va_D A ((a, .inr (3, [.ref q7, .int 0, .int 0])) :: ([(q7, .inl (cy 5, 8, .inr (.inr (.inr (.inr (va_up (va_up (va_up (va_up (fun _ => none) (0 : Int32).toNatClampNeg (some (r26 0))) (1 : Int32).toNatClampNeg (some (r1026 0))) (2 : Int32).toNatClampNeg (some (r2026 0))) (3 : Int32).toNatClampNeg (some (r3026 0))))))))] ++ nw 4 r26 (ce_Moment cy g r26) ++ nw 4 r1026 (ce_Moment cy g r1026) ++ nw 4 r2026 (ce_Moment cy g r2026) ++ nw 4 r3026 (ce_Moment cy g r3026))) := hD
  refine lv_iinc (k := 0) (v := 4) hx hb dk3_34 hl rfl (by decide) (by decide) (lv' := [(1, .int 4), (0, .ref a)]) rfl (fun ls hl => ?_)
  refine lv_goto (tgt := 15) hx hb dk3_37 (by decide) ?_
  refine lv_iload_n hx hb dk3_15 rfl (lv_at hl 0 rfl) ?_
  refine lv_bipush (v := 8) hx hb dk3_16 (by decide) ?_
  refine lv_icmp_ge (tgt := 40) hx hb dk3_18 (by decide) (fun w => absurd w (by decide)) (fun _ => ?_)
  refine lv_aload_n hx hb dk3_21 rfl (lv_at hl 1 rfl) ?_
  refine va_get (D := D) (ci := 3) (v := .ref q7) (C := RX3) (T := TX3) (N := 3) hx hb hts mm_cw13 hown hK hP 0 rfl rfl 0 (by decide) (hts _ (mm_tw2 36 rfl rfl)) (fun _ w => w) rfl dk3_22 ?_
  refine lv_iload_n hx hb dk3_25 rfl (lv_at hl 0 rfl) ?_
  refine mk_obj (host := "HiccupTown") (nM := 1) (f := 1) (n := 3) (S := 20) (ce := ce_Moment cy g) (fs := [.int 0, .int 0, .int 0, .int 0, .int 0, .int 0, .null, .null, .null]) hx hb hml hown hts hK hZ hN hO hP hD hS hA hAz hl.1 12 (by decide) (by decide) rfl tyX2 tyX2_ok (by decide) (mm_tw2 33 rfl rfl) (mm_tw1 180 rfl rfl) (mm_tw1 8 rfl rfl) (mt_Moment l D cy g z0) (mm_tw1 183 rfl rfl) rfl rfl (mm_tw1 182 rfl rfl) (Or.inr (mm_tn2 35 rfl rfl)) ⟨by decide +kernel, by decide +kernel, by decide +kernel⟩ ⟨Nat.le_of_ble_eq_true rfl, Nat.le_of_ble_eq_true rfl⟩ (Nat.le_of_ble_eq_true rfl) (Nat.le_of_ble_eq_true rfl) (by simp [Value.category]) dk3_26 dk3_29 dk3_30 (fun r4026 H locs hP hD hS => ?_)
  have hP : va_P D vwCl ((a, .inr (3, [.ref q7, .int 0, .int 0])) :: ([(q7, .inl (cy 5, 8, .inr (.inr (.inr (.inr (va_up (va_up (va_up (va_up (fun _ => none) (0 : Int32).toNatClampNeg (some (r26 0))) (1 : Int32).toNatClampNeg (some (r1026 0))) (2 : Int32).toNatClampNeg (some (r2026 0))) (3 : Int32).toNatClampNeg (some (r3026 0))))))))] ++ nw 4 r26 (ce_Moment cy g r26) ++ nw 4 r1026 (ce_Moment cy g r1026) ++ nw 4 r2026 (ce_Moment cy g r2026) ++ nw 4 r3026 (ce_Moment cy g r3026) ++ nw 4 r4026 (ce_Moment cy g r4026))) H := hP
  have hD : va_D A ((a, .inr (3, [.ref q7, .int 0, .int 0])) :: ([(q7, .inl (cy 5, 8, .inr (.inr (.inr (.inr (va_up (va_up (va_up (va_up (fun _ => none) (0 : Int32).toNatClampNeg (some (r26 0))) (1 : Int32).toNatClampNeg (some (r1026 0))) (2 : Int32).toNatClampNeg (some (r2026 0))) (3 : Int32).toNatClampNeg (some (r3026 0))))))))] ++ nw 4 r26 (ce_Moment cy g r26) ++ nw 4 r1026 (ce_Moment cy g r1026) ++ nw 4 r2026 (ce_Moment cy g r2026) ++ nw 4 r3026 (ce_Moment cy g r3026) ++ nw 4 r4026 (ce_Moment cy g r4026))) := hD
  refine va_astq hx hb hK hP hD hS 1 5 18 2 rfl (mm_tys_get (by decide)) rfl rfl (by unfold vp_in; decide) dk3_33 (fun H locs hP hD hS => ?_)
  have hP : va_P D vwCl ((a, .inr (3, [.ref q7, .int 0, .int 0])) :: ([(q7, .inl (cy 5, 8, .inr (.inr (.inr (.inr (va_up (va_up (va_up (va_up (va_up (fun _ => none) (0 : Int32).toNatClampNeg (some (r26 0))) (1 : Int32).toNatClampNeg (some (r1026 0))) (2 : Int32).toNatClampNeg (some (r2026 0))) (3 : Int32).toNatClampNeg (some (r3026 0))) (4 : Int32).toNatClampNeg (some (r4026 0))))))))] ++ nw 4 r26 (ce_Moment cy g r26) ++ nw 4 r1026 (ce_Moment cy g r1026) ++ nw 4 r2026 (ce_Moment cy g r2026) ++ nw 4 r3026 (ce_Moment cy g r3026) ++ nw 4 r4026 (ce_Moment cy g r4026))) H := hP
  have hD : va_D A ((a, .inr (3, [.ref q7, .int 0, .int 0])) :: ([(q7, .inl (cy 5, 8, .inr (.inr (.inr (.inr (va_up (va_up (va_up (va_up (va_up (fun _ => none) (0 : Int32).toNatClampNeg (some (r26 0))) (1 : Int32).toNatClampNeg (some (r1026 0))) (2 : Int32).toNatClampNeg (some (r2026 0))) (3 : Int32).toNatClampNeg (some (r3026 0))) (4 : Int32).toNatClampNeg (some (r4026 0))))))))] ++ nw 4 r26 (ce_Moment cy g r26) ++ nw 4 r1026 (ce_Moment cy g r1026) ++ nw 4 r2026 (ce_Moment cy g r2026) ++ nw 4 r3026 (ce_Moment cy g r3026) ++ nw 4 r4026 (ce_Moment cy g r4026))) := hD
  refine lv_iinc (k := 0) (v := 5) hx hb dk3_34 hl rfl (by decide) (by decide) (lv' := [(1, .int 5), (0, .ref a)]) rfl (fun ls hl => ?_)
  refine lv_goto (tgt := 15) hx hb dk3_37 (by decide) ?_
  refine lv_iload_n hx hb dk3_15 rfl (lv_at hl 0 rfl) ?_
  refine lv_bipush (v := 8) hx hb dk3_16 (by decide) ?_
  refine lv_icmp_ge (tgt := 40) hx hb dk3_18 (by decide) (fun w => absurd w (by decide)) (fun _ => ?_)
  refine lv_aload_n hx hb dk3_21 rfl (lv_at hl 1 rfl) ?_
  refine va_get (D := D) (ci := 3) (v := .ref q7) (C := RX3) (T := TX3) (N := 3) hx hb hts mm_cw13 hown hK hP 0 rfl rfl 0 (by decide) (hts _ (mm_tw2 36 rfl rfl)) (fun _ w => w) rfl dk3_22 ?_
  refine lv_iload_n hx hb dk3_25 rfl (lv_at hl 0 rfl) ?_
  refine mk_obj (host := "HiccupTown") (nM := 1) (f := 1) (n := 3) (S := 20) (ce := ce_Moment cy g) (fs := [.int 0, .int 0, .int 0, .int 0, .int 0, .int 0, .null, .null, .null]) hx hb hml hown hts hK hZ hN hO hP hD hS hA hAz hl.1 12 (by decide) (by decide) rfl tyX2 tyX2_ok (by decide) (mm_tw2 33 rfl rfl) (mm_tw1 180 rfl rfl) (mm_tw1 8 rfl rfl) (mt_Moment l D cy g z0) (mm_tw1 183 rfl rfl) rfl rfl (mm_tw1 182 rfl rfl) (Or.inr (mm_tn2 35 rfl rfl)) ⟨by decide +kernel, by decide +kernel, by decide +kernel⟩ ⟨Nat.le_of_ble_eq_true rfl, Nat.le_of_ble_eq_true rfl⟩ (Nat.le_of_ble_eq_true rfl) (Nat.le_of_ble_eq_true rfl) (by simp [Value.category]) dk3_26 dk3_29 dk3_30 (fun r5026 H locs hP hD hS => ?_)
  have hP : va_P D vwCl ((a, .inr (3, [.ref q7, .int 0, .int 0])) :: ([(q7, .inl (cy 5, 8, .inr (.inr (.inr (.inr (va_up (va_up (va_up (va_up (va_up (fun _ => none) (0 : Int32).toNatClampNeg (some (r26 0))) (1 : Int32).toNatClampNeg (some (r1026 0))) (2 : Int32).toNatClampNeg (some (r2026 0))) (3 : Int32).toNatClampNeg (some (r3026 0))) (4 : Int32).toNatClampNeg (some (r4026 0))))))))] ++ nw 4 r26 (ce_Moment cy g r26) ++ nw 4 r1026 (ce_Moment cy g r1026) ++ nw 4 r2026 (ce_Moment cy g r2026) ++ nw 4 r3026 (ce_Moment cy g r3026) ++ nw 4 r4026 (ce_Moment cy g r4026) ++ nw 4 r5026 (ce_Moment cy g r5026))) H := hP
  have hD : va_D A ((a, .inr (3, [.ref q7, .int 0, .int 0])) :: ([(q7, .inl (cy 5, 8, .inr (.inr (.inr (.inr (va_up (va_up (va_up (va_up (va_up (fun _ => none) (0 : Int32).toNatClampNeg (some (r26 0))) (1 : Int32).toNatClampNeg (some (r1026 0))) (2 : Int32).toNatClampNeg (some (r2026 0))) (3 : Int32).toNatClampNeg (some (r3026 0))) (4 : Int32).toNatClampNeg (some (r4026 0))))))))] ++ nw 4 r26 (ce_Moment cy g r26) ++ nw 4 r1026 (ce_Moment cy g r1026) ++ nw 4 r2026 (ce_Moment cy g r2026) ++ nw 4 r3026 (ce_Moment cy g r3026) ++ nw 4 r4026 (ce_Moment cy g r4026) ++ nw 4 r5026 (ce_Moment cy g r5026))) := hD
  refine va_astq hx hb hK hP hD hS 1 5 22 2 rfl (mm_tys_get (by decide)) rfl rfl (by unfold vp_in; decide) dk3_33 (fun H locs hP hD hS => ?_)
  have hP : va_P D vwCl ((a, .inr (3, [.ref q7, .int 0, .int 0])) :: ([(q7, .inl (cy 5, 8, .inr (.inr (.inr (.inr (va_up (va_up (va_up (va_up (va_up (va_up (fun _ => none) (0 : Int32).toNatClampNeg (some (r26 0))) (1 : Int32).toNatClampNeg (some (r1026 0))) (2 : Int32).toNatClampNeg (some (r2026 0))) (3 : Int32).toNatClampNeg (some (r3026 0))) (4 : Int32).toNatClampNeg (some (r4026 0))) (5 : Int32).toNatClampNeg (some (r5026 0))))))))] ++ nw 4 r26 (ce_Moment cy g r26) ++ nw 4 r1026 (ce_Moment cy g r1026) ++ nw 4 r2026 (ce_Moment cy g r2026) ++ nw 4 r3026 (ce_Moment cy g r3026) ++ nw 4 r4026 (ce_Moment cy g r4026) ++ nw 4 r5026 (ce_Moment cy g r5026))) H := hP
  have hD : va_D A ((a, .inr (3, [.ref q7, .int 0, .int 0])) :: ([(q7, .inl (cy 5, 8, .inr (.inr (.inr (.inr (va_up (va_up (va_up (va_up (va_up (va_up (fun _ => none) (0 : Int32).toNatClampNeg (some (r26 0))) (1 : Int32).toNatClampNeg (some (r1026 0))) (2 : Int32).toNatClampNeg (some (r2026 0))) (3 : Int32).toNatClampNeg (some (r3026 0))) (4 : Int32).toNatClampNeg (some (r4026 0))) (5 : Int32).toNatClampNeg (some (r5026 0))))))))] ++ nw 4 r26 (ce_Moment cy g r26) ++ nw 4 r1026 (ce_Moment cy g r1026) ++ nw 4 r2026 (ce_Moment cy g r2026) ++ nw 4 r3026 (ce_Moment cy g r3026) ++ nw 4 r4026 (ce_Moment cy g r4026) ++ nw 4 r5026 (ce_Moment cy g r5026))) := hD
  refine lv_iinc (k := 0) (v := 6) hx hb dk3_34 hl rfl (by decide) (by decide) (lv' := [(1, .int 6), (0, .ref a)]) rfl (fun ls hl => ?_)
  refine lv_goto (tgt := 15) hx hb dk3_37 (by decide) ?_
  refine lv_iload_n hx hb dk3_15 rfl (lv_at hl 0 rfl) ?_
  refine lv_bipush (v := 8) hx hb dk3_16 (by decide) ?_
  refine lv_icmp_ge (tgt := 40) hx hb dk3_18 (by decide) (fun w => absurd w (by decide)) (fun _ => ?_)
  refine lv_aload_n hx hb dk3_21 rfl (lv_at hl 1 rfl) ?_
  refine va_get (D := D) (ci := 3) (v := .ref q7) (C := RX3) (T := TX3) (N := 3) hx hb hts mm_cw13 hown hK hP 0 rfl rfl 0 (by decide) (hts _ (mm_tw2 36 rfl rfl)) (fun _ w => w) rfl dk3_22 ?_
  refine lv_iload_n hx hb dk3_25 rfl (lv_at hl 0 rfl) ?_
  refine mk_obj (host := "HiccupTown") (nM := 1) (f := 1) (n := 3) (S := 20) (ce := ce_Moment cy g) (fs := [.int 0, .int 0, .int 0, .int 0, .int 0, .int 0, .null, .null, .null]) hx hb hml hown hts hK hZ hN hO hP hD hS hA hAz hl.1 12 (by decide) (by decide) rfl tyX2 tyX2_ok (by decide) (mm_tw2 33 rfl rfl) (mm_tw1 180 rfl rfl) (mm_tw1 8 rfl rfl) (mt_Moment l D cy g z0) (mm_tw1 183 rfl rfl) rfl rfl (mm_tw1 182 rfl rfl) (Or.inr (mm_tn2 35 rfl rfl)) ⟨by decide +kernel, by decide +kernel, by decide +kernel⟩ ⟨Nat.le_of_ble_eq_true rfl, Nat.le_of_ble_eq_true rfl⟩ (Nat.le_of_ble_eq_true rfl) (Nat.le_of_ble_eq_true rfl) (by simp [Value.category]) dk3_26 dk3_29 dk3_30 (fun r6026 H locs hP hD hS => ?_)
  have hP : va_P D vwCl ((a, .inr (3, [.ref q7, .int 0, .int 0])) :: ([(q7, .inl (cy 5, 8, .inr (.inr (.inr (.inr (va_up (va_up (va_up (va_up (va_up (va_up (fun _ => none) (0 : Int32).toNatClampNeg (some (r26 0))) (1 : Int32).toNatClampNeg (some (r1026 0))) (2 : Int32).toNatClampNeg (some (r2026 0))) (3 : Int32).toNatClampNeg (some (r3026 0))) (4 : Int32).toNatClampNeg (some (r4026 0))) (5 : Int32).toNatClampNeg (some (r5026 0))))))))] ++ nw 4 r26 (ce_Moment cy g r26) ++ nw 4 r1026 (ce_Moment cy g r1026) ++ nw 4 r2026 (ce_Moment cy g r2026) ++ nw 4 r3026 (ce_Moment cy g r3026) ++ nw 4 r4026 (ce_Moment cy g r4026) ++ nw 4 r5026 (ce_Moment cy g r5026) ++ nw 4 r6026 (ce_Moment cy g r6026))) H := hP
  have hD : va_D A ((a, .inr (3, [.ref q7, .int 0, .int 0])) :: ([(q7, .inl (cy 5, 8, .inr (.inr (.inr (.inr (va_up (va_up (va_up (va_up (va_up (va_up (fun _ => none) (0 : Int32).toNatClampNeg (some (r26 0))) (1 : Int32).toNatClampNeg (some (r1026 0))) (2 : Int32).toNatClampNeg (some (r2026 0))) (3 : Int32).toNatClampNeg (some (r3026 0))) (4 : Int32).toNatClampNeg (some (r4026 0))) (5 : Int32).toNatClampNeg (some (r5026 0))))))))] ++ nw 4 r26 (ce_Moment cy g r26) ++ nw 4 r1026 (ce_Moment cy g r1026) ++ nw 4 r2026 (ce_Moment cy g r2026) ++ nw 4 r3026 (ce_Moment cy g r3026) ++ nw 4 r4026 (ce_Moment cy g r4026) ++ nw 4 r5026 (ce_Moment cy g r5026) ++ nw 4 r6026 (ce_Moment cy g r6026))) := hD
  refine va_astq hx hb hK hP hD hS 1 5 26 2 rfl (mm_tys_get (by decide)) rfl rfl (by unfold vp_in; decide) dk3_33 (fun H locs hP hD hS => ?_)
  have hP : va_P D vwCl ((a, .inr (3, [.ref q7, .int 0, .int 0])) :: ([(q7, .inl (cy 5, 8, .inr (.inr (.inr (.inr (va_up (va_up (va_up (va_up (va_up (va_up (va_up (fun _ => none) (0 : Int32).toNatClampNeg (some (r26 0))) (1 : Int32).toNatClampNeg (some (r1026 0))) (2 : Int32).toNatClampNeg (some (r2026 0))) (3 : Int32).toNatClampNeg (some (r3026 0))) (4 : Int32).toNatClampNeg (some (r4026 0))) (5 : Int32).toNatClampNeg (some (r5026 0))) (6 : Int32).toNatClampNeg (some (r6026 0))))))))] ++ nw 4 r26 (ce_Moment cy g r26) ++ nw 4 r1026 (ce_Moment cy g r1026) ++ nw 4 r2026 (ce_Moment cy g r2026) ++ nw 4 r3026 (ce_Moment cy g r3026) ++ nw 4 r4026 (ce_Moment cy g r4026) ++ nw 4 r5026 (ce_Moment cy g r5026) ++ nw 4 r6026 (ce_Moment cy g r6026))) H := hP
  have hD : va_D A ((a, .inr (3, [.ref q7, .int 0, .int 0])) :: ([(q7, .inl (cy 5, 8, .inr (.inr (.inr (.inr (va_up (va_up (va_up (va_up (va_up (va_up (va_up (fun _ => none) (0 : Int32).toNatClampNeg (some (r26 0))) (1 : Int32).toNatClampNeg (some (r1026 0))) (2 : Int32).toNatClampNeg (some (r2026 0))) (3 : Int32).toNatClampNeg (some (r3026 0))) (4 : Int32).toNatClampNeg (some (r4026 0))) (5 : Int32).toNatClampNeg (some (r5026 0))) (6 : Int32).toNatClampNeg (some (r6026 0))))))))] ++ nw 4 r26 (ce_Moment cy g r26) ++ nw 4 r1026 (ce_Moment cy g r1026) ++ nw 4 r2026 (ce_Moment cy g r2026) ++ nw 4 r3026 (ce_Moment cy g r3026) ++ nw 4 r4026 (ce_Moment cy g r4026) ++ nw 4 r5026 (ce_Moment cy g r5026) ++ nw 4 r6026 (ce_Moment cy g r6026))) := hD
  refine lv_iinc (k := 0) (v := 7) hx hb dk3_34 hl rfl (by decide) (by decide) (lv' := [(1, .int 7), (0, .ref a)]) rfl (fun ls hl => ?_)
  refine lv_goto (tgt := 15) hx hb dk3_37 (by decide) ?_
  refine lv_iload_n hx hb dk3_15 rfl (lv_at hl 0 rfl) ?_
  refine lv_bipush (v := 8) hx hb dk3_16 (by decide) ?_
  refine lv_icmp_ge (tgt := 40) hx hb dk3_18 (by decide) (fun w => absurd w (by decide)) (fun _ => ?_)
  refine lv_aload_n hx hb dk3_21 rfl (lv_at hl 1 rfl) ?_
  refine va_get (D := D) (ci := 3) (v := .ref q7) (C := RX3) (T := TX3) (N := 3) hx hb hts mm_cw13 hown hK hP 0 rfl rfl 0 (by decide) (hts _ (mm_tw2 36 rfl rfl)) (fun _ w => w) rfl dk3_22 ?_
  refine lv_iload_n hx hb dk3_25 rfl (lv_at hl 0 rfl) ?_
  refine mk_obj (host := "HiccupTown") (nM := 1) (f := 1) (n := 3) (S := 20) (ce := ce_Moment cy g) (fs := [.int 0, .int 0, .int 0, .int 0, .int 0, .int 0, .null, .null, .null]) hx hb hml hown hts hK hZ hN hO hP hD hS hA hAz hl.1 12 (by decide) (by decide) rfl tyX2 tyX2_ok (by decide) (mm_tw2 33 rfl rfl) (mm_tw1 180 rfl rfl) (mm_tw1 8 rfl rfl) (mt_Moment l D cy g z0) (mm_tw1 183 rfl rfl) rfl rfl (mm_tw1 182 rfl rfl) (Or.inr (mm_tn2 35 rfl rfl)) ⟨by decide +kernel, by decide +kernel, by decide +kernel⟩ ⟨Nat.le_of_ble_eq_true rfl, Nat.le_of_ble_eq_true rfl⟩ (Nat.le_of_ble_eq_true rfl) (Nat.le_of_ble_eq_true rfl) (by simp [Value.category]) dk3_26 dk3_29 dk3_30 (fun r7026 H locs hP hD hS => ?_)
  have hP : va_P D vwCl ((a, .inr (3, [.ref q7, .int 0, .int 0])) :: ([(q7, .inl (cy 5, 8, .inr (.inr (.inr (.inr (va_up (va_up (va_up (va_up (va_up (va_up (va_up (fun _ => none) (0 : Int32).toNatClampNeg (some (r26 0))) (1 : Int32).toNatClampNeg (some (r1026 0))) (2 : Int32).toNatClampNeg (some (r2026 0))) (3 : Int32).toNatClampNeg (some (r3026 0))) (4 : Int32).toNatClampNeg (some (r4026 0))) (5 : Int32).toNatClampNeg (some (r5026 0))) (6 : Int32).toNatClampNeg (some (r6026 0))))))))] ++ nw 4 r26 (ce_Moment cy g r26) ++ nw 4 r1026 (ce_Moment cy g r1026) ++ nw 4 r2026 (ce_Moment cy g r2026) ++ nw 4 r3026 (ce_Moment cy g r3026) ++ nw 4 r4026 (ce_Moment cy g r4026) ++ nw 4 r5026 (ce_Moment cy g r5026) ++ nw 4 r6026 (ce_Moment cy g r6026) ++ nw 4 r7026 (ce_Moment cy g r7026))) H := hP
  have hD : va_D A ((a, .inr (3, [.ref q7, .int 0, .int 0])) :: ([(q7, .inl (cy 5, 8, .inr (.inr (.inr (.inr (va_up (va_up (va_up (va_up (va_up (va_up (va_up (fun _ => none) (0 : Int32).toNatClampNeg (some (r26 0))) (1 : Int32).toNatClampNeg (some (r1026 0))) (2 : Int32).toNatClampNeg (some (r2026 0))) (3 : Int32).toNatClampNeg (some (r3026 0))) (4 : Int32).toNatClampNeg (some (r4026 0))) (5 : Int32).toNatClampNeg (some (r5026 0))) (6 : Int32).toNatClampNeg (some (r6026 0))))))))] ++ nw 4 r26 (ce_Moment cy g r26) ++ nw 4 r1026 (ce_Moment cy g r1026) ++ nw 4 r2026 (ce_Moment cy g r2026) ++ nw 4 r3026 (ce_Moment cy g r3026) ++ nw 4 r4026 (ce_Moment cy g r4026) ++ nw 4 r5026 (ce_Moment cy g r5026) ++ nw 4 r6026 (ce_Moment cy g r6026) ++ nw 4 r7026 (ce_Moment cy g r7026))) := hD
  refine va_astq hx hb hK hP hD hS 1 5 30 2 rfl (mm_tys_get (by decide)) rfl rfl (by unfold vp_in; decide) dk3_33 (fun H locs hP hD hS => ?_)
  have hP : va_P D vwCl ((a, .inr (3, [.ref q7, .int 0, .int 0])) :: ([(q7, .inl (cy 5, 8, .inr (.inr (.inr (.inr (va_up (va_up (va_up (va_up (va_up (va_up (va_up (va_up (fun _ => none) (0 : Int32).toNatClampNeg (some (r26 0))) (1 : Int32).toNatClampNeg (some (r1026 0))) (2 : Int32).toNatClampNeg (some (r2026 0))) (3 : Int32).toNatClampNeg (some (r3026 0))) (4 : Int32).toNatClampNeg (some (r4026 0))) (5 : Int32).toNatClampNeg (some (r5026 0))) (6 : Int32).toNatClampNeg (some (r6026 0))) (7 : Int32).toNatClampNeg (some (r7026 0))))))))] ++ nw 4 r26 (ce_Moment cy g r26) ++ nw 4 r1026 (ce_Moment cy g r1026) ++ nw 4 r2026 (ce_Moment cy g r2026) ++ nw 4 r3026 (ce_Moment cy g r3026) ++ nw 4 r4026 (ce_Moment cy g r4026) ++ nw 4 r5026 (ce_Moment cy g r5026) ++ nw 4 r6026 (ce_Moment cy g r6026) ++ nw 4 r7026 (ce_Moment cy g r7026))) H := hP
  have hD : va_D A ((a, .inr (3, [.ref q7, .int 0, .int 0])) :: ([(q7, .inl (cy 5, 8, .inr (.inr (.inr (.inr (va_up (va_up (va_up (va_up (va_up (va_up (va_up (va_up (fun _ => none) (0 : Int32).toNatClampNeg (some (r26 0))) (1 : Int32).toNatClampNeg (some (r1026 0))) (2 : Int32).toNatClampNeg (some (r2026 0))) (3 : Int32).toNatClampNeg (some (r3026 0))) (4 : Int32).toNatClampNeg (some (r4026 0))) (5 : Int32).toNatClampNeg (some (r5026 0))) (6 : Int32).toNatClampNeg (some (r6026 0))) (7 : Int32).toNatClampNeg (some (r7026 0))))))))] ++ nw 4 r26 (ce_Moment cy g r26) ++ nw 4 r1026 (ce_Moment cy g r1026) ++ nw 4 r2026 (ce_Moment cy g r2026) ++ nw 4 r3026 (ce_Moment cy g r3026) ++ nw 4 r4026 (ce_Moment cy g r4026) ++ nw 4 r5026 (ce_Moment cy g r5026) ++ nw 4 r6026 (ce_Moment cy g r6026) ++ nw 4 r7026 (ce_Moment cy g r7026))) := hD
  refine lv_iinc (k := 0) (v := 8) hx hb dk3_34 hl rfl (by decide) (by decide) (lv' := [(1, .int 8), (0, .ref a)]) rfl (fun ls hl => ?_)
  refine lv_goto (tgt := 15) hx hb dk3_37 (by decide) ?_
  refine lv_iload_n hx hb dk3_15 rfl (lv_at hl 0 rfl) ?_
  refine lv_bipush (v := 8) hx hb dk3_16 (by decide) ?_
  refine lv_icmp_ge (tgt := 40) hx hb dk3_18 (by decide) (fun _ => ?_) (fun w => absurd (by decide) w)
  have hP9 : va_P D vwCl (nw 34 (fun i => if i = 0 then a else if i = 1 then q7 else if i < 6 then r26 (i - 2) else if i < 10 then r1026 (i - 6) else if i < 14 then r2026 (i - 10) else if i < 18 then r3026 (i - 14) else if i < 22 then r4026 (i - 18) else if i < 26 then r5026 (i - 22) else if i < 30 then r6026 (i - 26) else if i < 34 then r7026 (i - 30) else 0) (ce_Past cy g (fun i => if i = 0 then a else if i = 1 then q7 else if i < 6 then r26 (i - 2) else if i < 10 then r1026 (i - 6) else if i < 14 then r2026 (i - 10) else if i < 18 then r3026 (i - 14) else if i < 22 then r4026 (i - 18) else if i < 26 then r5026 (i - 22) else if i < 30 then r6026 (i - 26) else if i < 34 then r7026 (i - 30) else 0))) H := hP
  have hD9 : va_D A (nw 34 (fun i => if i = 0 then a else if i = 1 then q7 else if i < 6 then r26 (i - 2) else if i < 10 then r1026 (i - 6) else if i < 14 then r2026 (i - 10) else if i < 18 then r3026 (i - 14) else if i < 22 then r4026 (i - 18) else if i < 26 then r5026 (i - 22) else if i < 30 then r6026 (i - 26) else if i < 34 then r7026 (i - 30) else 0) (ce_Past cy g (fun i => if i = 0 then a else if i = 1 then q7 else if i < 6 then r26 (i - 2) else if i < 10 then r1026 (i - 6) else if i < 14 then r2026 (i - 10) else if i < 18 then r3026 (i - 14) else if i < 22 then r4026 (i - 18) else if i < 26 then r5026 (i - 22) else if i < 30 then r6026 (i - 26) else if i < 34 then r7026 (i - 30) else 0))) := hD
  refine W.widen (k := 33) (n := 240) (Nat.le_of_ble_eq_true rfl) (Nat.le_of_ble_eq_true rfl) ?_
  exact W.vret hx hb hr (fun t ht hW => ⟨⟨(fun i => if i = 0 then a else if i = 1 then q7 else if i < 6 then r26 (i - 2) else if i < 10 then r1026 (i - 6) else if i < 14 then r2026 (i - 10) else if i < 18 then r3026 (i - 14) else if i < 22 then r4026 (i - 18) else if i < 26 then r5026 (i - 22) else if i < 30 then r6026 (i - 26) else if i < 34 then r7026 (i - 30) else 0), rfl, rfl, by rw [ht]; exact hP9, hD9⟩, hS.F ht⟩) hS.2.2 dk3_40
theorem dk1_0 : decode cX1_init 0 = .ok (.aload_n 0, 1) := by decide +kernel
theorem dk1_1 : decode cX1_init 1 = .ok (.invokespecial 3, 3) := by decide +kernel
theorem dk1_4 : decode cX1_init 4 = .ok (.aload_n 0, 1) := by decide +kernel
theorem dk1_5 : decode cX1_init 5 = .ok (.sipush 256, 3) := by decide +kernel
theorem dk1_8 : decode cX1_init 8 = .ok (.newarray .boolean, 2) := by decide +kernel
theorem dk1_10 : decode cX1_init 10 = .ok (.putfield 11, 3) := by decide +kernel
theorem dk1_13 : decode cX1_init 13 = .ok (.aload_n 0, 1) := by decide +kernel
theorem dk1_14 : decode cX1_init 14 = .ok (.iconst (-1), 1) := by decide +kernel
theorem dk1_15 : decode cX1_init 15 = .ok (.putfield 15, 3) := by decide +kernel
theorem dk1_18 : decode cX1_init 18 = .ok (.aload_n 0, 1) := by decide +kernel
theorem dk1_19 : decode cX1_init 19 = .ok (.iconst (-1), 1) := by decide +kernel
theorem dk1_20 : decode cX1_init 20 = .ok (.putfield 19, 3) := by decide +kernel
theorem dk1_23 : decode cX1_init 23 = .ok (.aload_n 0, 1) := by decide +kernel
theorem dk1_24 : decode cX1_init 24 = .ok (.iconst (-1), 1) := by decide +kernel
theorem dk1_25 : decode cX1_init 25 = .ok (.putfield 22, 3) := by decide +kernel
theorem dk1_28 : decode cX1_init 28 = .ok (.return_, 1) := by decide +kernel
def ce_Clues (cy : Nat → ClassId) (g : Nat → Nat → Nat) (r : Nat → Nat) (o : Nat) : va_E := if o = 0 then .inr (1, [.ref (r 1), .int (-1), .int (-1), .int (-1)]) else if o = 1 then .inl (cy 4, 256, .inl fun _ => 0) else .inr (0, [])
set_option maxHeartbeats 8000000 in
set_option maxRecDepth 100000 in
theorem mt_Clues (l : Launch) (D : va_G) (cy : Nat → ClassId) (g : Nat → Nat → Nat) (z0 a sz : Nat) : Met l yX1_init (mk_w yX1_init cX1_init 1) (mk_rm 1 1 256) (va_Pc [.ref a] (mk_U D cy g z0 a sz (.inr (1, [.null, .int 0, .int 0, .int 0])))) (mk_Q D 2 (ce_Clues cy g) a (va_A [(a, .inr (1, [.null, .int 0, .int 0, .int 0]))] sz)) 1 256 (va_A [(a, .inr (1, [.null, .int 0, .int 0, .int 0]))] sz) := by
  refine Met.ofW (cc := cX1_init) (maxL := 1) (ret := none) (by decide +kernel) rfl ?_
  intro p e s m args below meth c s₁ B hml hv
  obtain ⟨rfl, hsz, hP, hK, hZ, hN, hO, hza, hzs⟩ := hv
  have hx := B.exec
  have hb := B.bytes
  have hr := B.returns
  have hts := fun w hw => atoms_spec (ws := mk_w yX1_init cX1_init 1) B.pre w (List.mem_cons_of_mem _ hw)
  have hown : s.vm.findClass RX1 = some m.cls := findClass_of_methodNamed B.named
  have hlocks := B.notSynchronized
  have hin : meth.name = "<init>" := (name_of_methodNamed B.named B.method).1
  subst hsz
  have hD := mk_D1 (a := a) (sz := s.heap.size) (b := .inr (1, [.null, .int 0, .int 0, .int 0]))
  have hAz : ∀ q, va_A [(a, .inr (1, [.null, .int 0, .int 0, .int 0]))] s.heap.size q → z0 ≤ q := fun q h => by
    rcases mk_A1.mp h with h | h <;> omega
  generalize hAe : va_A [(a, .inr (1, [.null, .int 0, .int 0, .int 0]))] s.heap.size = A at hD hAz ⊢
  have hA : ∀ q : Nat, s.heap.size ≤ q → A q := fun q h => by rw [← hAe]; exact Or.inr h
  have hS : va_S A s.heap s.heap [] := va_S.rf
  have hl := lv_entry ([.ref a]) (n := 1) (Nat.le_of_ble_eq_true rfl)
  rw [lg_entry_eq]
  generalize (lg_sl ([.ref a]) ++ List.replicate (1 - (lg_sl ([.ref a])).length) Slot.unset).toArray = ls at hl ⊢
  have hl : lv_has ls 1 [(0, .ref a)] := hl
  have hP : va_P D vwCl ((a, .inr (1, [.null, .int 0, .int 0, .int 0])) :: ([])) s.heap := hP
  refine lv_aload_n hx hb dk1_0 rfl (lv_at hl 0 rfl) ?_
  refine W.objInit hx hb hown (hts _ (mm_tw2 53 rfl rfl)) (hts _ (mm_tw1 31 rfl rfl)) (hts _ (mm_tw1 32 rfl rfl)) rfl (by rw [hml]; exact hl.1) rfl dk1_1 (Nat.le_of_ble_eq_true rfl) (Nat.le_of_ble_eq_true rfl) ?_
  refine W.eq (g2 := F0 m 4 ls []) rfl ?_
  refine lv_aload_n hx hb dk1_4 rfl (lv_at hl 0 rfl) ?_
  refine lv_sipush (v := 256) hx hb dk1_5 (by decide) ?_
  refine mk_az hx hb hts hK hP hD hS hA 256 (by decide) (by decide) (by decide) (Nat.le_of_ble_eq_true rfl) (Nat.le_of_ble_eq_true rfl) dk1_8 (fun q8 H hP hD hS => ?_)
  have hP : va_P D vwCl ((a, .inr (1, [.null, .int 0, .int 0, .int 0])) :: ([(q8, .inl (cy 4, 256, .inl fun _ => 0))])) H := hP
  have hD : va_D A ((a, .inr (1, [.null, .int 0, .int 0, .int 0])) :: ([(q8, .inl (cy 4, 256, .inl fun _ => 0))])) := hD
  refine va_putF (D := D) (ci := 1) (v := .ref q8) (C := RX1) (T := TX1) (N := 4) hx hb hts mm_cw11 tyX1 tyX1_ok nmX1 hown hK hP hD hS 0 rfl rfl 0 (by decide) (hts _ (mm_tw2 54 rfl rfl)) (fun _ w => w) rfl hin rfl (tyX1_ok 0 (by decide)) rfl rfl (Nat.le_of_ble_eq_true rfl) dk1_10 (fun H locs hP hD hS => ?_)
  have hP : va_P D vwCl ((a, .inr (1, [.ref q8, .int 0, .int 0, .int 0])) :: ([(q8, .inl (cy 4, 256, .inl fun _ => 0))])) H := hP
  have hD : va_D A ((a, .inr (1, [.ref q8, .int 0, .int 0, .int 0])) :: ([(q8, .inl (cy 4, 256, .inl fun _ => 0))])) := hD
  refine lv_aload_n hx hb dk1_13 rfl (lv_at hl 0 rfl) ?_
  refine lv_iconst (v := (-1)) hx hb dk1_14 (by decide) ?_
  refine va_put (D := D) (ci := 1) (v := .int (-1)) (C := RX1) (T := TX1) (N := 4) hx hb hts mm_cw11 tyX1 tyX1_ok nmX1 hown hK hP hD hS 0 rfl rfl 1 (by decide) (hts _ (mm_tw2 55 rfl rfl)) (fun _ w => w) rfl (tyX1_ok 1 (by decide)) rfl rfl (Nat.le_of_ble_eq_true rfl) dk1_15 (fun H locs hP hD hS => ?_)
  have hP : va_P D vwCl ((a, .inr (1, [.ref q8, .int (-1), .int 0, .int 0])) :: ([(q8, .inl (cy 4, 256, .inl fun _ => 0))])) H := hP
  have hD : va_D A ((a, .inr (1, [.ref q8, .int (-1), .int 0, .int 0])) :: ([(q8, .inl (cy 4, 256, .inl fun _ => 0))])) := hD
  refine lv_aload_n hx hb dk1_18 rfl (lv_at hl 0 rfl) ?_
  refine lv_iconst (v := (-1)) hx hb dk1_19 (by decide) ?_
  refine va_put (D := D) (ci := 1) (v := .int (-1)) (C := RX1) (T := TX1) (N := 4) hx hb hts mm_cw11 tyX1 tyX1_ok nmX1 hown hK hP hD hS 0 rfl rfl 2 (by decide) (hts _ (mm_tw2 57 rfl rfl)) (fun _ w => w) rfl (tyX1_ok 2 (by decide)) rfl rfl (Nat.le_of_ble_eq_true rfl) dk1_20 (fun H locs hP hD hS => ?_)
  have hP : va_P D vwCl ((a, .inr (1, [.ref q8, .int (-1), .int (-1), .int 0])) :: ([(q8, .inl (cy 4, 256, .inl fun _ => 0))])) H := hP
  have hD : va_D A ((a, .inr (1, [.ref q8, .int (-1), .int (-1), .int 0])) :: ([(q8, .inl (cy 4, 256, .inl fun _ => 0))])) := hD
  refine lv_aload_n hx hb dk1_23 rfl (lv_at hl 0 rfl) ?_
  refine lv_iconst (v := (-1)) hx hb dk1_24 (by decide) ?_
  refine va_put (D := D) (ci := 1) (v := .int (-1)) (C := RX1) (T := TX1) (N := 4) hx hb hts mm_cw11 tyX1 tyX1_ok nmX1 hown hK hP hD hS 0 rfl rfl 3 (by decide) (hts _ (mm_tw2 59 rfl rfl)) (fun _ w => w) rfl (tyX1_ok 3 (by decide)) rfl rfl (Nat.le_of_ble_eq_true rfl) dk1_25 (fun H locs hP hD hS => ?_)
  have hP : va_P D vwCl ((a, .inr (1, [.ref q8, .int (-1), .int (-1), .int (-1)])) :: ([(q8, .inl (cy 4, 256, .inl fun _ => 0))])) H := hP
  have hD : va_D A ((a, .inr (1, [.ref q8, .int (-1), .int (-1), .int (-1)])) :: ([(q8, .inl (cy 4, 256, .inl fun _ => 0))])) := hD
  have hP9 : va_P D vwCl (nw 2 (fun i => if i = 0 then a else if i = 1 then q8 else 0) (ce_Clues cy g (fun i => if i = 0 then a else if i = 1 then q8 else 0))) H := hP
  have hD9 : va_D A (nw 2 (fun i => if i = 0 then a else if i = 1 then q8 else 0) (ce_Clues cy g (fun i => if i = 0 then a else if i = 1 then q8 else 0))) := hD
  refine W.widen (k := 1) (n := 256) (Nat.le_of_ble_eq_true rfl) (Nat.le_of_ble_eq_true rfl) ?_
  exact W.vret hx hb hr (fun t ht hW => ⟨⟨(fun i => if i = 0 then a else if i = 1 then q8 else 0), rfl, rfl, by rw [ht]; exact hP9, hD9⟩, hS.F ht⟩) hS.2.2 dk1_28
theorem dk5_0 : decode cX5_init 0 = .ok (.aload_n 0, 1) := by decide +kernel
theorem dk5_1 : decode cX5_init 1 = .ok (.invokespecial 1, 3) := by decide +kernel
theorem dk5_4 : decode cX5_init 4 = .ok (.aload_n 0, 1) := by decide +kernel
theorem dk5_5 : decode cX5_init 5 = .ok (.bipush 6, 2) := by decide +kernel
theorem dk5_7 : decode cX5_init 7 = .ok (.bipush 61, 2) := by decide +kernel
theorem dk5_9 : decode cX5_init 9 = .ok (.multianewarray 9 2, 4) := by decide +kernel
theorem dk5_13 : decode cX5_init 13 = .ok (.putfield 11, 3) := by decide +kernel
theorem dk5_16 : decode cX5_init 16 = .ok (.aload_n 0, 1) := by decide +kernel
theorem dk5_17 : decode cX5_init 17 = .ok (.iconst 5, 1) := by decide +kernel
theorem dk5_18 : decode cX5_init 18 = .ok (.newarray .int, 2) := by decide +kernel
theorem dk5_20 : decode cX5_init 20 = .ok (.putfield 14, 3) := by decide +kernel
theorem dk5_23 : decode cX5_init 23 = .ok (.return_, 1) := by decide +kernel
def ce_Rows (cy : Nat → ClassId) (g : Nat → Nat → Nat) (r : Nat → Nat) (o : Nat) : va_E := if o = 0 then .inr (5, [.ref (r 1), .ref (r 8), .int 0]) else if o = 1 then .inl (cy 7, 6, .inr (.inr (.inr (.inr fun i => [some (r 2), some (r 3), some (r 4), some (r 5), some (r 6), some (r 7)].getD i none)))) else if o < 8 then .inl (cy 0, 61, .inl fun _ => 0) else if o = 8 then .inl (cy 0, 5, .inl fun _ => 0) else .inr (0, [])
set_option maxHeartbeats 8000000 in
set_option maxRecDepth 100000 in
theorem mt_Rows (l : Launch) (D : va_G) (cy : Nat → ClassId) (g : Nat → Nat → Nat) (z0 a sz : Nat) : Met l yX5_init (mk_w yX5_init cX5_init 1) (mk_rm 1 8 377) (va_Pc [.ref a] (mk_U D cy g z0 a sz (.inr (5, [.null, .null, .int 0])))) (mk_Q D 9 (ce_Rows cy g) a (va_A [(a, .inr (5, [.null, .null, .int 0]))] sz)) 8 377 (va_A [(a, .inr (5, [.null, .null, .int 0]))] sz) := by
  refine Met.ofW (cc := cX5_init) (maxL := 1) (ret := none) (by decide +kernel) rfl ?_
  intro p e s m args below meth c s₁ B hml hv
  obtain ⟨rfl, hsz, hP, hK, hZ, hN, hO, hza, hzs⟩ := hv
  have hx := B.exec
  have hb := B.bytes
  have hr := B.returns
  have hts := fun w hw => atoms_spec (ws := mk_w yX5_init cX5_init 1) B.pre w (List.mem_cons_of_mem _ hw)
  have hown : s.vm.findClass RX5 = some m.cls := findClass_of_methodNamed B.named
  have hlocks := B.notSynchronized
  have hin : meth.name = "<init>" := (name_of_methodNamed B.named B.method).1
  subst hsz
  have hD := mk_D1 (a := a) (sz := s.heap.size) (b := .inr (5, [.null, .null, .int 0]))
  have hAz : ∀ q, va_A [(a, .inr (5, [.null, .null, .int 0]))] s.heap.size q → z0 ≤ q := fun q h => by
    rcases mk_A1.mp h with h | h <;> omega
  generalize hAe : va_A [(a, .inr (5, [.null, .null, .int 0]))] s.heap.size = A at hD hAz ⊢
  have hA : ∀ q : Nat, s.heap.size ≤ q → A q := fun q h => by rw [← hAe]; exact Or.inr h
  have hS : va_S A s.heap s.heap [] := va_S.rf
  have hl := lv_entry ([.ref a]) (n := 1) (Nat.le_of_ble_eq_true rfl)
  rw [lg_entry_eq]
  generalize (lg_sl ([.ref a]) ++ List.replicate (1 - (lg_sl ([.ref a])).length) Slot.unset).toArray = ls at hl ⊢
  have hl : lv_has ls 1 [(0, .ref a)] := hl
  have hP : va_P D vwCl ((a, .inr (5, [.null, .null, .int 0])) :: ([])) s.heap := hP
  refine lv_aload_n hx hb dk5_0 rfl (lv_at hl 0 rfl) ?_
  refine W.objInit hx hb hown (hts _ (mm_tw2 76 rfl rfl)) (hts _ (mm_tw1 31 rfl rfl)) (hts _ (mm_tw1 32 rfl rfl)) rfl (by rw [hml]; exact hl.1) rfl dk5_1 (Nat.le_of_ble_eq_true rfl) (Nat.le_of_ble_eq_true rfl) ?_
  refine W.eq (g2 := F0 m 4 ls []) rfl ?_
  refine lv_aload_n hx hb dk5_4 rfl (lv_at hl 0 rfl) ?_
  refine lv_bipush (v := 6) hx hb dk5_5 (by decide) ?_
  refine lv_bipush (v := 61) hx hb dk5_7 (by decide) ?_
  refine mk_mna hx hb hown (hts _ (mm_tw2 77 rfl rfl)) hO hts hK hP hD hS hA (Nat.le_of_ble_eq_true rfl) (Nat.le_of_ble_eq_true rfl) dk5_9 (fun q9 rr H hP hD hS => ?_)
  have hP : va_P D vwCl ((a, .inr (5, [.null, .null, .int 0])) :: ([(q9, .inl (cy 7, 6, .inr (.inr (.inr (.inr fun i => [some (rr 0), some (rr 1), some (rr 2), some (rr 3), some (rr 4), some (rr 5)].getD i none)))))] ++ [(rr 0, .inl (cy 0, 61, .inl fun _ => 0)), (rr 1, .inl (cy 0, 61, .inl fun _ => 0)), (rr 2, .inl (cy 0, 61, .inl fun _ => 0)), (rr 3, .inl (cy 0, 61, .inl fun _ => 0)), (rr 4, .inl (cy 0, 61, .inl fun _ => 0)), (rr 5, .inl (cy 0, 61, .inl fun _ => 0))])) H := hP
  have hD : va_D A ((a, .inr (5, [.null, .null, .int 0])) :: ([(q9, .inl (cy 7, 6, .inr (.inr (.inr (.inr fun i => [some (rr 0), some (rr 1), some (rr 2), some (rr 3), some (rr 4), some (rr 5)].getD i none)))))] ++ [(rr 0, .inl (cy 0, 61, .inl fun _ => 0)), (rr 1, .inl (cy 0, 61, .inl fun _ => 0)), (rr 2, .inl (cy 0, 61, .inl fun _ => 0)), (rr 3, .inl (cy 0, 61, .inl fun _ => 0)), (rr 4, .inl (cy 0, 61, .inl fun _ => 0)), (rr 5, .inl (cy 0, 61, .inl fun _ => 0))])) := hD
  refine va_putF (D := D) (ci := 5) (v := .ref q9) (C := RX5) (T := TX5) (N := 3) hx hb hts mm_cw15 tyX5 tyX5_ok nmX5 hown hK hP hD hS 0 rfl rfl 0 (by decide) (hts _ (mm_tw2 79 rfl rfl)) (fun _ w => w) rfl hin rfl (tyX5_ok 0 (by decide)) rfl rfl (Nat.le_of_ble_eq_true rfl) dk5_13 (fun H locs hP hD hS => ?_)
  have hP : va_P D vwCl ((a, .inr (5, [.ref q9, .null, .int 0])) :: ([(q9, .inl (cy 7, 6, .inr (.inr (.inr (.inr fun i => [some (rr 0), some (rr 1), some (rr 2), some (rr 3), some (rr 4), some (rr 5)].getD i none)))))] ++ [(rr 0, .inl (cy 0, 61, .inl fun _ => 0)), (rr 1, .inl (cy 0, 61, .inl fun _ => 0)), (rr 2, .inl (cy 0, 61, .inl fun _ => 0)), (rr 3, .inl (cy 0, 61, .inl fun _ => 0)), (rr 4, .inl (cy 0, 61, .inl fun _ => 0)), (rr 5, .inl (cy 0, 61, .inl fun _ => 0))])) H := hP
  have hD : va_D A ((a, .inr (5, [.ref q9, .null, .int 0])) :: ([(q9, .inl (cy 7, 6, .inr (.inr (.inr (.inr fun i => [some (rr 0), some (rr 1), some (rr 2), some (rr 3), some (rr 4), some (rr 5)].getD i none)))))] ++ [(rr 0, .inl (cy 0, 61, .inl fun _ => 0)), (rr 1, .inl (cy 0, 61, .inl fun _ => 0)), (rr 2, .inl (cy 0, 61, .inl fun _ => 0)), (rr 3, .inl (cy 0, 61, .inl fun _ => 0)), (rr 4, .inl (cy 0, 61, .inl fun _ => 0)), (rr 5, .inl (cy 0, 61, .inl fun _ => 0))])) := hD
  refine lv_aload_n hx hb dk5_16 rfl (lv_at hl 0 rfl) ?_
  refine lv_iconst (v := 5) hx hb dk5_17 (by decide) ?_
  refine mk_ai hx hb hts hK hP hD hS hA 5 (by decide) (by decide) (by decide) (Nat.le_of_ble_eq_true rfl) (Nat.le_of_ble_eq_true rfl) dk5_18 (fun q18 H hP hD hS => ?_)
  have hP : va_P D vwCl ((a, .inr (5, [.ref q9, .null, .int 0])) :: ([(q9, .inl (cy 7, 6, .inr (.inr (.inr (.inr fun i => [some (rr 0), some (rr 1), some (rr 2), some (rr 3), some (rr 4), some (rr 5)].getD i none)))))] ++ [(rr 0, .inl (cy 0, 61, .inl fun _ => 0)), (rr 1, .inl (cy 0, 61, .inl fun _ => 0)), (rr 2, .inl (cy 0, 61, .inl fun _ => 0)), (rr 3, .inl (cy 0, 61, .inl fun _ => 0)), (rr 4, .inl (cy 0, 61, .inl fun _ => 0)), (rr 5, .inl (cy 0, 61, .inl fun _ => 0))] ++ [(q18, .inl (cy 0, 5, .inl fun _ => 0))])) H := hP
  have hD : va_D A ((a, .inr (5, [.ref q9, .null, .int 0])) :: ([(q9, .inl (cy 7, 6, .inr (.inr (.inr (.inr fun i => [some (rr 0), some (rr 1), some (rr 2), some (rr 3), some (rr 4), some (rr 5)].getD i none)))))] ++ [(rr 0, .inl (cy 0, 61, .inl fun _ => 0)), (rr 1, .inl (cy 0, 61, .inl fun _ => 0)), (rr 2, .inl (cy 0, 61, .inl fun _ => 0)), (rr 3, .inl (cy 0, 61, .inl fun _ => 0)), (rr 4, .inl (cy 0, 61, .inl fun _ => 0)), (rr 5, .inl (cy 0, 61, .inl fun _ => 0))] ++ [(q18, .inl (cy 0, 5, .inl fun _ => 0))])) := hD
  refine va_putF (D := D) (ci := 5) (v := .ref q18) (C := RX5) (T := TX5) (N := 3) hx hb hts mm_cw15 tyX5 tyX5_ok nmX5 hown hK hP hD hS 0 rfl rfl 1 (by decide) (hts _ (mm_tw2 80 rfl rfl)) (fun _ w => w) rfl hin rfl (tyX5_ok 1 (by decide)) rfl rfl (Nat.le_of_ble_eq_true rfl) dk5_20 (fun H locs hP hD hS => ?_)
  have hP : va_P D vwCl ((a, .inr (5, [.ref q9, .ref q18, .int 0])) :: ([(q9, .inl (cy 7, 6, .inr (.inr (.inr (.inr fun i => [some (rr 0), some (rr 1), some (rr 2), some (rr 3), some (rr 4), some (rr 5)].getD i none)))))] ++ [(rr 0, .inl (cy 0, 61, .inl fun _ => 0)), (rr 1, .inl (cy 0, 61, .inl fun _ => 0)), (rr 2, .inl (cy 0, 61, .inl fun _ => 0)), (rr 3, .inl (cy 0, 61, .inl fun _ => 0)), (rr 4, .inl (cy 0, 61, .inl fun _ => 0)), (rr 5, .inl (cy 0, 61, .inl fun _ => 0))] ++ [(q18, .inl (cy 0, 5, .inl fun _ => 0))])) H := hP
  have hD : va_D A ((a, .inr (5, [.ref q9, .ref q18, .int 0])) :: ([(q9, .inl (cy 7, 6, .inr (.inr (.inr (.inr fun i => [some (rr 0), some (rr 1), some (rr 2), some (rr 3), some (rr 4), some (rr 5)].getD i none)))))] ++ [(rr 0, .inl (cy 0, 61, .inl fun _ => 0)), (rr 1, .inl (cy 0, 61, .inl fun _ => 0)), (rr 2, .inl (cy 0, 61, .inl fun _ => 0)), (rr 3, .inl (cy 0, 61, .inl fun _ => 0)), (rr 4, .inl (cy 0, 61, .inl fun _ => 0)), (rr 5, .inl (cy 0, 61, .inl fun _ => 0))] ++ [(q18, .inl (cy 0, 5, .inl fun _ => 0))])) := hD
  have hP9 : va_P D vwCl (nw 9 (fun i => if i = 0 then a else if i = 1 then q9 else if i < 8 then rr (i - 2) else if i = 8 then q18 else 0) (ce_Rows cy g (fun i => if i = 0 then a else if i = 1 then q9 else if i < 8 then rr (i - 2) else if i = 8 then q18 else 0))) H := hP
  have hD9 : va_D A (nw 9 (fun i => if i = 0 then a else if i = 1 then q9 else if i < 8 then rr (i - 2) else if i = 8 then q18 else 0) (ce_Rows cy g (fun i => if i = 0 then a else if i = 1 then q9 else if i < 8 then rr (i - 2) else if i = 8 then q18 else 0))) := hD
  refine W.widen (k := 8) (n := 377) (Nat.le_of_ble_eq_true rfl) (Nat.le_of_ble_eq_true rfl) ?_
  exact W.vret hx hb hr (fun t ht hW => ⟨⟨(fun i => if i = 0 then a else if i = 1 then q9 else if i < 8 then rr (i - 2) else if i = 8 then q18 else 0), rfl, rfl, by rw [ht]; exact hP9, hD9⟩, hS.F ht⟩) hS.2.2 dk5_23
theorem dk0_0 : decode cX0_init 0 = .ok (.aload_n 0, 1) := by decide +kernel
theorem dk0_1 : decode cX0_init 1 = .ok (.invokespecial 3, 3) := by decide +kernel
theorem dk0_4 : decode cX0_init 4 = .ok (.aload_n 0, 1) := by decide +kernel
theorem dk0_5 : decode cX0_init 5 = .ok (.bipush 40, 2) := by decide +kernel
theorem dk0_7 : decode cX0_init 7 = .ok (.newarray .int, 2) := by decide +kernel
theorem dk0_9 : decode cX0_init 9 = .ok (.putfield 11, 3) := by decide +kernel
theorem dk0_12 : decode cX0_init 12 = .ok (.aload_n 0, 1) := by decide +kernel
theorem dk0_13 : decode cX0_init 13 = .ok (.bipush 40, 2) := by decide +kernel
theorem dk0_15 : decode cX0_init 15 = .ok (.newarray .int, 2) := by decide +kernel
theorem dk0_17 : decode cX0_init 17 = .ok (.putfield 15, 3) := by decide +kernel
theorem dk0_20 : decode cX0_init 20 = .ok (.return_, 1) := by decide +kernel
def ce_Book (cy : Nat → ClassId) (g : Nat → Nat → Nat) (r : Nat → Nat) (o : Nat) : va_E := if o = 0 then .inr (0, [.ref (r 1), .ref (r 2), .int 0, .int 0, .int 0, .int 0, .int 0, .int 0]) else if o = 1 then .inl (cy 0, 40, .inl fun _ => 0) else if o = 2 then .inl (cy 0, 40, .inl fun _ => 0) else .inr (0, [])
set_option maxHeartbeats 8000000 in
set_option maxRecDepth 100000 in
theorem mt_Book (l : Launch) (D : va_G) (cy : Nat → ClassId) (g : Nat → Nat → Nat) (z0 a sz : Nat) : Met l yX0_init (mk_w yX0_init cX0_init 1) (mk_rm 1 2 80) (va_Pc [.ref a] (mk_U D cy g z0 a sz (.inr (0, [.null, .null, .int 0, .int 0, .int 0, .int 0, .int 0, .int 0])))) (mk_Q D 3 (ce_Book cy g) a (va_A [(a, .inr (0, [.null, .null, .int 0, .int 0, .int 0, .int 0, .int 0, .int 0]))] sz)) 2 80 (va_A [(a, .inr (0, [.null, .null, .int 0, .int 0, .int 0, .int 0, .int 0, .int 0]))] sz) := by
  refine Met.ofW (cc := cX0_init) (maxL := 1) (ret := none) (by decide +kernel) rfl ?_
  intro p e s m args below meth c s₁ B hml hv
  obtain ⟨rfl, hsz, hP, hK, hZ, hN, hO, hza, hzs⟩ := hv
  have hx := B.exec
  have hb := B.bytes
  have hr := B.returns
  have hts := fun w hw => atoms_spec (ws := mk_w yX0_init cX0_init 1) B.pre w (List.mem_cons_of_mem _ hw)
  have hown : s.vm.findClass RX0 = some m.cls := findClass_of_methodNamed B.named
  have hlocks := B.notSynchronized
  have hin : meth.name = "<init>" := (name_of_methodNamed B.named B.method).1
  subst hsz
  have hD := mk_D1 (a := a) (sz := s.heap.size) (b := .inr (0, [.null, .null, .int 0, .int 0, .int 0, .int 0, .int 0, .int 0]))
  have hAz : ∀ q, va_A [(a, .inr (0, [.null, .null, .int 0, .int 0, .int 0, .int 0, .int 0, .int 0]))] s.heap.size q → z0 ≤ q := fun q h => by
    rcases mk_A1.mp h with h | h <;> omega
  generalize hAe : va_A [(a, .inr (0, [.null, .null, .int 0, .int 0, .int 0, .int 0, .int 0, .int 0]))] s.heap.size = A at hD hAz ⊢
  have hA : ∀ q : Nat, s.heap.size ≤ q → A q := fun q h => by rw [← hAe]; exact Or.inr h
  have hS : va_S A s.heap s.heap [] := va_S.rf
  have hl := lv_entry ([.ref a]) (n := 1) (Nat.le_of_ble_eq_true rfl)
  rw [lg_entry_eq]
  generalize (lg_sl ([.ref a]) ++ List.replicate (1 - (lg_sl ([.ref a])).length) Slot.unset).toArray = ls at hl ⊢
  have hl : lv_has ls 1 [(0, .ref a)] := hl
  have hP : va_P D vwCl ((a, .inr (0, [.null, .null, .int 0, .int 0, .int 0, .int 0, .int 0, .int 0])) :: ([])) s.heap := hP
  refine lv_aload_n hx hb dk0_0 rfl (lv_at hl 0 rfl) ?_
  refine W.objInit hx hb hown (hts _ (mm_tw2 96 rfl rfl)) (hts _ (mm_tw1 31 rfl rfl)) (hts _ (mm_tw1 32 rfl rfl)) rfl (by rw [hml]; exact hl.1) rfl dk0_1 (Nat.le_of_ble_eq_true rfl) (Nat.le_of_ble_eq_true rfl) ?_
  refine W.eq (g2 := F0 m 4 ls []) rfl ?_
  refine lv_aload_n hx hb dk0_4 rfl (lv_at hl 0 rfl) ?_
  refine lv_bipush (v := 40) hx hb dk0_5 (by decide) ?_
  refine mk_ai hx hb hts hK hP hD hS hA 40 (by decide) (by decide) (by decide) (Nat.le_of_ble_eq_true rfl) (Nat.le_of_ble_eq_true rfl) dk0_7 (fun q7 H hP hD hS => ?_)
  have hP : va_P D vwCl ((a, .inr (0, [.null, .null, .int 0, .int 0, .int 0, .int 0, .int 0, .int 0])) :: ([(q7, .inl (cy 0, 40, .inl fun _ => 0))])) H := hP
  have hD : va_D A ((a, .inr (0, [.null, .null, .int 0, .int 0, .int 0, .int 0, .int 0, .int 0])) :: ([(q7, .inl (cy 0, 40, .inl fun _ => 0))])) := hD
  refine va_putF (D := D) (ci := 0) (v := .ref q7) (C := RX0) (T := TX0) (N := 8) hx hb hts mm_cw10 tyX0 tyX0_ok nmX0 hown hK hP hD hS 0 rfl rfl 0 (by decide) (hts _ (mm_tw2 97 rfl rfl)) (fun _ w => w) rfl hin rfl (tyX0_ok 0 (by decide)) rfl rfl (Nat.le_of_ble_eq_true rfl) dk0_9 (fun H locs hP hD hS => ?_)
  have hP : va_P D vwCl ((a, .inr (0, [.ref q7, .null, .int 0, .int 0, .int 0, .int 0, .int 0, .int 0])) :: ([(q7, .inl (cy 0, 40, .inl fun _ => 0))])) H := hP
  have hD : va_D A ((a, .inr (0, [.ref q7, .null, .int 0, .int 0, .int 0, .int 0, .int 0, .int 0])) :: ([(q7, .inl (cy 0, 40, .inl fun _ => 0))])) := hD
  refine lv_aload_n hx hb dk0_12 rfl (lv_at hl 0 rfl) ?_
  refine lv_bipush (v := 40) hx hb dk0_13 (by decide) ?_
  refine mk_ai hx hb hts hK hP hD hS hA 40 (by decide) (by decide) (by decide) (Nat.le_of_ble_eq_true rfl) (Nat.le_of_ble_eq_true rfl) dk0_15 (fun q15 H hP hD hS => ?_)
  have hP : va_P D vwCl ((a, .inr (0, [.ref q7, .null, .int 0, .int 0, .int 0, .int 0, .int 0, .int 0])) :: ([(q7, .inl (cy 0, 40, .inl fun _ => 0))] ++ [(q15, .inl (cy 0, 40, .inl fun _ => 0))])) H := hP
  have hD : va_D A ((a, .inr (0, [.ref q7, .null, .int 0, .int 0, .int 0, .int 0, .int 0, .int 0])) :: ([(q7, .inl (cy 0, 40, .inl fun _ => 0))] ++ [(q15, .inl (cy 0, 40, .inl fun _ => 0))])) := hD
  refine va_putF (D := D) (ci := 0) (v := .ref q15) (C := RX0) (T := TX0) (N := 8) hx hb hts mm_cw10 tyX0 tyX0_ok nmX0 hown hK hP hD hS 0 rfl rfl 1 (by decide) (hts _ (mm_tw2 98 rfl rfl)) (fun _ w => w) rfl hin rfl (tyX0_ok 1 (by decide)) rfl rfl (Nat.le_of_ble_eq_true rfl) dk0_17 (fun H locs hP hD hS => ?_)
  have hP : va_P D vwCl ((a, .inr (0, [.ref q7, .ref q15, .int 0, .int 0, .int 0, .int 0, .int 0, .int 0])) :: ([(q7, .inl (cy 0, 40, .inl fun _ => 0))] ++ [(q15, .inl (cy 0, 40, .inl fun _ => 0))])) H := hP
  have hD : va_D A ((a, .inr (0, [.ref q7, .ref q15, .int 0, .int 0, .int 0, .int 0, .int 0, .int 0])) :: ([(q7, .inl (cy 0, 40, .inl fun _ => 0))] ++ [(q15, .inl (cy 0, 40, .inl fun _ => 0))])) := hD
  have hP9 : va_P D vwCl (nw 3 (fun i => if i = 0 then a else if i = 1 then q7 else if i = 2 then q15 else 0) (ce_Book cy g (fun i => if i = 0 then a else if i = 1 then q7 else if i = 2 then q15 else 0))) H := hP
  have hD9 : va_D A (nw 3 (fun i => if i = 0 then a else if i = 1 then q7 else if i = 2 then q15 else 0) (ce_Book cy g (fun i => if i = 0 then a else if i = 1 then q7 else if i = 2 then q15 else 0))) := hD
  refine W.widen (k := 2) (n := 80) (Nat.le_of_ble_eq_true rfl) (Nat.le_of_ble_eq_true rfl) ?_
  exact W.vret hx hb hr (fun t ht hW => ⟨⟨(fun i => if i = 0 then a else if i = 1 then q7 else if i = 2 then q15 else 0), rfl, rfl, by rw [ht]; exact hP9, hD9⟩, hS.F ht⟩) hS.2.2 dk0_20
theorem dk11_0 : decode cX11_init 0 = .ok (.aload_n 0, 1) := by decide +kernel
theorem dk11_1 : decode cX11_init 1 = .ok (.invokespecial 1, 3) := by decide +kernel
theorem dk11_4 : decode cX11_init 4 = .ok (.aload_n 0, 1) := by decide +kernel
theorem dk11_5 : decode cX11_init 5 = .ok (.new 7, 3) := by decide +kernel
theorem dk11_8 : decode cX11_init 8 = .ok (.dup, 1) := by decide +kernel
theorem dk11_9 : decode cX11_init 9 = .ok (.invokespecial 9, 3) := by decide +kernel
theorem dk11_12 : decode cX11_init 12 = .ok (.putfield 10, 3) := by decide +kernel
theorem dk11_15 : decode cX11_init 15 = .ok (.aload_n 0, 1) := by decide +kernel
theorem dk11_16 : decode cX11_init 16 = .ok (.new 16, 3) := by decide +kernel
theorem dk11_19 : decode cX11_init 19 = .ok (.dup, 1) := by decide +kernel
theorem dk11_20 : decode cX11_init 20 = .ok (.invokespecial 18, 3) := by decide +kernel
theorem dk11_23 : decode cX11_init 23 = .ok (.putfield 19, 3) := by decide +kernel
theorem dk11_26 : decode cX11_init 26 = .ok (.aload_n 0, 1) := by decide +kernel
theorem dk11_27 : decode cX11_init 27 = .ok (.new 23, 3) := by decide +kernel
theorem dk11_30 : decode cX11_init 30 = .ok (.dup, 1) := by decide +kernel
theorem dk11_31 : decode cX11_init 31 = .ok (.invokespecial 25, 3) := by decide +kernel
theorem dk11_34 : decode cX11_init 34 = .ok (.putfield 26, 3) := by decide +kernel
theorem dk11_37 : decode cX11_init 37 = .ok (.aload_n 0, 1) := by decide +kernel
theorem dk11_38 : decode cX11_init 38 = .ok (.iconst 2, 1) := by decide +kernel
theorem dk11_39 : decode cX11_init 39 = .ok (.anewarray 23, 3) := by decide +kernel
theorem dk11_42 : decode cX11_init 42 = .ok (.putfield 30, 3) := by decide +kernel
theorem dk11_45 : decode cX11_init 45 = .ok (.aload_n 0, 1) := by decide +kernel
theorem dk11_46 : decode cX11_init 46 = .ok (.new 34, 3) := by decide +kernel
theorem dk11_49 : decode cX11_init 49 = .ok (.dup, 1) := by decide +kernel
theorem dk11_50 : decode cX11_init 50 = .ok (.invokespecial 36, 3) := by decide +kernel
theorem dk11_53 : decode cX11_init 53 = .ok (.putfield 37, 3) := by decide +kernel
theorem dk11_56 : decode cX11_init 56 = .ok (.aload_n 0, 1) := by decide +kernel
theorem dk11_57 : decode cX11_init 57 = .ok (.new 41, 3) := by decide +kernel
theorem dk11_60 : decode cX11_init 60 = .ok (.dup, 1) := by decide +kernel
theorem dk11_61 : decode cX11_init 61 = .ok (.invokespecial 43, 3) := by decide +kernel
theorem dk11_64 : decode cX11_init 64 = .ok (.putfield 44, 3) := by decide +kernel
theorem dk11_67 : decode cX11_init 67 = .ok (.aload_n 0, 1) := by decide +kernel
theorem dk11_68 : decode cX11_init 68 = .ok (.new 41, 3) := by decide +kernel
theorem dk11_71 : decode cX11_init 71 = .ok (.dup, 1) := by decide +kernel
theorem dk11_72 : decode cX11_init 72 = .ok (.invokespecial 43, 3) := by decide +kernel
theorem dk11_75 : decode cX11_init 75 = .ok (.putfield 48, 3) := by decide +kernel
theorem dk11_78 : decode cX11_init 78 = .ok (.aload_n 0, 1) := by decide +kernel
theorem dk11_79 : decode cX11_init 79 = .ok (.new 51, 3) := by decide +kernel
theorem dk11_82 : decode cX11_init 82 = .ok (.dup, 1) := by decide +kernel
theorem dk11_83 : decode cX11_init 83 = .ok (.invokespecial 53, 3) := by decide +kernel
theorem dk11_86 : decode cX11_init 86 = .ok (.putfield 54, 3) := by decide +kernel
theorem dk11_89 : decode cX11_init 89 = .ok (.aload_n 0, 1) := by decide +kernel
theorem dk11_90 : decode cX11_init 90 = .ok (.new 58, 3) := by decide +kernel
theorem dk11_93 : decode cX11_init 93 = .ok (.dup, 1) := by decide +kernel
theorem dk11_94 : decode cX11_init 94 = .ok (.invokespecial 60, 3) := by decide +kernel
theorem dk11_97 : decode cX11_init 97 = .ok (.putfield 61, 3) := by decide +kernel
theorem dk11_100 : decode cX11_init 100 = .ok (.aload_n 0, 1) := by decide +kernel
theorem dk11_101 : decode cX11_init 101 = .ok (.new 65, 3) := by decide +kernel
theorem dk11_104 : decode cX11_init 104 = .ok (.dup, 1) := by decide +kernel
theorem dk11_105 : decode cX11_init 105 = .ok (.invokespecial 67, 3) := by decide +kernel
theorem dk11_108 : decode cX11_init 108 = .ok (.putfield 68, 3) := by decide +kernel
theorem dk11_111 : decode cX11_init 111 = .ok (.aload_n 0, 1) := by decide +kernel
theorem dk11_112 : decode cX11_init 112 = .ok (.new 72, 3) := by decide +kernel
theorem dk11_115 : decode cX11_init 115 = .ok (.dup, 1) := by decide +kernel
theorem dk11_116 : decode cX11_init 116 = .ok (.invokespecial 74, 3) := by decide +kernel
theorem dk11_119 : decode cX11_init 119 = .ok (.putfield 75, 3) := by decide +kernel
theorem dk11_122 : decode cX11_init 122 = .ok (.aload_n 0, 1) := by decide +kernel
theorem dk11_123 : decode cX11_init 123 = .ok (.bipush 21, 2) := by decide +kernel
theorem dk11_125 : decode cX11_init 125 = .ok (.newarray .byte, 2) := by decide +kernel
theorem dk11_127 : decode cX11_init 127 = .ok (.putfield 79, 3) := by decide +kernel
theorem dk11_130 : decode cX11_init 130 = .ok (.aload_n 0, 1) := by decide +kernel
theorem dk11_131 : decode cX11_init 131 = .ok (.iconst (-1), 1) := by decide +kernel
theorem dk11_132 : decode cX11_init 132 = .ok (.putfield 83, 3) := by decide +kernel
theorem dk11_135 : decode cX11_init 135 = .ok (.iconst 0, 1) := by decide +kernel
theorem dk11_136 : decode cX11_init 136 = .ok (.istore_n 1, 1) := by decide +kernel
theorem dk11_137 : decode cX11_init 137 = .ok (.iload_n 1, 1) := by decide +kernel
theorem dk11_138 : decode cX11_init 138 = .ok (.iconst 2, 1) := by decide +kernel
theorem dk11_139 : decode cX11_init 139 = .ok (.if_icmp .ge 22, 3) := by decide +kernel
theorem dk11_142 : decode cX11_init 142 = .ok (.aload_n 0, 1) := by decide +kernel
theorem dk11_143 : decode cX11_init 143 = .ok (.getfield 30, 3) := by decide +kernel
theorem dk11_146 : decode cX11_init 146 = .ok (.iload_n 1, 1) := by decide +kernel
theorem dk11_147 : decode cX11_init 147 = .ok (.new 23, 3) := by decide +kernel
theorem dk11_150 : decode cX11_init 150 = .ok (.dup, 1) := by decide +kernel
theorem dk11_151 : decode cX11_init 151 = .ok (.invokespecial 25, 3) := by decide +kernel
theorem dk11_154 : decode cX11_init 154 = .ok (.aastore, 1) := by decide +kernel
theorem dk11_155 : decode cX11_init 155 = .ok (.iinc 1 1, 3) := by decide +kernel
theorem dk11_158 : decode cX11_init 158 = .ok (.goto (-21), 3) := by decide +kernel
theorem dk11_161 : decode cX11_init 161 = .ok (.return_, 1) := by decide +kernel
def ce_Town (cy : Nat → ClassId) (g : Nat → Nat → Nat) (r : Nat → Nat) (o : Nat) : va_E := if o = 0 then .inr (10, [.ref (r 1), .ref (r 3), .ref (r 14), .ref (r 33), .ref (r 34), .ref (r 68), .ref (r 72), .ref (r 76), .ref (r 78), .ref (r 87), .ref (r 90), .ref (r 94), .int 0, .int 0, .int (-1)]) else if o < 3 then ce_Tape cy g (fun i => r (1 + i)) (o - 1) else if o < 14 then ce_TownReader cy g (fun i => r (3 + i)) (o - 3) else if o < 33 then ce_Scene cy g (fun i => r (14 + i)) (o - 14) else if o = 33 then .inl (cy 6, 2, .inr (.inr (.inr (.inr (va_up (va_up (fun _ => none) (0 : Int32).toNatClampNeg (some (r 95))) (1 : Int32).toNatClampNeg (some (r 114))))))) else if o < 68 then ce_Past cy g (fun i => r (34 + i)) (o - 34) else if o < 72 then ce_Moment cy g (fun i => r (68 + i)) (o - 68) else if o < 76 then ce_Moment cy g (fun i => r (72 + i)) (o - 72) else if o < 78 then ce_Clues cy g (fun i => r (76 + i)) (o - 76) else if o < 87 then ce_Rows cy g (fun i => r (78 + i)) (o - 78) else if o < 90 then ce_Book cy g (fun i => r (87 + i)) (o - 87) else if o < 94 then ce_Sentence cy g (fun i => r (90 + i)) (o - 90) else if o = 94 then .inl (cy 3, 21, .inl fun _ => 0) else if o < 114 then ce_Scene cy g (fun i => r (95 + i)) (o - 95) else if o < 133 then ce_Scene cy g (fun i => r (114 + i)) (o - 114) else .inr (0, [])
set_option maxHeartbeats 8000000 in
set_option maxRecDepth 100000 in
theorem mt_Town (l : Launch) (D : va_G) (cy : Nat → ClassId) (g : Nat → Nat → Nat) (z0 a sz : Nat) : Met l yX11_init (mk_w yX11_init cX11_init 2) (mk_rm 3 132 2944) (va_Pc [.ref a] (mk_U D cy g z0 a sz (.inr (10, [.null, .null, .null, .null, .null, .null, .null, .null, .null, .null, .null, .null, .int 0, .int 0, .int 0])))) (mk_Q D 133 (ce_Town cy g) a (va_A [(a, .inr (10, [.null, .null, .null, .null, .null, .null, .null, .null, .null, .null, .null, .null, .int 0, .int 0, .int 0]))] sz)) 132 2944 (va_A [(a, .inr (10, [.null, .null, .null, .null, .null, .null, .null, .null, .null, .null, .null, .null, .int 0, .int 0, .int 0]))] sz) := by
  refine Met.ofW (cc := cX11_init) (maxL := 2) (ret := none) (by decide +kernel) rfl ?_
  intro p e s m args below meth c s₁ B hml hv
  obtain ⟨rfl, hsz, hP, hK, hZ, hN, hO, hza, hzs⟩ := hv
  have hx := B.exec
  have hb := B.bytes
  have hr := B.returns
  have hts := fun w hw => atoms_spec (ws := mk_w yX11_init cX11_init 2) B.pre w (List.mem_cons_of_mem _ hw)
  have hown : s.vm.findClass RX11 = some m.cls := findClass_of_methodNamed B.named
  have hlocks := B.notSynchronized
  have hin : meth.name = "<init>" := (name_of_methodNamed B.named B.method).1
  subst hsz
  have hD := mk_D1 (a := a) (sz := s.heap.size) (b := .inr (10, [.null, .null, .null, .null, .null, .null, .null, .null, .null, .null, .null, .null, .int 0, .int 0, .int 0]))
  have hAz : ∀ q, va_A [(a, .inr (10, [.null, .null, .null, .null, .null, .null, .null, .null, .null, .null, .null, .null, .int 0, .int 0, .int 0]))] s.heap.size q → z0 ≤ q := fun q h => by
    rcases mk_A1.mp h with h | h <;> omega
  generalize hAe : va_A [(a, .inr (10, [.null, .null, .null, .null, .null, .null, .null, .null, .null, .null, .null, .null, .int 0, .int 0, .int 0]))] s.heap.size = A at hD hAz ⊢
  have hA : ∀ q : Nat, s.heap.size ≤ q → A q := fun q h => by rw [← hAe]; exact Or.inr h
  have hS : va_S A s.heap s.heap [] := va_S.rf
  have hl := lv_entry ([.ref a]) (n := 2) (Nat.le_of_ble_eq_true rfl)
  rw [lg_entry_eq]
  generalize (lg_sl ([.ref a]) ++ List.replicate (2 - (lg_sl ([.ref a])).length) Slot.unset).toArray = ls at hl ⊢
  have hl : lv_has ls 2 [(0, .ref a)] := hl
  have hP : va_P D vwCl ((a, .inr (10, [.null, .null, .null, .null, .null, .null, .null, .null, .null, .null, .null, .null, .int 0, .int 0, .int 0])) :: ([])) s.heap := hP
  refine lv_aload_n hx hb dk11_0 rfl (lv_at hl 0 rfl) ?_
  refine W.objInit hx hb hown (hts _ (mm_tw1 30 rfl rfl)) (hts _ (mm_tw1 31 rfl rfl)) (hts _ (mm_tw1 32 rfl rfl)) rfl (by rw [hml]; exact hl.1) rfl dk11_1 (Nat.le_of_ble_eq_true rfl) (Nat.le_of_ble_eq_true rfl) ?_
  refine W.eq (g2 := F0 m 4 ls []) rfl ?_
  refine lv_aload_n hx hb dk11_4 rfl (lv_at hl 0 rfl) ?_
  refine mk_obj (host := "HiccupTown") (nM := 1) (f := 1) (n := 1) (S := 940) (ce := ce_Tape cy g) (fs := [.null, .int 0, .int 0, .int 0, .null, .int 0, .int 0, .long 0, .int 0, .int 0]) hx hb hml hown hts hK hZ hN hO hP hD hS hA hAz hl.1 18 (by decide) (by decide) rfl tyX8 tyX8_ok (by decide) (mm_tw1 33 rfl rfl) (mm_tw1 34 rfl rfl) (mm_tw1 2 rfl rfl) (mt_Tape l D cy g z0) (mm_tw1 37 rfl rfl) rfl rfl (mm_tw1 36 rfl rfl) (Or.inr (mm_tn1 35 rfl rfl)) ⟨by decide +kernel, by decide +kernel, by decide +kernel⟩ ⟨Nat.le_of_ble_eq_true rfl, Nat.le_of_ble_eq_true rfl⟩ (Nat.le_of_ble_eq_true rfl) (Nat.le_of_ble_eq_true rfl) (by simp [Value.category]) dk11_5 dk11_8 dk11_9 (fun r5 H locs hP hD hS => ?_)
  have hP : va_P D vwCl ((a, .inr (10, [.null, .null, .null, .null, .null, .null, .null, .null, .null, .null, .null, .null, .int 0, .int 0, .int 0])) :: (nw 2 r5 (ce_Tape cy g r5))) H := hP
  have hD : va_D A ((a, .inr (10, [.null, .null, .null, .null, .null, .null, .null, .null, .null, .null, .null, .null, .int 0, .int 0, .int 0])) :: (nw 2 r5 (ce_Tape cy g r5))) := hD
  refine va_putF (D := D) (ci := 10) (v := .ref (r5 0)) (C := RX11) (T := TX11) (N := 15) hx hb hts mm_cw20 tyX11 tyX11_ok nmX11 hown hK hP hD hS 0 rfl rfl 0 (by decide) (hts _ (mm_tw2 125 rfl rfl)) (fun _ w => w) rfl hin rfl (tyX11_ok 0 (by decide)) rfl rfl (Nat.le_of_ble_eq_true rfl) dk11_12 (fun H locs hP hD hS => ?_)
  have hP : va_P D vwCl ((a, .inr (10, [.ref (r5 0), .null, .null, .null, .null, .null, .null, .null, .null, .null, .null, .null, .int 0, .int 0, .int 0])) :: (nw 2 r5 (ce_Tape cy g r5))) H := hP
  have hD : va_D A ((a, .inr (10, [.ref (r5 0), .null, .null, .null, .null, .null, .null, .null, .null, .null, .null, .null, .int 0, .int 0, .int 0])) :: (nw 2 r5 (ce_Tape cy g r5))) := hD
  refine lv_aload_n hx hb dk11_15 rfl (lv_at hl 0 rfl) ?_
  refine mk_obj (host := "HiccupTown") (nM := 1) (f := 2) (n := 10) (S := 85) (ce := ce_TownReader cy g) (fs := [.null, .int 0, .int 0]) hx hb hml hown hts hK hZ hN hO hP hD hS hA hAz hl.1 19 (by decide) (by decide) rfl tyX9 tyX9_ok (by decide) (mm_tw1 83 rfl rfl) (mm_tw1 84 rfl rfl) (mm_tw1 5 rfl rfl) (mt_TownReader l D cy g z0) (mm_tw1 87 rfl rfl) rfl rfl (mm_tw1 86 rfl rfl) (Or.inr (mm_tn1 85 rfl rfl)) ⟨by decide +kernel, by decide +kernel, by decide +kernel⟩ ⟨Nat.le_of_ble_eq_true rfl, Nat.le_of_ble_eq_true rfl⟩ (Nat.le_of_ble_eq_true rfl) (Nat.le_of_ble_eq_true rfl) (by simp [Value.category]) dk11_16 dk11_19 dk11_20 (fun r16 H locs hP hD hS => ?_)
  have hP : va_P D vwCl ((a, .inr (10, [.ref (r5 0), .null, .null, .null, .null, .null, .null, .null, .null, .null, .null, .null, .int 0, .int 0, .int 0])) :: (nw 2 r5 (ce_Tape cy g r5) ++ nw 11 r16 (ce_TownReader cy g r16))) H := hP
  have hD : va_D A ((a, .inr (10, [.ref (r5 0), .null, .null, .null, .null, .null, .null, .null, .null, .null, .null, .null, .int 0, .int 0, .int 0])) :: (nw 2 r5 (ce_Tape cy g r5) ++ nw 11 r16 (ce_TownReader cy g r16))) := hD
  refine va_putF (D := D) (ci := 10) (v := .ref (r16 0)) (C := RX11) (T := TX11) (N := 15) hx hb hts mm_cw20 tyX11 tyX11_ok nmX11 hown hK hP hD hS 0 rfl rfl 1 (by decide) (hts _ (mm_tw2 126 rfl rfl)) (fun _ w => w) rfl hin rfl (tyX11_ok 1 (by decide)) rfl rfl (Nat.le_of_ble_eq_true rfl) dk11_23 (fun H locs hP hD hS => ?_)
  have hP : va_P D vwCl ((a, .inr (10, [.ref (r5 0), .ref (r16 0), .null, .null, .null, .null, .null, .null, .null, .null, .null, .null, .int 0, .int 0, .int 0])) :: (nw 2 r5 (ce_Tape cy g r5) ++ nw 11 r16 (ce_TownReader cy g r16))) H := hP
  have hD : va_D A ((a, .inr (10, [.ref (r5 0), .ref (r16 0), .null, .null, .null, .null, .null, .null, .null, .null, .null, .null, .int 0, .int 0, .int 0])) :: (nw 2 r5 (ce_Tape cy g r5) ++ nw 11 r16 (ce_TownReader cy g r16))) := hD
  refine lv_aload_n hx hb dk11_26 rfl (lv_at hl 0 rfl) ?_
  refine mk_obj (host := "HiccupTown") (nM := 1) (f := 2) (n := 18) (S := 239) (ce := ce_Scene cy g) (fs := [.null, .null, .null, .int 0]) hx hb hml hown hts hK hZ hN hO hP hD hS hA hAz hl.1 16 (by decide) (by decide) rfl tyX6 tyX6_ok (by decide) (mm_tw1 171 rfl rfl) (mm_tw1 172 rfl rfl) (mm_tw1 7 rfl rfl) (mt_Scene l D cy g z0) (mm_tw1 175 rfl rfl) rfl rfl (mm_tw1 174 rfl rfl) (Or.inr (mm_tn1 173 rfl rfl)) ⟨by decide +kernel, by decide +kernel, by decide +kernel⟩ ⟨Nat.le_of_ble_eq_true rfl, Nat.le_of_ble_eq_true rfl⟩ (Nat.le_of_ble_eq_true rfl) (Nat.le_of_ble_eq_true rfl) (by simp [Value.category]) dk11_27 dk11_30 dk11_31 (fun r27 H locs hP hD hS => ?_)
  have hP : va_P D vwCl ((a, .inr (10, [.ref (r5 0), .ref (r16 0), .null, .null, .null, .null, .null, .null, .null, .null, .null, .null, .int 0, .int 0, .int 0])) :: (nw 2 r5 (ce_Tape cy g r5) ++ nw 11 r16 (ce_TownReader cy g r16) ++ nw 19 r27 (ce_Scene cy g r27))) H := hP
  have hD : va_D A ((a, .inr (10, [.ref (r5 0), .ref (r16 0), .null, .null, .null, .null, .null, .null, .null, .null, .null, .null, .int 0, .int 0, .int 0])) :: (nw 2 r5 (ce_Tape cy g r5) ++ nw 11 r16 (ce_TownReader cy g r16) ++ nw 19 r27 (ce_Scene cy g r27))) := hD
  refine va_putF (D := D) (ci := 10) (v := .ref (r27 0)) (C := RX11) (T := TX11) (N := 15) hx hb hts mm_cw20 tyX11 tyX11_ok nmX11 hown hK hP hD hS 0 rfl rfl 2 (by decide) (hts _ (mm_tw2 127 rfl rfl)) (fun _ w => w) rfl hin rfl (tyX11_ok 2 (by decide)) rfl rfl (Nat.le_of_ble_eq_true rfl) dk11_34 (fun H locs hP hD hS => ?_)
  have hP : va_P D vwCl ((a, .inr (10, [.ref (r5 0), .ref (r16 0), .ref (r27 0), .null, .null, .null, .null, .null, .null, .null, .null, .null, .int 0, .int 0, .int 0])) :: (nw 2 r5 (ce_Tape cy g r5) ++ nw 11 r16 (ce_TownReader cy g r16) ++ nw 19 r27 (ce_Scene cy g r27))) H := hP
  have hD : va_D A ((a, .inr (10, [.ref (r5 0), .ref (r16 0), .ref (r27 0), .null, .null, .null, .null, .null, .null, .null, .null, .null, .int 0, .int 0, .int 0])) :: (nw 2 r5 (ce_Tape cy g r5) ++ nw 11 r16 (ce_TownReader cy g r16) ++ nw 19 r27 (ce_Scene cy g r27))) := hD
  refine lv_aload_n hx hb dk11_37 rfl (lv_at hl 0 rfl) ?_
  refine lv_iconst (v := 2) hx hb dk11_38 (by decide) ?_
  refine va_newq hx hb hown (hts _ (mm_tw1 171 rfl rfl)) (hO (.object "HiccupTown$Scene") (by simp)) hK hP hD hS hA (N' := 2) (by decide) (by decide) (by decide) (Nat.le_of_ble_eq_true rfl) (Nat.le_of_ble_eq_true rfl) dk11_39 (fun q39 cA H hK9 hP hD hS => ?_)
  have ec := mk_cAo (c := 6) (by decide) rfl hK hK9
  subst ec
  have hP : va_P D vwCl ((a, .inr (10, [.ref (r5 0), .ref (r16 0), .ref (r27 0), .null, .null, .null, .null, .null, .null, .null, .null, .null, .int 0, .int 0, .int 0])) :: (nw 2 r5 (ce_Tape cy g r5) ++ nw 11 r16 (ce_TownReader cy g r16) ++ nw 19 r27 (ce_Scene cy g r27) ++ [(q39, .inl (cy 6, 2, .inr (.inr (.inr (.inr fun _ => none)))))])) H := hP
  have hD : va_D A ((a, .inr (10, [.ref (r5 0), .ref (r16 0), .ref (r27 0), .null, .null, .null, .null, .null, .null, .null, .null, .null, .int 0, .int 0, .int 0])) :: (nw 2 r5 (ce_Tape cy g r5) ++ nw 11 r16 (ce_TownReader cy g r16) ++ nw 19 r27 (ce_Scene cy g r27) ++ [(q39, .inl (cy 6, 2, .inr (.inr (.inr (.inr fun _ => none)))))])) := hD
  refine va_putF (D := D) (ci := 10) (v := .ref q39) (C := RX11) (T := TX11) (N := 15) hx hb hts mm_cw20 tyX11 tyX11_ok nmX11 hown hK hP hD hS 0 rfl rfl 3 (by decide) (hts _ (mm_tw2 128 rfl rfl)) (fun _ w => w) rfl hin rfl (tyX11_ok 3 (by decide)) rfl rfl (Nat.le_of_ble_eq_true rfl) dk11_42 (fun H locs hP hD hS => ?_)
  have hP : va_P D vwCl ((a, .inr (10, [.ref (r5 0), .ref (r16 0), .ref (r27 0), .ref q39, .null, .null, .null, .null, .null, .null, .null, .null, .int 0, .int 0, .int 0])) :: (nw 2 r5 (ce_Tape cy g r5) ++ nw 11 r16 (ce_TownReader cy g r16) ++ nw 19 r27 (ce_Scene cy g r27) ++ [(q39, .inl (cy 6, 2, .inr (.inr (.inr (.inr fun _ => none)))))])) H := hP
  have hD : va_D A ((a, .inr (10, [.ref (r5 0), .ref (r16 0), .ref (r27 0), .ref q39, .null, .null, .null, .null, .null, .null, .null, .null, .int 0, .int 0, .int 0])) :: (nw 2 r5 (ce_Tape cy g r5) ++ nw 11 r16 (ce_TownReader cy g r16) ++ nw 19 r27 (ce_Scene cy g r27) ++ [(q39, .inl (cy 6, 2, .inr (.inr (.inr (.inr fun _ => none)))))])) := hD
  refine lv_aload_n hx hb dk11_45 rfl (lv_at hl 0 rfl) ?_
  refine mk_obj (host := "HiccupTown") (nM := 2) (f := 2) (n := 33) (S := 240) (ce := ce_Past cy g) (fs := [.null, .int 0, .int 0]) hx hb hml hown hts hK hZ hN hO hP hD hS hA hAz hl.1 13 (by decide) (by decide) rfl tyX3 tyX3_ok (by decide) (mm_tw2 27 rfl rfl) (mm_tw2 28 rfl rfl) (mm_tw1 10 rfl rfl) (mt_Past l D cy g z0) (mm_tw2 31 rfl rfl) rfl rfl (mm_tw2 30 rfl rfl) (Or.inl (mm_tw2 29 rfl rfl)) ⟨by decide +kernel, by decide +kernel, by decide +kernel⟩ ⟨Nat.le_of_ble_eq_true rfl, Nat.le_of_ble_eq_true rfl⟩ (Nat.le_of_ble_eq_true rfl) (Nat.le_of_ble_eq_true rfl) (by simp [Value.category]) dk11_46 dk11_49 dk11_50 (fun r46 H locs hP hD hS => ?_)
  have hP : va_P D vwCl ((a, .inr (10, [.ref (r5 0), .ref (r16 0), .ref (r27 0), .ref q39, .null, .null, .null, .null, .null, .null, .null, .null, .int 0, .int 0, .int 0])) :: (nw 2 r5 (ce_Tape cy g r5) ++ nw 11 r16 (ce_TownReader cy g r16) ++ nw 19 r27 (ce_Scene cy g r27) ++ [(q39, .inl (cy 6, 2, .inr (.inr (.inr (.inr fun _ => none)))))] ++ nw 34 r46 (ce_Past cy g r46))) H := hP
  have hD : va_D A ((a, .inr (10, [.ref (r5 0), .ref (r16 0), .ref (r27 0), .ref q39, .null, .null, .null, .null, .null, .null, .null, .null, .int 0, .int 0, .int 0])) :: (nw 2 r5 (ce_Tape cy g r5) ++ nw 11 r16 (ce_TownReader cy g r16) ++ nw 19 r27 (ce_Scene cy g r27) ++ [(q39, .inl (cy 6, 2, .inr (.inr (.inr (.inr fun _ => none)))))] ++ nw 34 r46 (ce_Past cy g r46))) := hD
  refine va_putF (D := D) (ci := 10) (v := .ref (r46 0)) (C := RX11) (T := TX11) (N := 15) hx hb hts mm_cw20 tyX11 tyX11_ok nmX11 hown hK hP hD hS 0 rfl rfl 4 (by decide) (hts _ (mm_tw2 129 rfl rfl)) (fun _ w => w) rfl hin rfl (tyX11_ok 4 (by decide)) rfl rfl (Nat.le_of_ble_eq_true rfl) dk11_53 (fun H locs hP hD hS => ?_)
  have hP : va_P D vwCl ((a, .inr (10, [.ref (r5 0), .ref (r16 0), .ref (r27 0), .ref q39, .ref (r46 0), .null, .null, .null, .null, .null, .null, .null, .int 0, .int 0, .int 0])) :: (nw 2 r5 (ce_Tape cy g r5) ++ nw 11 r16 (ce_TownReader cy g r16) ++ nw 19 r27 (ce_Scene cy g r27) ++ [(q39, .inl (cy 6, 2, .inr (.inr (.inr (.inr fun _ => none)))))] ++ nw 34 r46 (ce_Past cy g r46))) H := hP
  have hD : va_D A ((a, .inr (10, [.ref (r5 0), .ref (r16 0), .ref (r27 0), .ref q39, .ref (r46 0), .null, .null, .null, .null, .null, .null, .null, .int 0, .int 0, .int 0])) :: (nw 2 r5 (ce_Tape cy g r5) ++ nw 11 r16 (ce_TownReader cy g r16) ++ nw 19 r27 (ce_Scene cy g r27) ++ [(q39, .inl (cy 6, 2, .inr (.inr (.inr (.inr fun _ => none)))))] ++ nw 34 r46 (ce_Past cy g r46))) := hD
  refine lv_aload_n hx hb dk11_56 rfl (lv_at hl 0 rfl) ?_
  refine mk_obj (host := "HiccupTown") (nM := 1) (f := 1) (n := 3) (S := 20) (ce := ce_Moment cy g) (fs := [.int 0, .int 0, .int 0, .int 0, .int 0, .int 0, .null, .null, .null]) hx hb hml hown hts hK hZ hN hO hP hD hS hA hAz hl.1 12 (by decide) (by decide) rfl tyX2 tyX2_ok (by decide) (mm_tw2 46 rfl rfl) (mm_tw1 180 rfl rfl) (mm_tw1 8 rfl rfl) (mt_Moment l D cy g z0) (mm_tw1 183 rfl rfl) rfl rfl (mm_tw1 182 rfl rfl) (Or.inr (mm_tn2 47 rfl rfl)) ⟨by decide +kernel, by decide +kernel, by decide +kernel⟩ ⟨Nat.le_of_ble_eq_true rfl, Nat.le_of_ble_eq_true rfl⟩ (Nat.le_of_ble_eq_true rfl) (Nat.le_of_ble_eq_true rfl) (by simp [Value.category]) dk11_57 dk11_60 dk11_61 (fun r57 H locs hP hD hS => ?_)
  have hP : va_P D vwCl ((a, .inr (10, [.ref (r5 0), .ref (r16 0), .ref (r27 0), .ref q39, .ref (r46 0), .null, .null, .null, .null, .null, .null, .null, .int 0, .int 0, .int 0])) :: (nw 2 r5 (ce_Tape cy g r5) ++ nw 11 r16 (ce_TownReader cy g r16) ++ nw 19 r27 (ce_Scene cy g r27) ++ [(q39, .inl (cy 6, 2, .inr (.inr (.inr (.inr fun _ => none)))))] ++ nw 34 r46 (ce_Past cy g r46) ++ nw 4 r57 (ce_Moment cy g r57))) H := hP
  have hD : va_D A ((a, .inr (10, [.ref (r5 0), .ref (r16 0), .ref (r27 0), .ref q39, .ref (r46 0), .null, .null, .null, .null, .null, .null, .null, .int 0, .int 0, .int 0])) :: (nw 2 r5 (ce_Tape cy g r5) ++ nw 11 r16 (ce_TownReader cy g r16) ++ nw 19 r27 (ce_Scene cy g r27) ++ [(q39, .inl (cy 6, 2, .inr (.inr (.inr (.inr fun _ => none)))))] ++ nw 34 r46 (ce_Past cy g r46) ++ nw 4 r57 (ce_Moment cy g r57))) := hD
  refine va_putF (D := D) (ci := 10) (v := .ref (r57 0)) (C := RX11) (T := TX11) (N := 15) hx hb hts mm_cw20 tyX11 tyX11_ok nmX11 hown hK hP hD hS 0 rfl rfl 5 (by decide) (hts _ (mm_tw2 130 rfl rfl)) (fun _ w => w) rfl hin rfl (tyX11_ok 5 (by decide)) rfl rfl (Nat.le_of_ble_eq_true rfl) dk11_64 (fun H locs hP hD hS => ?_)
  have hP : va_P D vwCl ((a, .inr (10, [.ref (r5 0), .ref (r16 0), .ref (r27 0), .ref q39, .ref (r46 0), .ref (r57 0), .null, .null, .null, .null, .null, .null, .int 0, .int 0, .int 0])) :: (nw 2 r5 (ce_Tape cy g r5) ++ nw 11 r16 (ce_TownReader cy g r16) ++ nw 19 r27 (ce_Scene cy g r27) ++ [(q39, .inl (cy 6, 2, .inr (.inr (.inr (.inr fun _ => none)))))] ++ nw 34 r46 (ce_Past cy g r46) ++ nw 4 r57 (ce_Moment cy g r57))) H := hP
  have hD : va_D A ((a, .inr (10, [.ref (r5 0), .ref (r16 0), .ref (r27 0), .ref q39, .ref (r46 0), .ref (r57 0), .null, .null, .null, .null, .null, .null, .int 0, .int 0, .int 0])) :: (nw 2 r5 (ce_Tape cy g r5) ++ nw 11 r16 (ce_TownReader cy g r16) ++ nw 19 r27 (ce_Scene cy g r27) ++ [(q39, .inl (cy 6, 2, .inr (.inr (.inr (.inr fun _ => none)))))] ++ nw 34 r46 (ce_Past cy g r46) ++ nw 4 r57 (ce_Moment cy g r57))) := hD
  refine lv_aload_n hx hb dk11_67 rfl (lv_at hl 0 rfl) ?_
  refine mk_obj (host := "HiccupTown") (nM := 1) (f := 1) (n := 3) (S := 20) (ce := ce_Moment cy g) (fs := [.int 0, .int 0, .int 0, .int 0, .int 0, .int 0, .null, .null, .null]) hx hb hml hown hts hK hZ hN hO hP hD hS hA hAz hl.1 12 (by decide) (by decide) rfl tyX2 tyX2_ok (by decide) (mm_tw2 46 rfl rfl) (mm_tw1 180 rfl rfl) (mm_tw1 8 rfl rfl) (mt_Moment l D cy g z0) (mm_tw1 183 rfl rfl) rfl rfl (mm_tw1 182 rfl rfl) (Or.inr (mm_tn2 47 rfl rfl)) ⟨by decide +kernel, by decide +kernel, by decide +kernel⟩ ⟨Nat.le_of_ble_eq_true rfl, Nat.le_of_ble_eq_true rfl⟩ (Nat.le_of_ble_eq_true rfl) (Nat.le_of_ble_eq_true rfl) (by simp [Value.category]) dk11_68 dk11_71 dk11_72 (fun r68 H locs hP hD hS => ?_)
  have hP : va_P D vwCl ((a, .inr (10, [.ref (r5 0), .ref (r16 0), .ref (r27 0), .ref q39, .ref (r46 0), .ref (r57 0), .null, .null, .null, .null, .null, .null, .int 0, .int 0, .int 0])) :: (nw 2 r5 (ce_Tape cy g r5) ++ nw 11 r16 (ce_TownReader cy g r16) ++ nw 19 r27 (ce_Scene cy g r27) ++ [(q39, .inl (cy 6, 2, .inr (.inr (.inr (.inr fun _ => none)))))] ++ nw 34 r46 (ce_Past cy g r46) ++ nw 4 r57 (ce_Moment cy g r57) ++ nw 4 r68 (ce_Moment cy g r68))) H := hP
  have hD : va_D A ((a, .inr (10, [.ref (r5 0), .ref (r16 0), .ref (r27 0), .ref q39, .ref (r46 0), .ref (r57 0), .null, .null, .null, .null, .null, .null, .int 0, .int 0, .int 0])) :: (nw 2 r5 (ce_Tape cy g r5) ++ nw 11 r16 (ce_TownReader cy g r16) ++ nw 19 r27 (ce_Scene cy g r27) ++ [(q39, .inl (cy 6, 2, .inr (.inr (.inr (.inr fun _ => none)))))] ++ nw 34 r46 (ce_Past cy g r46) ++ nw 4 r57 (ce_Moment cy g r57) ++ nw 4 r68 (ce_Moment cy g r68))) := hD
  refine va_putF (D := D) (ci := 10) (v := .ref (r68 0)) (C := RX11) (T := TX11) (N := 15) hx hb hts mm_cw20 tyX11 tyX11_ok nmX11 hown hK hP hD hS 0 rfl rfl 6 (by decide) (hts _ (mm_tw2 131 rfl rfl)) (fun _ w => w) rfl hin rfl (tyX11_ok 6 (by decide)) rfl rfl (Nat.le_of_ble_eq_true rfl) dk11_75 (fun H locs hP hD hS => ?_)
  have hP : va_P D vwCl ((a, .inr (10, [.ref (r5 0), .ref (r16 0), .ref (r27 0), .ref q39, .ref (r46 0), .ref (r57 0), .ref (r68 0), .null, .null, .null, .null, .null, .int 0, .int 0, .int 0])) :: (nw 2 r5 (ce_Tape cy g r5) ++ nw 11 r16 (ce_TownReader cy g r16) ++ nw 19 r27 (ce_Scene cy g r27) ++ [(q39, .inl (cy 6, 2, .inr (.inr (.inr (.inr fun _ => none)))))] ++ nw 34 r46 (ce_Past cy g r46) ++ nw 4 r57 (ce_Moment cy g r57) ++ nw 4 r68 (ce_Moment cy g r68))) H := hP
  have hD : va_D A ((a, .inr (10, [.ref (r5 0), .ref (r16 0), .ref (r27 0), .ref q39, .ref (r46 0), .ref (r57 0), .ref (r68 0), .null, .null, .null, .null, .null, .int 0, .int 0, .int 0])) :: (nw 2 r5 (ce_Tape cy g r5) ++ nw 11 r16 (ce_TownReader cy g r16) ++ nw 19 r27 (ce_Scene cy g r27) ++ [(q39, .inl (cy 6, 2, .inr (.inr (.inr (.inr fun _ => none)))))] ++ nw 34 r46 (ce_Past cy g r46) ++ nw 4 r57 (ce_Moment cy g r57) ++ nw 4 r68 (ce_Moment cy g r68))) := hD
  refine lv_aload_n hx hb dk11_78 rfl (lv_at hl 0 rfl) ?_
  refine mk_obj (host := "HiccupTown") (nM := 1) (f := 1) (n := 1) (S := 256) (ce := ce_Clues cy g) (fs := [.null, .int 0, .int 0, .int 0]) hx hb hml hown hts hK hZ hN hO hP hD hS hA hAz hl.1 11 (by decide) (by decide) rfl tyX1 tyX1_ok (by decide) (mm_tw2 48 rfl rfl) (mm_tw2 49 rfl rfl) (mm_tw1 11 rfl rfl) (mt_Clues l D cy g z0) (mm_tw2 52 rfl rfl) rfl rfl (mm_tw2 51 rfl rfl) (Or.inr (mm_tn2 50 rfl rfl)) ⟨by decide +kernel, by decide +kernel, by decide +kernel⟩ ⟨Nat.le_of_ble_eq_true rfl, Nat.le_of_ble_eq_true rfl⟩ (Nat.le_of_ble_eq_true rfl) (Nat.le_of_ble_eq_true rfl) (by simp [Value.category]) dk11_79 dk11_82 dk11_83 (fun r79 H locs hP hD hS => ?_)
  have hP : va_P D vwCl ((a, .inr (10, [.ref (r5 0), .ref (r16 0), .ref (r27 0), .ref q39, .ref (r46 0), .ref (r57 0), .ref (r68 0), .null, .null, .null, .null, .null, .int 0, .int 0, .int 0])) :: (nw 2 r5 (ce_Tape cy g r5) ++ nw 11 r16 (ce_TownReader cy g r16) ++ nw 19 r27 (ce_Scene cy g r27) ++ [(q39, .inl (cy 6, 2, .inr (.inr (.inr (.inr fun _ => none)))))] ++ nw 34 r46 (ce_Past cy g r46) ++ nw 4 r57 (ce_Moment cy g r57) ++ nw 4 r68 (ce_Moment cy g r68) ++ nw 2 r79 (ce_Clues cy g r79))) H := hP
  have hD : va_D A ((a, .inr (10, [.ref (r5 0), .ref (r16 0), .ref (r27 0), .ref q39, .ref (r46 0), .ref (r57 0), .ref (r68 0), .null, .null, .null, .null, .null, .int 0, .int 0, .int 0])) :: (nw 2 r5 (ce_Tape cy g r5) ++ nw 11 r16 (ce_TownReader cy g r16) ++ nw 19 r27 (ce_Scene cy g r27) ++ [(q39, .inl (cy 6, 2, .inr (.inr (.inr (.inr fun _ => none)))))] ++ nw 34 r46 (ce_Past cy g r46) ++ nw 4 r57 (ce_Moment cy g r57) ++ nw 4 r68 (ce_Moment cy g r68) ++ nw 2 r79 (ce_Clues cy g r79))) := hD
  refine va_putF (D := D) (ci := 10) (v := .ref (r79 0)) (C := RX11) (T := TX11) (N := 15) hx hb hts mm_cw20 tyX11 tyX11_ok nmX11 hown hK hP hD hS 0 rfl rfl 7 (by decide) (hts _ (mm_tw2 132 rfl rfl)) (fun _ w => w) rfl hin rfl (tyX11_ok 7 (by decide)) rfl rfl (Nat.le_of_ble_eq_true rfl) dk11_86 (fun H locs hP hD hS => ?_)
  have hP : va_P D vwCl ((a, .inr (10, [.ref (r5 0), .ref (r16 0), .ref (r27 0), .ref q39, .ref (r46 0), .ref (r57 0), .ref (r68 0), .ref (r79 0), .null, .null, .null, .null, .int 0, .int 0, .int 0])) :: (nw 2 r5 (ce_Tape cy g r5) ++ nw 11 r16 (ce_TownReader cy g r16) ++ nw 19 r27 (ce_Scene cy g r27) ++ [(q39, .inl (cy 6, 2, .inr (.inr (.inr (.inr fun _ => none)))))] ++ nw 34 r46 (ce_Past cy g r46) ++ nw 4 r57 (ce_Moment cy g r57) ++ nw 4 r68 (ce_Moment cy g r68) ++ nw 2 r79 (ce_Clues cy g r79))) H := hP
  have hD : va_D A ((a, .inr (10, [.ref (r5 0), .ref (r16 0), .ref (r27 0), .ref q39, .ref (r46 0), .ref (r57 0), .ref (r68 0), .ref (r79 0), .null, .null, .null, .null, .int 0, .int 0, .int 0])) :: (nw 2 r5 (ce_Tape cy g r5) ++ nw 11 r16 (ce_TownReader cy g r16) ++ nw 19 r27 (ce_Scene cy g r27) ++ [(q39, .inl (cy 6, 2, .inr (.inr (.inr (.inr fun _ => none)))))] ++ nw 34 r46 (ce_Past cy g r46) ++ nw 4 r57 (ce_Moment cy g r57) ++ nw 4 r68 (ce_Moment cy g r68) ++ nw 2 r79 (ce_Clues cy g r79))) := hD
  refine lv_aload_n hx hb dk11_89 rfl (lv_at hl 0 rfl) ?_
  refine mk_obj (host := "HiccupTown") (nM := 1) (f := 1) (n := 8) (S := 377) (ce := ce_Rows cy g) (fs := [.null, .null, .int 0]) hx hb hml hown hts hK hZ hN hO hP hD hS hA hAz hl.1 15 (by decide) (by decide) rfl tyX5 tyX5_ok (by decide) (mm_tw2 71 rfl rfl) (mm_tw2 72 rfl rfl) (mm_tw1 12 rfl rfl) (mt_Rows l D cy g z0) (mm_tw2 75 rfl rfl) rfl rfl (mm_tw2 74 rfl rfl) (Or.inr (mm_tn2 73 rfl rfl)) ⟨by decide +kernel, by decide +kernel, by decide +kernel⟩ ⟨Nat.le_of_ble_eq_true rfl, Nat.le_of_ble_eq_true rfl⟩ (Nat.le_of_ble_eq_true rfl) (Nat.le_of_ble_eq_true rfl) (by simp [Value.category]) dk11_90 dk11_93 dk11_94 (fun r90 H locs hP hD hS => ?_)
  have hP : va_P D vwCl ((a, .inr (10, [.ref (r5 0), .ref (r16 0), .ref (r27 0), .ref q39, .ref (r46 0), .ref (r57 0), .ref (r68 0), .ref (r79 0), .null, .null, .null, .null, .int 0, .int 0, .int 0])) :: (nw 2 r5 (ce_Tape cy g r5) ++ nw 11 r16 (ce_TownReader cy g r16) ++ nw 19 r27 (ce_Scene cy g r27) ++ [(q39, .inl (cy 6, 2, .inr (.inr (.inr (.inr fun _ => none)))))] ++ nw 34 r46 (ce_Past cy g r46) ++ nw 4 r57 (ce_Moment cy g r57) ++ nw 4 r68 (ce_Moment cy g r68) ++ nw 2 r79 (ce_Clues cy g r79) ++ nw 9 r90 (ce_Rows cy g r90))) H := hP
  have hD : va_D A ((a, .inr (10, [.ref (r5 0), .ref (r16 0), .ref (r27 0), .ref q39, .ref (r46 0), .ref (r57 0), .ref (r68 0), .ref (r79 0), .null, .null, .null, .null, .int 0, .int 0, .int 0])) :: (nw 2 r5 (ce_Tape cy g r5) ++ nw 11 r16 (ce_TownReader cy g r16) ++ nw 19 r27 (ce_Scene cy g r27) ++ [(q39, .inl (cy 6, 2, .inr (.inr (.inr (.inr fun _ => none)))))] ++ nw 34 r46 (ce_Past cy g r46) ++ nw 4 r57 (ce_Moment cy g r57) ++ nw 4 r68 (ce_Moment cy g r68) ++ nw 2 r79 (ce_Clues cy g r79) ++ nw 9 r90 (ce_Rows cy g r90))) := hD
  refine va_putF (D := D) (ci := 10) (v := .ref (r90 0)) (C := RX11) (T := TX11) (N := 15) hx hb hts mm_cw20 tyX11 tyX11_ok nmX11 hown hK hP hD hS 0 rfl rfl 8 (by decide) (hts _ (mm_tw2 133 rfl rfl)) (fun _ w => w) rfl hin rfl (tyX11_ok 8 (by decide)) rfl rfl (Nat.le_of_ble_eq_true rfl) dk11_97 (fun H locs hP hD hS => ?_)
  have hP : va_P D vwCl ((a, .inr (10, [.ref (r5 0), .ref (r16 0), .ref (r27 0), .ref q39, .ref (r46 0), .ref (r57 0), .ref (r68 0), .ref (r79 0), .ref (r90 0), .null, .null, .null, .int 0, .int 0, .int 0])) :: (nw 2 r5 (ce_Tape cy g r5) ++ nw 11 r16 (ce_TownReader cy g r16) ++ nw 19 r27 (ce_Scene cy g r27) ++ [(q39, .inl (cy 6, 2, .inr (.inr (.inr (.inr fun _ => none)))))] ++ nw 34 r46 (ce_Past cy g r46) ++ nw 4 r57 (ce_Moment cy g r57) ++ nw 4 r68 (ce_Moment cy g r68) ++ nw 2 r79 (ce_Clues cy g r79) ++ nw 9 r90 (ce_Rows cy g r90))) H := hP
  have hD : va_D A ((a, .inr (10, [.ref (r5 0), .ref (r16 0), .ref (r27 0), .ref q39, .ref (r46 0), .ref (r57 0), .ref (r68 0), .ref (r79 0), .ref (r90 0), .null, .null, .null, .int 0, .int 0, .int 0])) :: (nw 2 r5 (ce_Tape cy g r5) ++ nw 11 r16 (ce_TownReader cy g r16) ++ nw 19 r27 (ce_Scene cy g r27) ++ [(q39, .inl (cy 6, 2, .inr (.inr (.inr (.inr fun _ => none)))))] ++ nw 34 r46 (ce_Past cy g r46) ++ nw 4 r57 (ce_Moment cy g r57) ++ nw 4 r68 (ce_Moment cy g r68) ++ nw 2 r79 (ce_Clues cy g r79) ++ nw 9 r90 (ce_Rows cy g r90))) := hD
  refine lv_aload_n hx hb dk11_100 rfl (lv_at hl 0 rfl) ?_
  refine mk_obj (host := "HiccupTown") (nM := 1) (f := 1) (n := 2) (S := 80) (ce := ce_Book cy g) (fs := [.null, .null, .int 0, .int 0, .int 0, .int 0, .int 0, .int 0]) hx hb hml hown hts hK hZ hN hO hP hD hS hA hAz hl.1 10 (by decide) (by decide) rfl tyX0 tyX0_ok (by decide) (mm_tw2 91 rfl rfl) (mm_tw2 92 rfl rfl) (mm_tw1 13 rfl rfl) (mt_Book l D cy g z0) (mm_tw2 95 rfl rfl) rfl rfl (mm_tw2 94 rfl rfl) (Or.inr (mm_tn2 93 rfl rfl)) ⟨by decide +kernel, by decide +kernel, by decide +kernel⟩ ⟨Nat.le_of_ble_eq_true rfl, Nat.le_of_ble_eq_true rfl⟩ (Nat.le_of_ble_eq_true rfl) (Nat.le_of_ble_eq_true rfl) (by simp [Value.category]) dk11_101 dk11_104 dk11_105 (fun r101 H locs hP hD hS => ?_)
  have hP : va_P D vwCl ((a, .inr (10, [.ref (r5 0), .ref (r16 0), .ref (r27 0), .ref q39, .ref (r46 0), .ref (r57 0), .ref (r68 0), .ref (r79 0), .ref (r90 0), .null, .null, .null, .int 0, .int 0, .int 0])) :: (nw 2 r5 (ce_Tape cy g r5) ++ nw 11 r16 (ce_TownReader cy g r16) ++ nw 19 r27 (ce_Scene cy g r27) ++ [(q39, .inl (cy 6, 2, .inr (.inr (.inr (.inr fun _ => none)))))] ++ nw 34 r46 (ce_Past cy g r46) ++ nw 4 r57 (ce_Moment cy g r57) ++ nw 4 r68 (ce_Moment cy g r68) ++ nw 2 r79 (ce_Clues cy g r79) ++ nw 9 r90 (ce_Rows cy g r90) ++ nw 3 r101 (ce_Book cy g r101))) H := hP
  have hD : va_D A ((a, .inr (10, [.ref (r5 0), .ref (r16 0), .ref (r27 0), .ref q39, .ref (r46 0), .ref (r57 0), .ref (r68 0), .ref (r79 0), .ref (r90 0), .null, .null, .null, .int 0, .int 0, .int 0])) :: (nw 2 r5 (ce_Tape cy g r5) ++ nw 11 r16 (ce_TownReader cy g r16) ++ nw 19 r27 (ce_Scene cy g r27) ++ [(q39, .inl (cy 6, 2, .inr (.inr (.inr (.inr fun _ => none)))))] ++ nw 34 r46 (ce_Past cy g r46) ++ nw 4 r57 (ce_Moment cy g r57) ++ nw 4 r68 (ce_Moment cy g r68) ++ nw 2 r79 (ce_Clues cy g r79) ++ nw 9 r90 (ce_Rows cy g r90) ++ nw 3 r101 (ce_Book cy g r101))) := hD
  refine va_putF (D := D) (ci := 10) (v := .ref (r101 0)) (C := RX11) (T := TX11) (N := 15) hx hb hts mm_cw20 tyX11 tyX11_ok nmX11 hown hK hP hD hS 0 rfl rfl 9 (by decide) (hts _ (mm_tw2 134 rfl rfl)) (fun _ w => w) rfl hin rfl (tyX11_ok 9 (by decide)) rfl rfl (Nat.le_of_ble_eq_true rfl) dk11_108 (fun H locs hP hD hS => ?_)
  have hP : va_P D vwCl ((a, .inr (10, [.ref (r5 0), .ref (r16 0), .ref (r27 0), .ref q39, .ref (r46 0), .ref (r57 0), .ref (r68 0), .ref (r79 0), .ref (r90 0), .ref (r101 0), .null, .null, .int 0, .int 0, .int 0])) :: (nw 2 r5 (ce_Tape cy g r5) ++ nw 11 r16 (ce_TownReader cy g r16) ++ nw 19 r27 (ce_Scene cy g r27) ++ [(q39, .inl (cy 6, 2, .inr (.inr (.inr (.inr fun _ => none)))))] ++ nw 34 r46 (ce_Past cy g r46) ++ nw 4 r57 (ce_Moment cy g r57) ++ nw 4 r68 (ce_Moment cy g r68) ++ nw 2 r79 (ce_Clues cy g r79) ++ nw 9 r90 (ce_Rows cy g r90) ++ nw 3 r101 (ce_Book cy g r101))) H := hP
  have hD : va_D A ((a, .inr (10, [.ref (r5 0), .ref (r16 0), .ref (r27 0), .ref q39, .ref (r46 0), .ref (r57 0), .ref (r68 0), .ref (r79 0), .ref (r90 0), .ref (r101 0), .null, .null, .int 0, .int 0, .int 0])) :: (nw 2 r5 (ce_Tape cy g r5) ++ nw 11 r16 (ce_TownReader cy g r16) ++ nw 19 r27 (ce_Scene cy g r27) ++ [(q39, .inl (cy 6, 2, .inr (.inr (.inr (.inr fun _ => none)))))] ++ nw 34 r46 (ce_Past cy g r46) ++ nw 4 r57 (ce_Moment cy g r57) ++ nw 4 r68 (ce_Moment cy g r68) ++ nw 2 r79 (ce_Clues cy g r79) ++ nw 9 r90 (ce_Rows cy g r90) ++ nw 3 r101 (ce_Book cy g r101))) := hD
  refine lv_aload_n hx hb dk11_111 rfl (lv_at hl 0 rfl) ?_
  refine mk_obj (host := "HiccupTown") (nM := 1) (f := 1) (n := 3) (S := 120) (ce := ce_Sentence cy g) (fs := [.null, .null, .null, .int 0, .int 0]) hx hb hml hown hts hK hZ hN hO hP hD hS hA hAz hl.1 17 (by decide) (by decide) rfl tyX7 tyX7_ok (by decide) (mm_tw2 123 rfl rfl) (mm_tw1 226 rfl rfl) (mm_tw1 9 rfl rfl) (mt_Sentence l D cy g z0) (mm_tw1 229 rfl rfl) rfl rfl (mm_tw1 228 rfl rfl) (Or.inr (mm_tn2 124 rfl rfl)) ⟨by decide +kernel, by decide +kernel, by decide +kernel⟩ ⟨Nat.le_of_ble_eq_true rfl, Nat.le_of_ble_eq_true rfl⟩ (Nat.le_of_ble_eq_true rfl) (Nat.le_of_ble_eq_true rfl) (by simp [Value.category]) dk11_112 dk11_115 dk11_116 (fun r112 H locs hP hD hS => ?_)
  have hP : va_P D vwCl ((a, .inr (10, [.ref (r5 0), .ref (r16 0), .ref (r27 0), .ref q39, .ref (r46 0), .ref (r57 0), .ref (r68 0), .ref (r79 0), .ref (r90 0), .ref (r101 0), .null, .null, .int 0, .int 0, .int 0])) :: (nw 2 r5 (ce_Tape cy g r5) ++ nw 11 r16 (ce_TownReader cy g r16) ++ nw 19 r27 (ce_Scene cy g r27) ++ [(q39, .inl (cy 6, 2, .inr (.inr (.inr (.inr fun _ => none)))))] ++ nw 34 r46 (ce_Past cy g r46) ++ nw 4 r57 (ce_Moment cy g r57) ++ nw 4 r68 (ce_Moment cy g r68) ++ nw 2 r79 (ce_Clues cy g r79) ++ nw 9 r90 (ce_Rows cy g r90) ++ nw 3 r101 (ce_Book cy g r101) ++ nw 4 r112 (ce_Sentence cy g r112))) H := hP
  have hD : va_D A ((a, .inr (10, [.ref (r5 0), .ref (r16 0), .ref (r27 0), .ref q39, .ref (r46 0), .ref (r57 0), .ref (r68 0), .ref (r79 0), .ref (r90 0), .ref (r101 0), .null, .null, .int 0, .int 0, .int 0])) :: (nw 2 r5 (ce_Tape cy g r5) ++ nw 11 r16 (ce_TownReader cy g r16) ++ nw 19 r27 (ce_Scene cy g r27) ++ [(q39, .inl (cy 6, 2, .inr (.inr (.inr (.inr fun _ => none)))))] ++ nw 34 r46 (ce_Past cy g r46) ++ nw 4 r57 (ce_Moment cy g r57) ++ nw 4 r68 (ce_Moment cy g r68) ++ nw 2 r79 (ce_Clues cy g r79) ++ nw 9 r90 (ce_Rows cy g r90) ++ nw 3 r101 (ce_Book cy g r101) ++ nw 4 r112 (ce_Sentence cy g r112))) := hD
  refine va_putF (D := D) (ci := 10) (v := .ref (r112 0)) (C := RX11) (T := TX11) (N := 15) hx hb hts mm_cw20 tyX11 tyX11_ok nmX11 hown hK hP hD hS 0 rfl rfl 10 (by decide) (hts _ (mm_tw2 135 rfl rfl)) (fun _ w => w) rfl hin rfl (tyX11_ok 10 (by decide)) rfl rfl (Nat.le_of_ble_eq_true rfl) dk11_119 (fun H locs hP hD hS => ?_)
  have hP : va_P D vwCl ((a, .inr (10, [.ref (r5 0), .ref (r16 0), .ref (r27 0), .ref q39, .ref (r46 0), .ref (r57 0), .ref (r68 0), .ref (r79 0), .ref (r90 0), .ref (r101 0), .ref (r112 0), .null, .int 0, .int 0, .int 0])) :: (nw 2 r5 (ce_Tape cy g r5) ++ nw 11 r16 (ce_TownReader cy g r16) ++ nw 19 r27 (ce_Scene cy g r27) ++ [(q39, .inl (cy 6, 2, .inr (.inr (.inr (.inr fun _ => none)))))] ++ nw 34 r46 (ce_Past cy g r46) ++ nw 4 r57 (ce_Moment cy g r57) ++ nw 4 r68 (ce_Moment cy g r68) ++ nw 2 r79 (ce_Clues cy g r79) ++ nw 9 r90 (ce_Rows cy g r90) ++ nw 3 r101 (ce_Book cy g r101) ++ nw 4 r112 (ce_Sentence cy g r112))) H := hP
  have hD : va_D A ((a, .inr (10, [.ref (r5 0), .ref (r16 0), .ref (r27 0), .ref q39, .ref (r46 0), .ref (r57 0), .ref (r68 0), .ref (r79 0), .ref (r90 0), .ref (r101 0), .ref (r112 0), .null, .int 0, .int 0, .int 0])) :: (nw 2 r5 (ce_Tape cy g r5) ++ nw 11 r16 (ce_TownReader cy g r16) ++ nw 19 r27 (ce_Scene cy g r27) ++ [(q39, .inl (cy 6, 2, .inr (.inr (.inr (.inr fun _ => none)))))] ++ nw 34 r46 (ce_Past cy g r46) ++ nw 4 r57 (ce_Moment cy g r57) ++ nw 4 r68 (ce_Moment cy g r68) ++ nw 2 r79 (ce_Clues cy g r79) ++ nw 9 r90 (ce_Rows cy g r90) ++ nw 3 r101 (ce_Book cy g r101) ++ nw 4 r112 (ce_Sentence cy g r112))) := hD
  refine lv_aload_n hx hb dk11_122 rfl (lv_at hl 0 rfl) ?_
  refine lv_bipush (v := 21) hx hb dk11_123 (by decide) ?_
  refine mk_ab hx hb hts hK hP hD hS hA 21 (by decide) (by decide) (by decide) (Nat.le_of_ble_eq_true rfl) (Nat.le_of_ble_eq_true rfl) dk11_125 (fun q125 H hP hD hS => ?_)
  have hP : va_P D vwCl ((a, .inr (10, [.ref (r5 0), .ref (r16 0), .ref (r27 0), .ref q39, .ref (r46 0), .ref (r57 0), .ref (r68 0), .ref (r79 0), .ref (r90 0), .ref (r101 0), .ref (r112 0), .null, .int 0, .int 0, .int 0])) :: (nw 2 r5 (ce_Tape cy g r5) ++ nw 11 r16 (ce_TownReader cy g r16) ++ nw 19 r27 (ce_Scene cy g r27) ++ [(q39, .inl (cy 6, 2, .inr (.inr (.inr (.inr fun _ => none)))))] ++ nw 34 r46 (ce_Past cy g r46) ++ nw 4 r57 (ce_Moment cy g r57) ++ nw 4 r68 (ce_Moment cy g r68) ++ nw 2 r79 (ce_Clues cy g r79) ++ nw 9 r90 (ce_Rows cy g r90) ++ nw 3 r101 (ce_Book cy g r101) ++ nw 4 r112 (ce_Sentence cy g r112) ++ [(q125, .inl (cy 3, 21, .inl fun _ => 0))])) H := hP
  have hD : va_D A ((a, .inr (10, [.ref (r5 0), .ref (r16 0), .ref (r27 0), .ref q39, .ref (r46 0), .ref (r57 0), .ref (r68 0), .ref (r79 0), .ref (r90 0), .ref (r101 0), .ref (r112 0), .null, .int 0, .int 0, .int 0])) :: (nw 2 r5 (ce_Tape cy g r5) ++ nw 11 r16 (ce_TownReader cy g r16) ++ nw 19 r27 (ce_Scene cy g r27) ++ [(q39, .inl (cy 6, 2, .inr (.inr (.inr (.inr fun _ => none)))))] ++ nw 34 r46 (ce_Past cy g r46) ++ nw 4 r57 (ce_Moment cy g r57) ++ nw 4 r68 (ce_Moment cy g r68) ++ nw 2 r79 (ce_Clues cy g r79) ++ nw 9 r90 (ce_Rows cy g r90) ++ nw 3 r101 (ce_Book cy g r101) ++ nw 4 r112 (ce_Sentence cy g r112) ++ [(q125, .inl (cy 3, 21, .inl fun _ => 0))])) := hD
  refine va_putF (D := D) (ci := 10) (v := .ref q125) (C := RX11) (T := TX11) (N := 15) hx hb hts mm_cw20 tyX11 tyX11_ok nmX11 hown hK hP hD hS 0 rfl rfl 11 (by decide) (hts _ (mm_tw2 136 rfl rfl)) (fun _ w => w) rfl hin rfl (tyX11_ok 11 (by decide)) rfl rfl (Nat.le_of_ble_eq_true rfl) dk11_127 (fun H locs hP hD hS => ?_)
  have hP : va_P D vwCl ((a, .inr (10, [.ref (r5 0), .ref (r16 0), .ref (r27 0), .ref q39, .ref (r46 0), .ref (r57 0), .ref (r68 0), .ref (r79 0), .ref (r90 0), .ref (r101 0), .ref (r112 0), .ref q125, .int 0, .int 0, .int 0])) :: (nw 2 r5 (ce_Tape cy g r5) ++ nw 11 r16 (ce_TownReader cy g r16) ++ nw 19 r27 (ce_Scene cy g r27) ++ [(q39, .inl (cy 6, 2, .inr (.inr (.inr (.inr fun _ => none)))))] ++ nw 34 r46 (ce_Past cy g r46) ++ nw 4 r57 (ce_Moment cy g r57) ++ nw 4 r68 (ce_Moment cy g r68) ++ nw 2 r79 (ce_Clues cy g r79) ++ nw 9 r90 (ce_Rows cy g r90) ++ nw 3 r101 (ce_Book cy g r101) ++ nw 4 r112 (ce_Sentence cy g r112) ++ [(q125, .inl (cy 3, 21, .inl fun _ => 0))])) H := hP
  have hD : va_D A ((a, .inr (10, [.ref (r5 0), .ref (r16 0), .ref (r27 0), .ref q39, .ref (r46 0), .ref (r57 0), .ref (r68 0), .ref (r79 0), .ref (r90 0), .ref (r101 0), .ref (r112 0), .ref q125, .int 0, .int 0, .int 0])) :: (nw 2 r5 (ce_Tape cy g r5) ++ nw 11 r16 (ce_TownReader cy g r16) ++ nw 19 r27 (ce_Scene cy g r27) ++ [(q39, .inl (cy 6, 2, .inr (.inr (.inr (.inr fun _ => none)))))] ++ nw 34 r46 (ce_Past cy g r46) ++ nw 4 r57 (ce_Moment cy g r57) ++ nw 4 r68 (ce_Moment cy g r68) ++ nw 2 r79 (ce_Clues cy g r79) ++ nw 9 r90 (ce_Rows cy g r90) ++ nw 3 r101 (ce_Book cy g r101) ++ nw 4 r112 (ce_Sentence cy g r112) ++ [(q125, .inl (cy 3, 21, .inl fun _ => 0))])) := hD
  refine lv_aload_n hx hb dk11_130 rfl (lv_at hl 0 rfl) ?_
  refine lv_iconst (v := (-1)) hx hb dk11_131 (by decide) ?_
  refine va_put (D := D) (ci := 10) (v := .int (-1)) (C := RX11) (T := TX11) (N := 15) hx hb hts mm_cw20 tyX11 tyX11_ok nmX11 hown hK hP hD hS 0 rfl rfl 14 (by decide) (hts _ (mm_tw2 139 rfl rfl)) (fun _ w => w) rfl (tyX11_ok 14 (by decide)) rfl rfl (Nat.le_of_ble_eq_true rfl) dk11_132 (fun H locs hP hD hS => ?_)
  have hP : va_P D vwCl ((a, .inr (10, [.ref (r5 0), .ref (r16 0), .ref (r27 0), .ref q39, .ref (r46 0), .ref (r57 0), .ref (r68 0), .ref (r79 0), .ref (r90 0), .ref (r101 0), .ref (r112 0), .ref q125, .int 0, .int 0, .int (-1)])) :: (nw 2 r5 (ce_Tape cy g r5) ++ nw 11 r16 (ce_TownReader cy g r16) ++ nw 19 r27 (ce_Scene cy g r27) ++ [(q39, .inl (cy 6, 2, .inr (.inr (.inr (.inr fun _ => none)))))] ++ nw 34 r46 (ce_Past cy g r46) ++ nw 4 r57 (ce_Moment cy g r57) ++ nw 4 r68 (ce_Moment cy g r68) ++ nw 2 r79 (ce_Clues cy g r79) ++ nw 9 r90 (ce_Rows cy g r90) ++ nw 3 r101 (ce_Book cy g r101) ++ nw 4 r112 (ce_Sentence cy g r112) ++ [(q125, .inl (cy 3, 21, .inl fun _ => 0))])) H := hP
  have hD : va_D A ((a, .inr (10, [.ref (r5 0), .ref (r16 0), .ref (r27 0), .ref q39, .ref (r46 0), .ref (r57 0), .ref (r68 0), .ref (r79 0), .ref (r90 0), .ref (r101 0), .ref (r112 0), .ref q125, .int 0, .int 0, .int (-1)])) :: (nw 2 r5 (ce_Tape cy g r5) ++ nw 11 r16 (ce_TownReader cy g r16) ++ nw 19 r27 (ce_Scene cy g r27) ++ [(q39, .inl (cy 6, 2, .inr (.inr (.inr (.inr fun _ => none)))))] ++ nw 34 r46 (ce_Past cy g r46) ++ nw 4 r57 (ce_Moment cy g r57) ++ nw 4 r68 (ce_Moment cy g r68) ++ nw 2 r79 (ce_Clues cy g r79) ++ nw 9 r90 (ce_Rows cy g r90) ++ nw 3 r101 (ce_Book cy g r101) ++ nw 4 r112 (ce_Sentence cy g r112) ++ [(q125, .inl (cy 3, 21, .inl fun _ => 0))])) := hD
  refine lv_iconst (v := 0) hx hb dk11_135 (by decide) ?_
  refine lv_istore_n hx hb dk11_136 rfl hl (by decide) (lv' := [(1, .int 0), (0, .ref a)]) rfl (fun ls hl => ?_)
  refine lv_iload_n hx hb dk11_137 rfl (lv_at hl 0 rfl) ?_
  refine lv_iconst (v := 2) hx hb dk11_138 (by decide) ?_
  refine lv_icmp_ge (tgt := 161) hx hb dk11_139 (by decide) (fun w => absurd w (by decide)) (fun _ => ?_)
  refine lv_aload_n hx hb dk11_142 rfl (lv_at hl 1 rfl) ?_
  refine va_get (D := D) (ci := 10) (v := .ref q39) (C := RX11) (T := TX11) (N := 15) hx hb hts mm_cw20 hown hK hP 0 rfl rfl 3 (by decide) (hts _ (mm_tw2 128 rfl rfl)) (fun _ w => w) rfl dk11_143 ?_
  refine lv_iload_n hx hb dk11_146 rfl (lv_at hl 0 rfl) ?_
  refine mk_obj (host := "HiccupTown") (nM := 1) (f := 2) (n := 18) (S := 239) (ce := ce_Scene cy g) (fs := [.null, .null, .null, .int 0]) hx hb hml hown hts hK hZ hN hO hP hD hS hA hAz hl.1 16 (by decide) (by decide) rfl tyX6 tyX6_ok (by decide) (mm_tw1 171 rfl rfl) (mm_tw1 172 rfl rfl) (mm_tw1 7 rfl rfl) (mt_Scene l D cy g z0) (mm_tw1 175 rfl rfl) rfl rfl (mm_tw1 174 rfl rfl) (Or.inr (mm_tn1 173 rfl rfl)) ⟨by decide +kernel, by decide +kernel, by decide +kernel⟩ ⟨Nat.le_of_ble_eq_true rfl, Nat.le_of_ble_eq_true rfl⟩ (Nat.le_of_ble_eq_true rfl) (Nat.le_of_ble_eq_true rfl) (by simp [Value.category]) dk11_147 dk11_150 dk11_151 (fun r147 H locs hP hD hS => ?_)
  have hP : va_P D vwCl ((a, .inr (10, [.ref (r5 0), .ref (r16 0), .ref (r27 0), .ref q39, .ref (r46 0), .ref (r57 0), .ref (r68 0), .ref (r79 0), .ref (r90 0), .ref (r101 0), .ref (r112 0), .ref q125, .int 0, .int 0, .int (-1)])) :: (nw 2 r5 (ce_Tape cy g r5) ++ nw 11 r16 (ce_TownReader cy g r16) ++ nw 19 r27 (ce_Scene cy g r27) ++ [(q39, .inl (cy 6, 2, .inr (.inr (.inr (.inr fun _ => none)))))] ++ nw 34 r46 (ce_Past cy g r46) ++ nw 4 r57 (ce_Moment cy g r57) ++ nw 4 r68 (ce_Moment cy g r68) ++ nw 2 r79 (ce_Clues cy g r79) ++ nw 9 r90 (ce_Rows cy g r90) ++ nw 3 r101 (ce_Book cy g r101) ++ nw 4 r112 (ce_Sentence cy g r112) ++ [(q125, .inl (cy 3, 21, .inl fun _ => 0))] ++ nw 19 r147 (ce_Scene cy g r147))) H := hP
  have hD : va_D A ((a, .inr (10, [.ref (r5 0), .ref (r16 0), .ref (r27 0), .ref q39, .ref (r46 0), .ref (r57 0), .ref (r68 0), .ref (r79 0), .ref (r90 0), .ref (r101 0), .ref (r112 0), .ref q125, .int 0, .int 0, .int (-1)])) :: (nw 2 r5 (ce_Tape cy g r5) ++ nw 11 r16 (ce_TownReader cy g r16) ++ nw 19 r27 (ce_Scene cy g r27) ++ [(q39, .inl (cy 6, 2, .inr (.inr (.inr (.inr fun _ => none)))))] ++ nw 34 r46 (ce_Past cy g r46) ++ nw 4 r57 (ce_Moment cy g r57) ++ nw 4 r68 (ce_Moment cy g r68) ++ nw 2 r79 (ce_Clues cy g r79) ++ nw 9 r90 (ce_Rows cy g r90) ++ nw 3 r101 (ce_Book cy g r101) ++ nw 4 r112 (ce_Sentence cy g r112) ++ [(q125, .inl (cy 3, 21, .inl fun _ => 0))] ++ nw 19 r147 (ce_Scene cy g r147))) := hD
  refine va_astq hx hb hK hP hD hS 33 6 95 6 rfl (mm_tys_get (by decide)) rfl rfl (by unfold vp_in; decide) dk11_154 (fun H locs hP hD hS => ?_)
  have hP : va_P D vwCl ((a, .inr (10, [.ref (r5 0), .ref (r16 0), .ref (r27 0), .ref q39, .ref (r46 0), .ref (r57 0), .ref (r68 0), .ref (r79 0), .ref (r90 0), .ref (r101 0), .ref (r112 0), .ref q125, .int 0, .int 0, .int (-1)])) :: (nw 2 r5 (ce_Tape cy g r5) ++ nw 11 r16 (ce_TownReader cy g r16) ++ nw 19 r27 (ce_Scene cy g r27) ++ [(q39, .inl (cy 6, 2, .inr (.inr (.inr (.inr (va_up (fun _ => none) (0 : Int32).toNatClampNeg (some (r147 0))))))))] ++ nw 34 r46 (ce_Past cy g r46) ++ nw 4 r57 (ce_Moment cy g r57) ++ nw 4 r68 (ce_Moment cy g r68) ++ nw 2 r79 (ce_Clues cy g r79) ++ nw 9 r90 (ce_Rows cy g r90) ++ nw 3 r101 (ce_Book cy g r101) ++ nw 4 r112 (ce_Sentence cy g r112) ++ [(q125, .inl (cy 3, 21, .inl fun _ => 0))] ++ nw 19 r147 (ce_Scene cy g r147))) H := hP
  have hD : va_D A ((a, .inr (10, [.ref (r5 0), .ref (r16 0), .ref (r27 0), .ref q39, .ref (r46 0), .ref (r57 0), .ref (r68 0), .ref (r79 0), .ref (r90 0), .ref (r101 0), .ref (r112 0), .ref q125, .int 0, .int 0, .int (-1)])) :: (nw 2 r5 (ce_Tape cy g r5) ++ nw 11 r16 (ce_TownReader cy g r16) ++ nw 19 r27 (ce_Scene cy g r27) ++ [(q39, .inl (cy 6, 2, .inr (.inr (.inr (.inr (va_up (fun _ => none) (0 : Int32).toNatClampNeg (some (r147 0))))))))] ++ nw 34 r46 (ce_Past cy g r46) ++ nw 4 r57 (ce_Moment cy g r57) ++ nw 4 r68 (ce_Moment cy g r68) ++ nw 2 r79 (ce_Clues cy g r79) ++ nw 9 r90 (ce_Rows cy g r90) ++ nw 3 r101 (ce_Book cy g r101) ++ nw 4 r112 (ce_Sentence cy g r112) ++ [(q125, .inl (cy 3, 21, .inl fun _ => 0))] ++ nw 19 r147 (ce_Scene cy g r147))) := hD
  refine lv_iinc (k := 0) (v := 1) hx hb dk11_155 hl rfl (by decide) (by decide) (lv' := [(1, .int 1), (0, .ref a)]) rfl (fun ls hl => ?_)
  refine lv_goto (tgt := 137) hx hb dk11_158 (by decide) ?_
  refine lv_iload_n hx hb dk11_137 rfl (lv_at hl 0 rfl) ?_
  refine lv_iconst (v := 2) hx hb dk11_138 (by decide) ?_
  refine lv_icmp_ge (tgt := 161) hx hb dk11_139 (by decide) (fun w => absurd w (by decide)) (fun _ => ?_)
  refine lv_aload_n hx hb dk11_142 rfl (lv_at hl 1 rfl) ?_
  refine va_get (D := D) (ci := 10) (v := .ref q39) (C := RX11) (T := TX11) (N := 15) hx hb hts mm_cw20 hown hK hP 0 rfl rfl 3 (by decide) (hts _ (mm_tw2 128 rfl rfl)) (fun _ w => w) rfl dk11_143 ?_
  refine lv_iload_n hx hb dk11_146 rfl (lv_at hl 0 rfl) ?_
  refine mk_obj (host := "HiccupTown") (nM := 1) (f := 2) (n := 18) (S := 239) (ce := ce_Scene cy g) (fs := [.null, .null, .null, .int 0]) hx hb hml hown hts hK hZ hN hO hP hD hS hA hAz hl.1 16 (by decide) (by decide) rfl tyX6 tyX6_ok (by decide) (mm_tw1 171 rfl rfl) (mm_tw1 172 rfl rfl) (mm_tw1 7 rfl rfl) (mt_Scene l D cy g z0) (mm_tw1 175 rfl rfl) rfl rfl (mm_tw1 174 rfl rfl) (Or.inr (mm_tn1 173 rfl rfl)) ⟨by decide +kernel, by decide +kernel, by decide +kernel⟩ ⟨Nat.le_of_ble_eq_true rfl, Nat.le_of_ble_eq_true rfl⟩ (Nat.le_of_ble_eq_true rfl) (Nat.le_of_ble_eq_true rfl) (by simp [Value.category]) dk11_147 dk11_150 dk11_151 (fun r1147 H locs hP hD hS => ?_)
  have hP : va_P D vwCl ((a, .inr (10, [.ref (r5 0), .ref (r16 0), .ref (r27 0), .ref q39, .ref (r46 0), .ref (r57 0), .ref (r68 0), .ref (r79 0), .ref (r90 0), .ref (r101 0), .ref (r112 0), .ref q125, .int 0, .int 0, .int (-1)])) :: (nw 2 r5 (ce_Tape cy g r5) ++ nw 11 r16 (ce_TownReader cy g r16) ++ nw 19 r27 (ce_Scene cy g r27) ++ [(q39, .inl (cy 6, 2, .inr (.inr (.inr (.inr (va_up (fun _ => none) (0 : Int32).toNatClampNeg (some (r147 0))))))))] ++ nw 34 r46 (ce_Past cy g r46) ++ nw 4 r57 (ce_Moment cy g r57) ++ nw 4 r68 (ce_Moment cy g r68) ++ nw 2 r79 (ce_Clues cy g r79) ++ nw 9 r90 (ce_Rows cy g r90) ++ nw 3 r101 (ce_Book cy g r101) ++ nw 4 r112 (ce_Sentence cy g r112) ++ [(q125, .inl (cy 3, 21, .inl fun _ => 0))] ++ nw 19 r147 (ce_Scene cy g r147) ++ nw 19 r1147 (ce_Scene cy g r1147))) H := hP
  have hD : va_D A ((a, .inr (10, [.ref (r5 0), .ref (r16 0), .ref (r27 0), .ref q39, .ref (r46 0), .ref (r57 0), .ref (r68 0), .ref (r79 0), .ref (r90 0), .ref (r101 0), .ref (r112 0), .ref q125, .int 0, .int 0, .int (-1)])) :: (nw 2 r5 (ce_Tape cy g r5) ++ nw 11 r16 (ce_TownReader cy g r16) ++ nw 19 r27 (ce_Scene cy g r27) ++ [(q39, .inl (cy 6, 2, .inr (.inr (.inr (.inr (va_up (fun _ => none) (0 : Int32).toNatClampNeg (some (r147 0))))))))] ++ nw 34 r46 (ce_Past cy g r46) ++ nw 4 r57 (ce_Moment cy g r57) ++ nw 4 r68 (ce_Moment cy g r68) ++ nw 2 r79 (ce_Clues cy g r79) ++ nw 9 r90 (ce_Rows cy g r90) ++ nw 3 r101 (ce_Book cy g r101) ++ nw 4 r112 (ce_Sentence cy g r112) ++ [(q125, .inl (cy 3, 21, .inl fun _ => 0))] ++ nw 19 r147 (ce_Scene cy g r147) ++ nw 19 r1147 (ce_Scene cy g r1147))) := hD
  refine va_astq hx hb hK hP hD hS 33 6 114 6 rfl (mm_tys_get (by decide)) rfl rfl (by unfold vp_in; decide) dk11_154 (fun H locs hP hD hS => ?_)
  have hP : va_P D vwCl ((a, .inr (10, [.ref (r5 0), .ref (r16 0), .ref (r27 0), .ref q39, .ref (r46 0), .ref (r57 0), .ref (r68 0), .ref (r79 0), .ref (r90 0), .ref (r101 0), .ref (r112 0), .ref q125, .int 0, .int 0, .int (-1)])) :: (nw 2 r5 (ce_Tape cy g r5) ++ nw 11 r16 (ce_TownReader cy g r16) ++ nw 19 r27 (ce_Scene cy g r27) ++ [(q39, .inl (cy 6, 2, .inr (.inr (.inr (.inr (va_up (va_up (fun _ => none) (0 : Int32).toNatClampNeg (some (r147 0))) (1 : Int32).toNatClampNeg (some (r1147 0))))))))] ++ nw 34 r46 (ce_Past cy g r46) ++ nw 4 r57 (ce_Moment cy g r57) ++ nw 4 r68 (ce_Moment cy g r68) ++ nw 2 r79 (ce_Clues cy g r79) ++ nw 9 r90 (ce_Rows cy g r90) ++ nw 3 r101 (ce_Book cy g r101) ++ nw 4 r112 (ce_Sentence cy g r112) ++ [(q125, .inl (cy 3, 21, .inl fun _ => 0))] ++ nw 19 r147 (ce_Scene cy g r147) ++ nw 19 r1147 (ce_Scene cy g r1147))) H := hP
  have hD : va_D A ((a, .inr (10, [.ref (r5 0), .ref (r16 0), .ref (r27 0), .ref q39, .ref (r46 0), .ref (r57 0), .ref (r68 0), .ref (r79 0), .ref (r90 0), .ref (r101 0), .ref (r112 0), .ref q125, .int 0, .int 0, .int (-1)])) :: (nw 2 r5 (ce_Tape cy g r5) ++ nw 11 r16 (ce_TownReader cy g r16) ++ nw 19 r27 (ce_Scene cy g r27) ++ [(q39, .inl (cy 6, 2, .inr (.inr (.inr (.inr (va_up (va_up (fun _ => none) (0 : Int32).toNatClampNeg (some (r147 0))) (1 : Int32).toNatClampNeg (some (r1147 0))))))))] ++ nw 34 r46 (ce_Past cy g r46) ++ nw 4 r57 (ce_Moment cy g r57) ++ nw 4 r68 (ce_Moment cy g r68) ++ nw 2 r79 (ce_Clues cy g r79) ++ nw 9 r90 (ce_Rows cy g r90) ++ nw 3 r101 (ce_Book cy g r101) ++ nw 4 r112 (ce_Sentence cy g r112) ++ [(q125, .inl (cy 3, 21, .inl fun _ => 0))] ++ nw 19 r147 (ce_Scene cy g r147) ++ nw 19 r1147 (ce_Scene cy g r1147))) := hD
  refine lv_iinc (k := 0) (v := 2) hx hb dk11_155 hl rfl (by decide) (by decide) (lv' := [(1, .int 2), (0, .ref a)]) rfl (fun ls hl => ?_)
  refine lv_goto (tgt := 137) hx hb dk11_158 (by decide) ?_
  refine lv_iload_n hx hb dk11_137 rfl (lv_at hl 0 rfl) ?_
  refine lv_iconst (v := 2) hx hb dk11_138 (by decide) ?_
  refine lv_icmp_ge (tgt := 161) hx hb dk11_139 (by decide) (fun _ => ?_) (fun w => absurd (by decide) w)
  have hP9 : va_P D vwCl (nw 133 (fun i => if i = 0 then a else if i < 3 then r5 (i - 1) else if i < 14 then r16 (i - 3) else if i < 33 then r27 (i - 14) else if i = 33 then q39 else if i < 68 then r46 (i - 34) else if i < 72 then r57 (i - 68) else if i < 76 then r68 (i - 72) else if i < 78 then r79 (i - 76) else if i < 87 then r90 (i - 78) else if i < 90 then r101 (i - 87) else if i < 94 then r112 (i - 90) else if i = 94 then q125 else if i < 114 then r147 (i - 95) else if i < 133 then r1147 (i - 114) else 0) (ce_Town cy g (fun i => if i = 0 then a else if i < 3 then r5 (i - 1) else if i < 14 then r16 (i - 3) else if i < 33 then r27 (i - 14) else if i = 33 then q39 else if i < 68 then r46 (i - 34) else if i < 72 then r57 (i - 68) else if i < 76 then r68 (i - 72) else if i < 78 then r79 (i - 76) else if i < 87 then r90 (i - 78) else if i < 90 then r101 (i - 87) else if i < 94 then r112 (i - 90) else if i = 94 then q125 else if i < 114 then r147 (i - 95) else if i < 133 then r1147 (i - 114) else 0))) H := hP
  have hD9 : va_D A (nw 133 (fun i => if i = 0 then a else if i < 3 then r5 (i - 1) else if i < 14 then r16 (i - 3) else if i < 33 then r27 (i - 14) else if i = 33 then q39 else if i < 68 then r46 (i - 34) else if i < 72 then r57 (i - 68) else if i < 76 then r68 (i - 72) else if i < 78 then r79 (i - 76) else if i < 87 then r90 (i - 78) else if i < 90 then r101 (i - 87) else if i < 94 then r112 (i - 90) else if i = 94 then q125 else if i < 114 then r147 (i - 95) else if i < 133 then r1147 (i - 114) else 0) (ce_Town cy g (fun i => if i = 0 then a else if i < 3 then r5 (i - 1) else if i < 14 then r16 (i - 3) else if i < 33 then r27 (i - 14) else if i = 33 then q39 else if i < 68 then r46 (i - 34) else if i < 72 then r57 (i - 68) else if i < 76 then r68 (i - 72) else if i < 78 then r79 (i - 76) else if i < 87 then r90 (i - 78) else if i < 90 then r101 (i - 87) else if i < 94 then r112 (i - 90) else if i = 94 then q125 else if i < 114 then r147 (i - 95) else if i < 133 then r1147 (i - 114) else 0))) := hD
  refine W.widen (k := 132) (n := 2944) (Nat.le_of_ble_eq_true rfl) (Nat.le_of_ble_eq_true rfl) ?_
  exact W.vret hx hb hr (fun t ht hW => ⟨⟨(fun i => if i = 0 then a else if i < 3 then r5 (i - 1) else if i < 14 then r16 (i - 3) else if i < 33 then r27 (i - 14) else if i = 33 then q39 else if i < 68 then r46 (i - 34) else if i < 72 then r57 (i - 68) else if i < 76 then r68 (i - 72) else if i < 78 then r79 (i - 76) else if i < 87 then r90 (i - 78) else if i < 90 then r101 (i - 87) else if i < 94 then r112 (i - 90) else if i = 94 then q125 else if i < 114 then r147 (i - 95) else if i < 133 then r1147 (i - 114) else 0), rfl, rfl, by rw [ht]; exact hP9, hD9⟩, hS.F ht⟩) hS.2.2 dk11_161
