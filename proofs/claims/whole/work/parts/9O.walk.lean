/-! The reference is made, beside the class -/
def mk_bM : va_E := .inr (11, [.int 0, .null, .int 0, .int 0, .int 0, .int 0, .int 0, .int 0, .int 0, .int 0, .int 0, .int 0, .long 0, .int 0, .null, .null, .null, .null, .null, .null, .null, .null, .null, .null, .int 0, .int 0, .null, .null, .int 0, .int 0, .int 0, .null, .null, .int 0, .int 0, .null, .int 0, .int 0, .null, .null, .int 0, .int 0, .null, .int 0, .int 0, .int 0, .int 0])
def mk_V (D : va_G) (cy : Nat → ClassId) (g : Nat → Nat → Nat) (r : Nat → Nat) (z0 a sz : Nat) (U : State) : Prop := U.heap.size = sz ∧ va_P D vwCl ((a, mk_bM) :: nw 133 r (ce_Town cy g r)) U.heap ∧ va_D (fun q => z0 ≤ q) ((a, mk_bM) :: nw 133 r (ce_Town cy g r)) ∧ va_K D vwCl (mm_tys cy) U ∧ mm_Z g (fun q => z0 ≤ q) U U.heap ∧ mm_nw g U ∧ mk_ao U ∧ z0 ≤ sz ∧ ∀ i j, i < 36 → j < 36 → g 1 i = g 1 j → i = j
theorem mk_VFB {D : va_G} {cy : Nat → ClassId} {g : Nat → Nat → Nat} {r : Nat → Nat} {z0 a sz : Nat} {as : List Value} : FrameBlind (va_Pc as (mk_V D cy g r z0 a sz)) := by
  intro A U f mk hq
  obtain ⟨q0, q1, qP, qD, qK, qZ, qN, qO, qz⟩ := hq
  exact ⟨q0, q1, qP, qD, va_K.moved (u := U) (U := U.calling f mk A) (Vm.Alike.refl U.vm) qK, mm_Z.moved (u := U) (U := U.calling f mk A) (Vm.Alike.refl U.vm) qZ, mm_nw.same (u := U) (U := U.calling f mk A) rfl qN, mk_ao.moved (u := U) (U := U.calling f mk A) (Vm.Alike.refl U.vm) qO, qz⟩
section MW
variable {p : Program} {l : Launch} {e : Env} {R : Room} {s : State} {m : MethodId} {args : Array Value} {below : List Frame} {meth : Method} {c : Code} {H : Heap} {locs : List Loc} {cells slots : Nat} {Q : State → Prop}
theorem mk_pf {D : va_G} {cy : Nat → ClassId} {a pc idx : Nat} {fs : List Value} {w : va_W} {A : Nat → Prop} {ls : Array Slot} {rest : List Value} {v : Value} {nm ds : String} {fin : Bool} {ty : FieldType} (hx : p.tables.exec = Jvm.exec) (hb : c.code = cX12_init) (hown : s.vm.findClass RX12 = some m.cls) (hin : meth.name = "<init>") (hts : ∀ w ∈ mm_TW, w.before args s = true) (hK : va_K D vwCl (mm_tys cy) s) (hP : va_P D vwCl ((a, .inr (11, fs)) :: w) H) (hD : va_D A ((a, .inr (11, fs)) :: w)) (hS : va_S A s.heap H locs) (hlen : fs.length = 47)
    (k : Nat) (hk : k < 47) (hT : TX12 k = ("HiccupTownModel", nm, ds, fin)) (hlink : Cond.fieldLink RX12 idx "HiccupTownModel" nm ds ∈ mm_TW) (hd : parseFieldDescriptor ds = some ty) (hn : narrow ty v = v) (hfit : fits ty v = true) (dg : decode cX12_init pc = .ok (.putfield idx, 3))
    (kk : ∀ (H1 : Heap) (locs1 : List Loc) (fs1 : List Value), fs1 = fs.set k v → fs1.length = 47 → va_P D vwCl ((a, .inr (11, fs1)) :: w) H1 → va_D A ((a, .inr (11, fs1)) :: w) → va_S A s.heap H1 locs1 → W p l e R s m args below meth c H1 locs1 cells slots Q (F0 m (pc + 3) ls rest)) : W p l e R s m args below meth c H locs cells slots Q (F0 m pc ls (v :: .ref a :: rest)) := by
  have e1 : (TX12 k).1 = "HiccupTownModel" := by rw [hT]
  have e2 : (TX12 k).2.1 = nm := by rw [hT]
  have e3 : (TX12 k).2.2.1 = ds := by rw [hT]
  have e4 : (TX12 k).2.2.2 = fin := by rw [hT]
  have hl2 : (Cond.fieldLink RX12 idx "HiccupTownModel" (TX12 k).2.1 (TX12 k).2.2.1).before args s = true := by rw [e2, e3]; exact hts _ hlink
  have hd2 : parseFieldDescriptor (TX12 k).2.2.1 = some ty := by rw [e3]; exact hd
  cases fin with
  | true => exact va_putF (D := D) (ci := 11) (v := v) (C := RX12) (T := TX12) (N := 47) hx hb hts mm_cw21 tyX12 tyX12_ok nmX12 hown hK hP hD hS 0 rfl rfl k hk hl2 (fun _ w => by rw [e1] at w; exact w) e4 hin e1 hd2 hn hfit (by rw [hlen]; exact hk) dg (fun H1 locs1 hP1 hD1 hS1 => kk H1 locs1 _ rfl (by rw [List.length_set]; exact hlen) hP1 hD1 hS1)
  | false => exact va_put (D := D) (ci := 11) (v := v) (C := RX12) (T := TX12) (N := 47) hx hb hts mm_cw21 tyX12 tyX12_ok nmX12 hown hK hP hD hS 0 rfl rfl k hk hl2 (fun _ w => by rw [e1] at w; exact w) e4 hd2 hn hfit (by rw [hlen]; exact hk) dg (fun H1 locs1 hP1 hD1 hS1 => kk H1 locs1 _ rfl (by rw [List.length_set]; exact hlen) hP1 hD1 hS1)
set_option maxHeartbeats 8000000 in
set_option maxRecDepth 100000 in
theorem mk_walk {D : va_G} {cy : Nat → ClassId} {fs0 : List Value} {w1 : va_W} {a : Nat} {A : Nat → Prop} {ls : Array Slot} (hx : p.tables.exec = Jvm.exec) (hb : c.code = cX12_init) (hml : c.maxLocals = 2) (hown : s.vm.findClass RX12 = some m.cls) (hin : meth.name = "<init>") (hts : ∀ w ∈ mm_TW, w.before args s = true) (hK : va_K D vwCl (mm_tys cy) s) (hA : ∀ q : Nat, s.heap.size ≤ q → A q) (hS : va_S A s.heap s.heap []) (hl : lv_has ls 2 [(0, .ref a)]) (hlen : fs0.length = 47)
    (hP : va_P D vwCl ((a, .inr (11, fs0)) :: w1) s.heap) (hD : va_D A ((a, .inr (11, fs0)) :: w1))
    (kk : ∀ (H : Heap) (locs : List Loc) (q8 q17 q25 q34 q43 q51 q59 q67 q75 q82 q89 q98 q106 q130 q137 q150 q158 q165 q174 : Nat) (fsZ : List Value), fsZ = (((((((((((((((((((((((fs0.set 1 (.ref q8)).set 14 (.ref q17)).set 15 (.ref q25)).set 16 (.ref q34)).set 17 (.ref q43)).set 18 (.ref q51)).set 19 (.ref q59)).set 20 (.ref q67)).set 21 (.ref q75)).set 22 (.ref q82)).set 23 (.ref q89)).set 26 (.ref q98)).set 27 (.ref q106)).set 28 (.int (-1))).set 29 (.int (-1))).set 30 (.int (-1))).set 31 (.ref q130)).set 32 (.ref q137)).set 34 (.int (-1))).set 35 (.ref q150)).set 38 (.ref q158)).set 39 (.ref q165)).set 42 (.ref q174)) → va_P D vwCl ((a, .inr (11, fsZ)) :: (w1 ++ [(q8, .inl (cy 0, 940, .inl fun _ => 0))] ++ [(q17, .inl (cy 0, 316, .inl fun _ => 0))] ++ [(q25, .inl (cy 0, 48, .inl fun _ => 0))] ++ [(q34, .inl (cy 0, 632, .inl fun _ => 0))] ++ [(q43, .inl (cy 0, 208, .inl fun _ => 0))] ++ [(q51, .inl (cy 0, 26, .inl fun _ => 0))] ++ [(q59, .inl (cy 1, 22, .inr (.inl fun _ => 0)))] ++ [(q67, .inl (cy 1, 22, .inr (.inl fun _ => 0)))] ++ [(q75, .inl (cy 1, 44, .inr (.inl fun _ => 0)))] ++ [(q82, .inl (cy 4, 2, .inl fun _ => 0))] ++ [(q89, .inl (cy 4, 2, .inl fun _ => 0))] ++ [(q98, .inl (cy 0, 256, .inl fun _ => 0))] ++ [(q106, .inl (cy 0, 60, .inl fun _ => 0))] ++ [(q130, .inl (cy 0, 366, .inl fun _ => 0))] ++ [(q137, .inl (cy 0, 5, .inl fun _ => 0))] ++ [(q150, .inl (cy 0, 64, .inl fun _ => 0))] ++ [(q158, .inl (cy 0, 80, .inl fun _ => 0))] ++ [(q165, .inl (cy 0, 4, .inl fun _ => 0))] ++ [(q174, .inl (cy 0, 240, .inl fun _ => 0))])) H → va_D A ((a, .inr (11, fsZ)) :: (w1 ++ [(q8, .inl (cy 0, 940, .inl fun _ => 0))] ++ [(q17, .inl (cy 0, 316, .inl fun _ => 0))] ++ [(q25, .inl (cy 0, 48, .inl fun _ => 0))] ++ [(q34, .inl (cy 0, 632, .inl fun _ => 0))] ++ [(q43, .inl (cy 0, 208, .inl fun _ => 0))] ++ [(q51, .inl (cy 0, 26, .inl fun _ => 0))] ++ [(q59, .inl (cy 1, 22, .inr (.inl fun _ => 0)))] ++ [(q67, .inl (cy 1, 22, .inr (.inl fun _ => 0)))] ++ [(q75, .inl (cy 1, 44, .inr (.inl fun _ => 0)))] ++ [(q82, .inl (cy 4, 2, .inl fun _ => 0))] ++ [(q89, .inl (cy 4, 2, .inl fun _ => 0))] ++ [(q98, .inl (cy 0, 256, .inl fun _ => 0))] ++ [(q106, .inl (cy 0, 60, .inl fun _ => 0))] ++ [(q130, .inl (cy 0, 366, .inl fun _ => 0))] ++ [(q137, .inl (cy 0, 5, .inl fun _ => 0))] ++ [(q150, .inl (cy 0, 64, .inl fun _ => 0))] ++ [(q158, .inl (cy 0, 80, .inl fun _ => 0))] ++ [(q165, .inl (cy 0, 4, .inl fun _ => 0))] ++ [(q174, .inl (cy 0, 240, .inl fun _ => 0))])) → va_S A s.heap H locs → W p l e (mk_rm 6 19 3337) s m args below meth c H locs 19 3337 Q (F0 m 179 ls [])) : W p l e (mk_rm 6 19 3337) s m args below meth c s.heap [] 0 0 Q (F0 m 0 ls []) := by
  refine lv_aload_n hx hb dk12_0 rfl (lv_at hl 0 rfl) ?_
  refine W.objInit hx hb hown (hts _ (mm_tw6 93 rfl rfl)) (hts _ (mm_tw1 31 rfl rfl)) (hts _ (mm_tw1 32 rfl rfl)) rfl (by rw [hml]; exact hl.1) rfl dk12_1 (Nat.le_of_ble_eq_true rfl) (Nat.le_of_ble_eq_true rfl) ?_
  refine W.eq (g2 := F0 m 4 ls []) rfl ?_
  refine lv_aload_n hx hb dk12_4 rfl (lv_at hl 0 rfl) ?_
  refine lv_sipush (v := 940) hx hb dk12_5 (by decide) ?_
  refine mk_ai hx hb hts hK hP hD hS hA 940 (by decide) (by decide) (by decide) (Nat.le_of_ble_eq_true rfl) (Nat.le_of_ble_eq_true rfl) dk12_8 (fun q8 H hP hD hS => ?_)
  obtain ⟨w2, hw2⟩ : ∃ z : va_W, z = w1 ++ [(q8, .inl (cy 0, 940, .inl fun _ => 0))] := ⟨_, rfl⟩
  have hP : va_P D vwCl ((a, .inr (11, fs0)) :: w2) H := by rw [hw2]; exact hP
  have hD : va_D A ((a, .inr (11, fs0)) :: w2) := by rw [hw2]; exact hD
  refine mk_pf (v := .ref q8) hx hb hown hin hts hK hP hD hS hlen 1 (by decide) rfl (mm_tw6 103 rfl rfl) rfl rfl rfl dk12_10 (fun H locs fs1 hf1 hlen hP hD hS => ?_)
  refine lv_aload_n hx hb dk12_13 rfl (lv_at hl 0 rfl) ?_
  refine lv_sipush (v := 316) hx hb dk12_14 (by decide) ?_
  refine mk_ai hx hb hts hK hP hD hS hA 316 (by decide) (by decide) (by decide) (Nat.le_of_ble_eq_true rfl) (Nat.le_of_ble_eq_true rfl) dk12_17 (fun q17 H hP hD hS => ?_)
  obtain ⟨w3, hw3⟩ : ∃ z : va_W, z = w2 ++ [(q17, .inl (cy 0, 316, .inl fun _ => 0))] := ⟨_, rfl⟩
  have hP : va_P D vwCl ((a, .inr (11, fs1)) :: w3) H := by rw [hw3]; exact hP
  have hD : va_D A ((a, .inr (11, fs1)) :: w3) := by rw [hw3]; exact hD
  refine mk_pf (v := .ref q17) hx hb hown hin hts hK hP hD hS hlen 14 (by decide) rfl (mm_tw6 116 rfl rfl) rfl rfl rfl dk12_19 (fun H locs fs2 hf2 hlen hP hD hS => ?_)
  refine lv_aload_n hx hb dk12_22 rfl (lv_at hl 0 rfl) ?_
  refine lv_bipush (v := 48) hx hb dk12_23 (by decide) ?_
  refine mk_ai hx hb hts hK hP hD hS hA 48 (by decide) (by decide) (by decide) (Nat.le_of_ble_eq_true rfl) (Nat.le_of_ble_eq_true rfl) dk12_25 (fun q25 H hP hD hS => ?_)
  obtain ⟨w4, hw4⟩ : ∃ z : va_W, z = w3 ++ [(q25, .inl (cy 0, 48, .inl fun _ => 0))] := ⟨_, rfl⟩
  have hP : va_P D vwCl ((a, .inr (11, fs2)) :: w4) H := by rw [hw4]; exact hP
  have hD : va_D A ((a, .inr (11, fs2)) :: w4) := by rw [hw4]; exact hD
  refine mk_pf (v := .ref q25) hx hb hown hin hts hK hP hD hS hlen 15 (by decide) rfl (mm_tw6 117 rfl rfl) rfl rfl rfl dk12_27 (fun H locs fs3 hf3 hlen hP hD hS => ?_)
  refine lv_aload_n hx hb dk12_30 rfl (lv_at hl 0 rfl) ?_
  refine lv_sipush (v := 632) hx hb dk12_31 (by decide) ?_
  refine mk_ai hx hb hts hK hP hD hS hA 632 (by decide) (by decide) (by decide) (Nat.le_of_ble_eq_true rfl) (Nat.le_of_ble_eq_true rfl) dk12_34 (fun q34 H hP hD hS => ?_)
  obtain ⟨w5, hw5⟩ : ∃ z : va_W, z = w4 ++ [(q34, .inl (cy 0, 632, .inl fun _ => 0))] := ⟨_, rfl⟩
  have hP : va_P D vwCl ((a, .inr (11, fs3)) :: w5) H := by rw [hw5]; exact hP
  have hD : va_D A ((a, .inr (11, fs3)) :: w5) := by rw [hw5]; exact hD
  refine mk_pf (v := .ref q34) hx hb hown hin hts hK hP hD hS hlen 16 (by decide) rfl (mm_tw6 118 rfl rfl) rfl rfl rfl dk12_36 (fun H locs fs4 hf4 hlen hP hD hS => ?_)
  refine lv_aload_n hx hb dk12_39 rfl (lv_at hl 0 rfl) ?_
  refine lv_sipush (v := 208) hx hb dk12_40 (by decide) ?_
  refine mk_ai hx hb hts hK hP hD hS hA 208 (by decide) (by decide) (by decide) (Nat.le_of_ble_eq_true rfl) (Nat.le_of_ble_eq_true rfl) dk12_43 (fun q43 H hP hD hS => ?_)
  obtain ⟨w6, hw6⟩ : ∃ z : va_W, z = w5 ++ [(q43, .inl (cy 0, 208, .inl fun _ => 0))] := ⟨_, rfl⟩
  have hP : va_P D vwCl ((a, .inr (11, fs4)) :: w6) H := by rw [hw6]; exact hP
  have hD : va_D A ((a, .inr (11, fs4)) :: w6) := by rw [hw6]; exact hD
  refine mk_pf (v := .ref q43) hx hb hown hin hts hK hP hD hS hlen 17 (by decide) rfl (mm_tw6 119 rfl rfl) rfl rfl rfl dk12_45 (fun H locs fs5 hf5 hlen hP hD hS => ?_)
  refine lv_aload_n hx hb dk12_48 rfl (lv_at hl 0 rfl) ?_
  refine lv_bipush (v := 26) hx hb dk12_49 (by decide) ?_
  refine mk_ai hx hb hts hK hP hD hS hA 26 (by decide) (by decide) (by decide) (Nat.le_of_ble_eq_true rfl) (Nat.le_of_ble_eq_true rfl) dk12_51 (fun q51 H hP hD hS => ?_)
  obtain ⟨w7, hw7⟩ : ∃ z : va_W, z = w6 ++ [(q51, .inl (cy 0, 26, .inl fun _ => 0))] := ⟨_, rfl⟩
  have hP : va_P D vwCl ((a, .inr (11, fs5)) :: w7) H := by rw [hw7]; exact hP
  have hD : va_D A ((a, .inr (11, fs5)) :: w7) := by rw [hw7]; exact hD
  refine mk_pf (v := .ref q51) hx hb hown hin hts hK hP hD hS hlen 18 (by decide) rfl (mm_tw6 120 rfl rfl) rfl rfl rfl dk12_53 (fun H locs fs6 hf6 hlen hP hD hS => ?_)
  refine lv_aload_n hx hb dk12_56 rfl (lv_at hl 0 rfl) ?_
  refine lv_bipush (v := 22) hx hb dk12_57 (by decide) ?_
  refine mk_al hx hb hts hK hP hD hS hA 22 (by decide) (by decide) (by decide) (Nat.le_of_ble_eq_true rfl) (Nat.le_of_ble_eq_true rfl) dk12_59 (fun q59 H hP hD hS => ?_)
  obtain ⟨w8, hw8⟩ : ∃ z : va_W, z = w7 ++ [(q59, .inl (cy 1, 22, .inr (.inl fun _ => 0)))] := ⟨_, rfl⟩
  have hP : va_P D vwCl ((a, .inr (11, fs6)) :: w8) H := by rw [hw8]; exact hP
  have hD : va_D A ((a, .inr (11, fs6)) :: w8) := by rw [hw8]; exact hD
  refine mk_pf (v := .ref q59) hx hb hown hin hts hK hP hD hS hlen 19 (by decide) rfl (mm_tw6 121 rfl rfl) rfl rfl rfl dk12_61 (fun H locs fs7 hf7 hlen hP hD hS => ?_)
  refine lv_aload_n hx hb dk12_64 rfl (lv_at hl 0 rfl) ?_
  refine lv_bipush (v := 22) hx hb dk12_65 (by decide) ?_
  refine mk_al hx hb hts hK hP hD hS hA 22 (by decide) (by decide) (by decide) (Nat.le_of_ble_eq_true rfl) (Nat.le_of_ble_eq_true rfl) dk12_67 (fun q67 H hP hD hS => ?_)
  obtain ⟨w9, hw9⟩ : ∃ z : va_W, z = w8 ++ [(q67, .inl (cy 1, 22, .inr (.inl fun _ => 0)))] := ⟨_, rfl⟩
  have hP : va_P D vwCl ((a, .inr (11, fs7)) :: w9) H := by rw [hw9]; exact hP
  have hD : va_D A ((a, .inr (11, fs7)) :: w9) := by rw [hw9]; exact hD
  refine mk_pf (v := .ref q67) hx hb hown hin hts hK hP hD hS hlen 20 (by decide) rfl (mm_tw6 122 rfl rfl) rfl rfl rfl dk12_69 (fun H locs fs8 hf8 hlen hP hD hS => ?_)
  refine lv_aload_n hx hb dk12_72 rfl (lv_at hl 0 rfl) ?_
  refine lv_bipush (v := 44) hx hb dk12_73 (by decide) ?_
  refine mk_al hx hb hts hK hP hD hS hA 44 (by decide) (by decide) (by decide) (Nat.le_of_ble_eq_true rfl) (Nat.le_of_ble_eq_true rfl) dk12_75 (fun q75 H hP hD hS => ?_)
  obtain ⟨w10, hw10⟩ : ∃ z : va_W, z = w9 ++ [(q75, .inl (cy 1, 44, .inr (.inl fun _ => 0)))] := ⟨_, rfl⟩
  have hP : va_P D vwCl ((a, .inr (11, fs8)) :: w10) H := by rw [hw10]; exact hP
  have hD : va_D A ((a, .inr (11, fs8)) :: w10) := by rw [hw10]; exact hD
  refine mk_pf (v := .ref q75) hx hb hown hin hts hK hP hD hS hlen 21 (by decide) rfl (mm_tw6 123 rfl rfl) rfl rfl rfl dk12_77 (fun H locs fs9 hf9 hlen hP hD hS => ?_)
  refine lv_aload_n hx hb dk12_80 rfl (lv_at hl 0 rfl) ?_
  refine lv_iconst (v := 2) hx hb dk12_81 (by decide) ?_
  refine mk_az hx hb hts hK hP hD hS hA 2 (by decide) (by decide) (by decide) (Nat.le_of_ble_eq_true rfl) (Nat.le_of_ble_eq_true rfl) dk12_82 (fun q82 H hP hD hS => ?_)
  obtain ⟨w11, hw11⟩ : ∃ z : va_W, z = w10 ++ [(q82, .inl (cy 4, 2, .inl fun _ => 0))] := ⟨_, rfl⟩
  have hP : va_P D vwCl ((a, .inr (11, fs9)) :: w11) H := by rw [hw11]; exact hP
  have hD : va_D A ((a, .inr (11, fs9)) :: w11) := by rw [hw11]; exact hD
  refine mk_pf (v := .ref q82) hx hb hown hin hts hK hP hD hS hlen 22 (by decide) rfl (mm_tw6 124 rfl rfl) rfl rfl rfl dk12_84 (fun H locs fs10 hf10 hlen hP hD hS => ?_)
  refine lv_aload_n hx hb dk12_87 rfl (lv_at hl 0 rfl) ?_
  refine lv_iconst (v := 2) hx hb dk12_88 (by decide) ?_
  refine mk_az hx hb hts hK hP hD hS hA 2 (by decide) (by decide) (by decide) (Nat.le_of_ble_eq_true rfl) (Nat.le_of_ble_eq_true rfl) dk12_89 (fun q89 H hP hD hS => ?_)
  obtain ⟨w12, hw12⟩ : ∃ z : va_W, z = w11 ++ [(q89, .inl (cy 4, 2, .inl fun _ => 0))] := ⟨_, rfl⟩
  have hP : va_P D vwCl ((a, .inr (11, fs10)) :: w12) H := by rw [hw12]; exact hP
  have hD : va_D A ((a, .inr (11, fs10)) :: w12) := by rw [hw12]; exact hD
  refine mk_pf (v := .ref q89) hx hb hown hin hts hK hP hD hS hlen 23 (by decide) rfl (mm_tw6 125 rfl rfl) rfl rfl rfl dk12_91 (fun H locs fs11 hf11 hlen hP hD hS => ?_)
  refine lv_aload_n hx hb dk12_94 rfl (lv_at hl 0 rfl) ?_
  refine lv_sipush (v := 256) hx hb dk12_95 (by decide) ?_
  refine mk_ai hx hb hts hK hP hD hS hA 256 (by decide) (by decide) (by decide) (Nat.le_of_ble_eq_true rfl) (Nat.le_of_ble_eq_true rfl) dk12_98 (fun q98 H hP hD hS => ?_)
  obtain ⟨w13, hw13⟩ : ∃ z : va_W, z = w12 ++ [(q98, .inl (cy 0, 256, .inl fun _ => 0))] := ⟨_, rfl⟩
  have hP : va_P D vwCl ((a, .inr (11, fs11)) :: w13) H := by rw [hw13]; exact hP
  have hD : va_D A ((a, .inr (11, fs11)) :: w13) := by rw [hw13]; exact hD
  refine mk_pf (v := .ref q98) hx hb hown hin hts hK hP hD hS hlen 26 (by decide) rfl (mm_tw6 128 rfl rfl) rfl rfl rfl dk12_100 (fun H locs fs12 hf12 hlen hP hD hS => ?_)
  refine lv_aload_n hx hb dk12_103 rfl (lv_at hl 0 rfl) ?_
  refine lv_bipush (v := 60) hx hb dk12_104 (by decide) ?_
  refine mk_ai hx hb hts hK hP hD hS hA 60 (by decide) (by decide) (by decide) (Nat.le_of_ble_eq_true rfl) (Nat.le_of_ble_eq_true rfl) dk12_106 (fun q106 H hP hD hS => ?_)
  obtain ⟨w14, hw14⟩ : ∃ z : va_W, z = w13 ++ [(q106, .inl (cy 0, 60, .inl fun _ => 0))] := ⟨_, rfl⟩
  have hP : va_P D vwCl ((a, .inr (11, fs12)) :: w14) H := by rw [hw14]; exact hP
  have hD : va_D A ((a, .inr (11, fs12)) :: w14) := by rw [hw14]; exact hD
  refine mk_pf (v := .ref q106) hx hb hown hin hts hK hP hD hS hlen 27 (by decide) rfl (mm_tw6 129 rfl rfl) rfl rfl rfl dk12_108 (fun H locs fs13 hf13 hlen hP hD hS => ?_)
  refine lv_aload_n hx hb dk12_111 rfl (lv_at hl 0 rfl) ?_
  refine lv_iconst (v := (-1)) hx hb dk12_112 (by decide) ?_
  refine mk_pf (v := .int (-1)) hx hb hown hin hts hK hP hD hS hlen 28 (by decide) rfl (mm_tw6 130 rfl rfl) rfl rfl rfl dk12_113 (fun H locs fs14 hf14 hlen hP hD hS => ?_)
  refine lv_aload_n hx hb dk12_116 rfl (lv_at hl 0 rfl) ?_
  refine lv_iconst (v := (-1)) hx hb dk12_117 (by decide) ?_
  refine mk_pf (v := .int (-1)) hx hb hown hin hts hK hP hD hS hlen 29 (by decide) rfl (mm_tw6 131 rfl rfl) rfl rfl rfl dk12_118 (fun H locs fs15 hf15 hlen hP hD hS => ?_)
  refine lv_aload_n hx hb dk12_121 rfl (lv_at hl 0 rfl) ?_
  refine lv_iconst (v := (-1)) hx hb dk12_122 (by decide) ?_
  refine mk_pf (v := .int (-1)) hx hb hown hin hts hK hP hD hS hlen 30 (by decide) rfl (mm_tw6 132 rfl rfl) rfl rfl rfl dk12_123 (fun H locs fs16 hf16 hlen hP hD hS => ?_)
  refine lv_aload_n hx hb dk12_126 rfl (lv_at hl 0 rfl) ?_
  refine lv_sipush (v := 366) hx hb dk12_127 (by decide) ?_
  refine mk_ai hx hb hts hK hP hD hS hA 366 (by decide) (by decide) (by decide) (Nat.le_of_ble_eq_true rfl) (Nat.le_of_ble_eq_true rfl) dk12_130 (fun q130 H hP hD hS => ?_)
  obtain ⟨w15, hw15⟩ : ∃ z : va_W, z = w14 ++ [(q130, .inl (cy 0, 366, .inl fun _ => 0))] := ⟨_, rfl⟩
  have hP : va_P D vwCl ((a, .inr (11, fs16)) :: w15) H := by rw [hw15]; exact hP
  have hD : va_D A ((a, .inr (11, fs16)) :: w15) := by rw [hw15]; exact hD
  refine mk_pf (v := .ref q130) hx hb hown hin hts hK hP hD hS hlen 31 (by decide) rfl (mm_tw6 133 rfl rfl) rfl rfl rfl dk12_132 (fun H locs fs17 hf17 hlen hP hD hS => ?_)
  refine lv_aload_n hx hb dk12_135 rfl (lv_at hl 0 rfl) ?_
  refine lv_iconst (v := 5) hx hb dk12_136 (by decide) ?_
  refine mk_ai hx hb hts hK hP hD hS hA 5 (by decide) (by decide) (by decide) (Nat.le_of_ble_eq_true rfl) (Nat.le_of_ble_eq_true rfl) dk12_137 (fun q137 H hP hD hS => ?_)
  obtain ⟨w16, hw16⟩ : ∃ z : va_W, z = w15 ++ [(q137, .inl (cy 0, 5, .inl fun _ => 0))] := ⟨_, rfl⟩
  have hP : va_P D vwCl ((a, .inr (11, fs17)) :: w16) H := by rw [hw16]; exact hP
  have hD : va_D A ((a, .inr (11, fs17)) :: w16) := by rw [hw16]; exact hD
  refine mk_pf (v := .ref q137) hx hb hown hin hts hK hP hD hS hlen 32 (by decide) rfl (mm_tw6 134 rfl rfl) rfl rfl rfl dk12_139 (fun H locs fs18 hf18 hlen hP hD hS => ?_)
  refine lv_aload_n hx hb dk12_142 rfl (lv_at hl 0 rfl) ?_
  refine lv_iconst (v := (-1)) hx hb dk12_143 (by decide) ?_
  refine mk_pf (v := .int (-1)) hx hb hown hin hts hK hP hD hS hlen 34 (by decide) rfl (mm_tw6 136 rfl rfl) rfl rfl rfl dk12_144 (fun H locs fs19 hf19 hlen hP hD hS => ?_)
  refine lv_aload_n hx hb dk12_147 rfl (lv_at hl 0 rfl) ?_
  refine lv_bipush (v := 64) hx hb dk12_148 (by decide) ?_
  refine mk_ai hx hb hts hK hP hD hS hA 64 (by decide) (by decide) (by decide) (Nat.le_of_ble_eq_true rfl) (Nat.le_of_ble_eq_true rfl) dk12_150 (fun q150 H hP hD hS => ?_)
  obtain ⟨w17, hw17⟩ : ∃ z : va_W, z = w16 ++ [(q150, .inl (cy 0, 64, .inl fun _ => 0))] := ⟨_, rfl⟩
  have hP : va_P D vwCl ((a, .inr (11, fs19)) :: w17) H := by rw [hw17]; exact hP
  have hD : va_D A ((a, .inr (11, fs19)) :: w17) := by rw [hw17]; exact hD
  refine mk_pf (v := .ref q150) hx hb hown hin hts hK hP hD hS hlen 35 (by decide) rfl (mm_tw6 137 rfl rfl) rfl rfl rfl dk12_152 (fun H locs fs20 hf20 hlen hP hD hS => ?_)
  refine lv_aload_n hx hb dk12_155 rfl (lv_at hl 0 rfl) ?_
  refine lv_bipush (v := 80) hx hb dk12_156 (by decide) ?_
  refine mk_ai hx hb hts hK hP hD hS hA 80 (by decide) (by decide) (by decide) (Nat.le_of_ble_eq_true rfl) (Nat.le_of_ble_eq_true rfl) dk12_158 (fun q158 H hP hD hS => ?_)
  obtain ⟨w18, hw18⟩ : ∃ z : va_W, z = w17 ++ [(q158, .inl (cy 0, 80, .inl fun _ => 0))] := ⟨_, rfl⟩
  have hP : va_P D vwCl ((a, .inr (11, fs20)) :: w18) H := by rw [hw18]; exact hP
  have hD : va_D A ((a, .inr (11, fs20)) :: w18) := by rw [hw18]; exact hD
  refine mk_pf (v := .ref q158) hx hb hown hin hts hK hP hD hS hlen 38 (by decide) rfl (mm_tw6 140 rfl rfl) rfl rfl rfl dk12_160 (fun H locs fs21 hf21 hlen hP hD hS => ?_)
  refine lv_aload_n hx hb dk12_163 rfl (lv_at hl 0 rfl) ?_
  refine lv_iconst (v := 4) hx hb dk12_164 (by decide) ?_
  refine mk_ai hx hb hts hK hP hD hS hA 4 (by decide) (by decide) (by decide) (Nat.le_of_ble_eq_true rfl) (Nat.le_of_ble_eq_true rfl) dk12_165 (fun q165 H hP hD hS => ?_)
  obtain ⟨w19, hw19⟩ : ∃ z : va_W, z = w18 ++ [(q165, .inl (cy 0, 4, .inl fun _ => 0))] := ⟨_, rfl⟩
  have hP : va_P D vwCl ((a, .inr (11, fs21)) :: w19) H := by rw [hw19]; exact hP
  have hD : va_D A ((a, .inr (11, fs21)) :: w19) := by rw [hw19]; exact hD
  refine mk_pf (v := .ref q165) hx hb hown hin hts hK hP hD hS hlen 39 (by decide) rfl (mm_tw6 141 rfl rfl) rfl rfl rfl dk12_167 (fun H locs fs22 hf22 hlen hP hD hS => ?_)
  refine lv_aload_n hx hb dk12_170 rfl (lv_at hl 0 rfl) ?_
  refine lv_sipush (v := 240) hx hb dk12_171 (by decide) ?_
  refine mk_ai hx hb hts hK hP hD hS hA 240 (by decide) (by decide) (by decide) (Nat.le_of_ble_eq_true rfl) (Nat.le_of_ble_eq_true rfl) dk12_174 (fun q174 H hP hD hS => ?_)
  obtain ⟨w20, hw20⟩ : ∃ z : va_W, z = w19 ++ [(q174, .inl (cy 0, 240, .inl fun _ => 0))] := ⟨_, rfl⟩
  have hP : va_P D vwCl ((a, .inr (11, fs22)) :: w20) H := by rw [hw20]; exact hP
  have hD : va_D A ((a, .inr (11, fs22)) :: w20) := by rw [hw20]; exact hD
  refine mk_pf (v := .ref q174) hx hb hown hin hts hK hP hD hS hlen 42 (by decide) rfl (mm_tw6 144 rfl rfl) rfl rfl rfl dk12_176 (fun H locs fs23 hf23 hlen hP hD hS => ?_)
  refine kk H locs q8 q17 q25 q34 q43 q51 q59 q67 q75 q82 q89 q98 q106 q130 q137 q150 q158 q165 q174 fs23 ?_ ?_ ?_ hS
  · rw [hf23, hf22, hf21, hf20, hf19, hf18, hf17, hf16, hf15, hf14, hf13, hf12, hf11, hf10, hf9, hf8, hf7, hf6, hf5, hf4, hf3, hf2, hf1]
  · rw [hw20, hw19, hw18, hw17, hw16, hw15, hw14, hw13, hw12, hw11, hw10, hw9, hw8, hw7, hw6, hw5, hw4, hw3, hw2] at hP; exact hP
  · rw [hw20, hw19, hw18, hw17, hw16, hw15, hw14, hw13, hw12, hw11, hw10, hw9, hw8, hw7, hw6, hw5, hw4, hw3, hw2] at hD; exact hD
end MW
