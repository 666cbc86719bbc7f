/-! The two members of String that the class asks of its text constants -/
def mj_w (y : MethodName) (b : ByteArray) (n : Nat) (r : Option FieldType) : List Cond := .code y b n r :: mm_TW
def mj_rm (f n : Nat) : Room := { frames := f, cells := 0, slots := 0, locals := n }
def mj_Q (v : Option Value) : Array Value → State → Outcome → State → Prop := fun _ st oc t => oc = .returned v ∧ t.heap = st.heap
theorem mj_FB {g : Nat → Nat → Nat} {A : Nat → Prop} {as : List Value} : FrameBlind (va_Pc as (fun U => mm_Z g A U U.heap)) := by
  intro v U f mk hq
  exact ⟨hq.1, mm_Z.moved (u := U) (U := U.calling f mk v) (Vm.Alike.refl U.vm) hq.2⟩
theorem mj_G {y : MethodName} {b : ByteArray} {n : Nat} {r : Option FieldType} (h : Cond.code y b n r ∈ mm_TW) : GoodIn mm_TW (mj_w y b n r) := by
  intro w hw
  have hm : w ∈ mm_TW := by
    rcases List.mem_cons.mp hw with e | h1
    · rw [e]
      exact h
    · exact h1
  exact ⟨hm, good_of_word (List.mem_filter.mp hm).2⟩
section MJ
variable {p : Program} {l : Launch} {e : Env} {R : Room} {s : State} {m : MethodId} {args : Array Value} {below : List Frame} {meth : Method} {c : Code} {H : Heap} {locs : List Loc} {cells slots : Nat} {Q : State → Prop}
theorem mj_call {pc : Nat} {v : Option Value} {L : Array Slot} {st0 rest : List Value} {aa : Array Value} (hr : va_Run p l e R s m args below meth c H locs cells slots 0 0 (F0 m pc L st0) rest (mj_Q v aa) (fun _ => False)) (kk : W p l e R s m args below meth c H locs cells slots Q (F0 m (pc + 3) L (v.toList ++ rest))) : W p l e R s m args below meth c H locs cells slots Q (F0 m pc L st0) := by
  intro T hT X
  obtain ⟨v', st₀, u, T', L', h0, X', hL, e1, e2, ⟨hv, hh⟩, st⟩ := hr T hT X
  cases hv
  have eL : L' = [] := by
    cases L' with
    | nil => rfl
    | cons a b => exact (hL a List.mem_cons_self).elim
  subst eL
  rw [List.append_nil] at X'
  obtain ⟨t2, a1, b1⟩ := kk T' (by rw [e1, hh, h0]) X'
  exact ⟨t2, st t2 a1, b1⟩
theorem mj_pre0 {g : Nat → Nat → Nat} {A : Nat → Prop} {as : List Value} (hZ : mm_Z g A s s.heap) (hS : va_S A s.heap H locs) : PreS s H (va_Pc as (fun U => mm_Z g A U U.heap)) as := by
  refine ⟨mj_FB, fun U hU hW => ⟨rfl, ?_⟩⟩
  show mm_Z g A U U.heap
  rw [hU]
  exact (hZ.moved hW.alike).kept (fun a h1 h2 => hS.2.1 a h1 h2)
theorem mj_preV {g : Nat → Nat → Nat} {A : Nat → Prop} {k : Nat} {as : List Value} (hk : k < 4) (hZ : mm_Z g A s s.heap) (hS : va_S A s.heap H locs) : PreV s H "java/lang/String" (g 2 k) (va_Pc (.ref (g 2 k) :: as) (fun U => mm_Z g A U U.heap)) as := by
  refine ⟨mj_FB, ?_, (mj_pre0 hZ hS).2⟩
  obtain ⟨cell, h1, h2, h3, -⟩ := ((hZ.2.2.2.2.2.2.2.2.2 k hk).1).kept hS.2.1
  exact ⟨cell, h1, h2, h3⟩
/-- ldc_w of a text -/
theorem mj_ldcw {cc : ByteArray} {pc : Nat} {L : Array Slot} {rest : List Value} {own tx : String} {index a : Nat} (hx : p.tables.exec = Jvm.exec) (hb : c.code = cc) (hown : s.vm.findClass own = some m.cls) (hR : vk_R own index tx a s) (hdg : decode cc pc = .ok (.ldc_w index, 3)) (k : W p l e R s m args below meth c H locs cells slots Q (F0 m (pc + 3) L (.ref a :: rest))) : W p l e R s m args below meth c H locs cells slots Q (F0 m pc L rest) := by
  intro T hT X
  obtain ⟨t, a1, b1⟩ := k T hT X
  exact ⟨t, X.ldcStringW hx hown (text := tx) (a := a) hR.1 hR.2 (g := F0 m pc L rest) rfl (by rw [hb]; exact hdg) t a1, b1⟩
end MJ
theorem dj_coder_0 : decode cJ0_coder_7d493 0 = .ok (.getstatic 38, 3) := by decide +kernel
theorem dj_coder_3 : decode cJ0_coder_7d493 3 = .ok (.ifCond .eq 10, 3) := by decide +kernel
theorem dj_coder_6 : decode cJ0_coder_7d493 6 = .ok (.aload_n 0, 1) := by decide +kernel
theorem dj_coder_7 : decode cJ0_coder_7d493 7 = .ok (.getfield 15, 3) := by decide +kernel
theorem dj_coder_10 : decode cJ0_coder_7d493 10 = .ok (.goto 4, 3) := by decide +kernel
theorem dj_coder_13 : decode cJ0_coder_7d493 13 = .ok (.iconst 1, 1) := by decide +kernel
theorem dj_coder_14 : decode cJ0_coder_7d493 14 = .ok (.ireturn, 1) := by decide +kernel
theorem dj_length_0 : decode cJ0_length_8abf5 0 = .ok (.aload_n 0, 1) := by decide +kernel
theorem dj_length_1 : decode cJ0_length_8abf5 1 = .ok (.getfield 9, 3) := by decide +kernel
theorem dj_length_4 : decode cJ0_length_8abf5 4 = .ok (.arraylength, 1) := by decide +kernel
theorem dj_length_5 : decode cJ0_length_8abf5 5 = .ok (.aload_n 0, 1) := by decide +kernel
theorem dj_length_6 : decode cJ0_length_8abf5 6 = .ok (.invokevirtual 335, 3) := by decide +kernel
theorem dj_length_9 : decode cJ0_length_8abf5 9 = .ok (.ishr, 1) := by decide +kernel
theorem dj_length_10 : decode cJ0_length_8abf5 10 = .ok (.ireturn, 1) := by decide +kernel
theorem dj_isLatin1_0 : decode cJ0_isLatin1_aae02 0 = .ok (.getstatic 38, 3) := by decide +kernel
theorem dj_isLatin1_3 : decode cJ0_isLatin1_aae02 3 = .ok (.ifCond .eq 14, 3) := by decide +kernel
theorem dj_isLatin1_6 : decode cJ0_isLatin1_aae02 6 = .ok (.aload_n 0, 1) := by decide +kernel
theorem dj_isLatin1_7 : decode cJ0_isLatin1_aae02 7 = .ok (.getfield 15, 3) := by decide +kernel
theorem dj_isLatin1_10 : decode cJ0_isLatin1_aae02 10 = .ok (.ifCond .ne 7, 3) := by decide +kernel
theorem dj_isLatin1_13 : decode cJ0_isLatin1_aae02 13 = .ok (.iconst 1, 1) := by decide +kernel
theorem dj_isLatin1_14 : decode cJ0_isLatin1_aae02 14 = .ok (.goto 4, 3) := by decide +kernel
theorem dj_isLatin1_17 : decode cJ0_isLatin1_aae02 17 = .ok (.iconst 0, 1) := by decide +kernel
theorem dj_isLatin1_18 : decode cJ0_isLatin1_aae02 18 = .ok (.ireturn, 1) := by decide +kernel
theorem dj_pre_0 : decode cJ3_checkIndex_8e157 0 = .ok (.iload_n 0, 1) := by decide +kernel
theorem dj_pre_1 : decode cJ3_checkIndex_8e157 1 = .ok (.ifCond .lt 8, 3) := by decide +kernel
theorem dj_pre_4 : decode cJ3_checkIndex_8e157 4 = .ok (.iload_n 0, 1) := by decide +kernel
theorem dj_pre_5 : decode cJ3_checkIndex_8e157 5 = .ok (.iload_n 1, 1) := by decide +kernel
theorem dj_pre_6 : decode cJ3_checkIndex_8e157 6 = .ok (.if_icmp .lt 10, 3) := by decide +kernel
theorem dj_pre_9 : decode cJ3_checkIndex_8e157 9 = .ok (.aload_n 2, 1) := by decide +kernel
theorem dj_pre_10 : decode cJ3_checkIndex_8e157 10 = .ok (.iload_n 0, 1) := by decide +kernel
theorem dj_pre_11 : decode cJ3_checkIndex_8e157 11 = .ok (.iload_n 1, 1) := by decide +kernel
theorem dj_pre_12 : decode cJ3_checkIndex_8e157 12 = .ok (.invokestatic 95, 3) := by decide +kernel
theorem dj_pre_15 : decode cJ3_checkIndex_8e157 15 = .ok (.athrow, 1) := by decide +kernel
theorem dj_pre_16 : decode cJ3_checkIndex_8e157 16 = .ok (.iload_n 0, 1) := by decide +kernel
theorem dj_pre_17 : decode cJ3_checkIndex_8e157 17 = .ok (.ireturn, 1) := by decide +kernel
theorem dj_chk_0 : decode cJ0_checkIndex_df160 0 = .ok (.iload_n 0, 1) := by decide +kernel
theorem dj_chk_1 : decode cJ0_checkIndex_df160 1 = .ok (.iload_n 1, 1) := by decide +kernel
theorem dj_chk_2 : decode cJ0_checkIndex_df160 2 = .ok (.getstatic 1053, 3) := by decide +kernel
theorem dj_chk_5 : decode cJ0_checkIndex_df160 5 = .ok (.invokestatic 1059, 3) := by decide +kernel
theorem dj_chk_8 : decode cJ0_checkIndex_df160 8 = .ok (.pop, 1) := by decide +kernel
theorem dj_chk_9 : decode cJ0_checkIndex_df160 9 = .ok (.return_, 1) := by decide +kernel
theorem dj_lat_0 : decode cJ1_charAt_3b067 0 = .ok (.iload_n 1, 1) := by decide +kernel
theorem dj_lat_1 : decode cJ1_charAt_3b067 1 = .ok (.aload_n 0, 1) := by decide +kernel
theorem dj_lat_2 : decode cJ1_charAt_3b067 2 = .ok (.arraylength, 1) := by decide +kernel
theorem dj_lat_3 : decode cJ1_charAt_3b067 3 = .ok (.invokestatic 9, 3) := by decide +kernel
theorem dj_lat_6 : decode cJ1_charAt_3b067 6 = .ok (.aload_n 0, 1) := by decide +kernel
theorem dj_lat_7 : decode cJ1_charAt_3b067 7 = .ok (.iload_n 1, 1) := by decide +kernel
theorem dj_lat_8 : decode cJ1_charAt_3b067 8 = .ok (.baload, 1) := by decide +kernel
theorem dj_lat_9 : decode cJ1_charAt_3b067 9 = .ok (.sipush 255, 3) := by decide +kernel
theorem dj_lat_12 : decode cJ1_charAt_3b067 12 = .ok (.iand, 1) := by decide +kernel
theorem dj_lat_13 : decode cJ1_charAt_3b067 13 = .ok (.i2c, 1) := by decide +kernel
theorem dj_lat_14 : decode cJ1_charAt_3b067 14 = .ok (.ireturn, 1) := by decide +kernel
theorem dj_charAt_0 : decode cJ0_charAt_5068e 0 = .ok (.aload_n 0, 1) := by decide +kernel
theorem dj_charAt_1 : decode cJ0_charAt_5068e 1 = .ok (.invokevirtual 492, 3) := by decide +kernel
theorem dj_charAt_4 : decode cJ0_charAt_5068e 4 = .ok (.ifCond .eq 12, 3) := by decide +kernel
theorem dj_charAt_7 : decode cJ0_charAt_5068e 7 = .ok (.aload_n 0, 1) := by decide +kernel
theorem dj_charAt_8 : decode cJ0_charAt_5068e 8 = .ok (.getfield 9, 3) := by decide +kernel
theorem dj_charAt_11 : decode cJ0_charAt_5068e 11 = .ok (.iload_n 1, 1) := by decide +kernel
theorem dj_charAt_12 : decode cJ0_charAt_5068e 12 = .ok (.invokestatic 495, 3) := by decide +kernel
theorem dj_charAt_15 : decode cJ0_charAt_5068e 15 = .ok (.ireturn, 1) := by decide +kernel
theorem dj_charAt_16 : decode cJ0_charAt_5068e 16 = .ok (.aload_n 0, 1) := by decide +kernel
theorem dj_charAt_17 : decode cJ0_charAt_5068e 17 = .ok (.getfield 9, 3) := by decide +kernel
theorem dj_charAt_20 : decode cJ0_charAt_5068e 20 = .ok (.iload_n 1, 1) := by decide +kernel
theorem dj_charAt_21 : decode cJ0_charAt_5068e 21 = .ok (.invokestatic 498, 3) := by decide +kernel
theorem dj_charAt_24 : decode cJ0_charAt_5068e 24 = .ok (.ireturn, 1) := by decide +kernel
set_option maxHeartbeats 4000000 in
set_option maxRecDepth 100000 in
theorem mj_coder (l : Launch) (g : Nat → Nat → Nat) (A : Nat → Prop) {k : Nat} (hk : k < 4) : Met l yJ0_coder_7d493 (mj_w yJ0_coder_7d493 cJ0_coder_7d493 1 (some .byte)) (mj_rm 0 0) (va_Pc [.ref (g 2 k)] (fun U => mm_Z g A U U.heap)) (mj_Q (some (.int 0))) 0 0 (fun _ => False) := by
  refine Met.ofW (cc := cJ0_coder_7d493) (maxL := 1) (ret := (some .byte)) (by decide +kernel) rfl ?_
  intro p e s m args below meth c s₁ B hml hv9
  obtain ⟨rfl, hZ⟩ := hv9
  have hx := B.exec
  have hb := B.bytes
  have hr := B.returns
  have hts := fun w hw => atoms_spec (ws := mj_w yJ0_coder_7d493 cJ0_coder_7d493 1 (some .byte)) B.pre w (List.mem_cons_of_mem _ hw)
  have hown : s.vm.findClass "java/lang/String" = some m.cls := findClass_of_methodNamed B.named
  have hlocks := B.notSynchronized
  have hS : va_S A s.heap s.heap [] := va_S.rf
  have hl := lv_entry ([.ref (g 2 k)]) (n := 1) (Nat.le_of_ble_eq_true rfl)
  rw [lg_entry_eq]
  generalize (lg_sl ([.ref (g 2 k)]) ++ List.replicate (1 - (lg_sl ([.ref (g 2 k)])).length) Slot.unset).toArray = ls at hl ⊢
  have hl : lv_has ls 1 [(0, .ref (g 2 k))] := hl
  refine va_gets hx hb hZ.2.2.2.2.2.2.2.1 hS hown (hts _ (mm_tw4 207 rfl rfl)) (fun _ w => w) dj_coder_0 ?_
  refine lv_if_eq (tgt := 13) hx hb dj_coder_3 (by decide) (fun w => absurd w (by decide)) (fun _ => ?_)
  refine lv_aload_n hx hb dj_coder_6 rfl (lv_at hl 0 rfl) ?_
  refine vk_getf hx hb (hZ.2.2.2.2.2.2.2.2.2 k hk).2.1 hS hown (hts _ (mm_tw9 33 rfl rfl)) (fun _ w => w) dj_coder_7 ?_
  refine lv_goto (tgt := 14) hx hb dj_coder_10 (by decide) ?_
  exact W.zret hx hb hr rfl (fun t ht hW => ⟨rfl, ht⟩) (fun q hq => absurd hq List.not_mem_nil) dj_coder_14
set_option maxHeartbeats 4000000 in
set_option maxRecDepth 100000 in
theorem mj_isLatin1 (l : Launch) (g : Nat → Nat → Nat) (A : Nat → Prop) {k : Nat} (hk : k < 4) : Met l yJ0_isLatin1_aae02 (mj_w yJ0_isLatin1_aae02 cJ0_isLatin1_aae02 1 (some .boolean)) (mj_rm 0 0) (va_Pc [.ref (g 2 k)] (fun U => mm_Z g A U U.heap)) (mj_Q (some (.int 1))) 0 0 (fun _ => False) := by
  refine Met.ofW (cc := cJ0_isLatin1_aae02) (maxL := 1) (ret := (some .boolean)) (by decide +kernel) rfl ?_
  intro p e s m args below meth c s₁ B hml hv9
  obtain ⟨rfl, hZ⟩ := hv9
  have hx := B.exec
  have hb := B.bytes
  have hr := B.returns
  have hts := fun w hw => atoms_spec (ws := mj_w yJ0_isLatin1_aae02 cJ0_isLatin1_aae02 1 (some .boolean)) B.pre w (List.mem_cons_of_mem _ hw)
  have hown : s.vm.findClass "java/lang/String" = some m.cls := findClass_of_methodNamed B.named
  have hlocks := B.notSynchronized
  have hS : va_S A s.heap s.heap [] := va_S.rf
  have hl := lv_entry ([.ref (g 2 k)]) (n := 1) (Nat.le_of_ble_eq_true rfl)
  rw [lg_entry_eq]
  generalize (lg_sl ([.ref (g 2 k)]) ++ List.replicate (1 - (lg_sl ([.ref (g 2 k)])).length) Slot.unset).toArray = ls at hl ⊢
  have hl : lv_has ls 1 [(0, .ref (g 2 k))] := hl
  refine va_gets hx hb hZ.2.2.2.2.2.2.2.1 hS hown (hts _ (mm_tw4 207 rfl rfl)) (fun _ w => w) dj_isLatin1_0 ?_
  refine lv_if_eq (tgt := 17) hx hb dj_isLatin1_3 (by decide) (fun w => absurd w (by decide)) (fun _ => ?_)
  refine lv_aload_n hx hb dj_isLatin1_6 rfl (lv_at hl 0 rfl) ?_
  refine vk_getf hx hb (hZ.2.2.2.2.2.2.2.2.2 k hk).2.1 hS hown (hts _ (mm_tw9 33 rfl rfl)) (fun _ w => w) dj_isLatin1_7 ?_
  refine lv_if_ne (tgt := 17) hx hb dj_isLatin1_10 (by decide) (fun w => absurd rfl w) (fun _ => ?_)
  refine lv_iconst (v := 1) hx hb dj_isLatin1_13 (by decide) ?_
  refine lv_goto (tgt := 18) hx hb dj_isLatin1_14 (by decide) ?_
  exact W.zret hx hb hr rfl (fun t ht hW => ⟨rfl, ht⟩) (fun q hq => absurd hq List.not_mem_nil) dj_isLatin1_18
set_option maxHeartbeats 4000000 in
set_option maxRecDepth 100000 in
theorem mj_length (l : Launch) (g : Nat → Nat → Nat) (A : Nat → Prop) {k : Nat} (hk : k < 4) : Met l yJ0_length_8abf5 (mj_w yJ0_length_8abf5 cJ0_length_8abf5 1 (some .int)) (mj_rm 1 20) (va_Pc [.ref (g 2 k)] (fun U => mm_Z g A U U.heap)) (mj_Q (some (.int (Int32.ofNat (mm_txt k).length)))) 0 0 (fun _ => False) := by
  refine Met.ofW (cc := cJ0_length_8abf5) (maxL := 1) (ret := (some .int)) (by decide +kernel) rfl ?_
  intro p e s m args below meth c s₁ B hml hv9
  obtain ⟨rfl, hZ⟩ := hv9
  have hx := B.exec
  have hb := B.bytes
  have hr := B.returns
  have hts := fun w hw => atoms_spec (ws := mj_w yJ0_length_8abf5 cJ0_length_8abf5 1 (some .int)) B.pre w (List.mem_cons_of_mem _ hw)
  have hown : s.vm.findClass "java/lang/String" = some m.cls := findClass_of_methodNamed B.named
  have hlocks := B.notSynchronized
  have hS : va_S A s.heap s.heap [] := va_S.rf
  have hl := lv_entry ([.ref (g 2 k)]) (n := 1) (Nat.le_of_ble_eq_true rfl)
  rw [lg_entry_eq]
  generalize (lg_sl ([.ref (g 2 k)]) ++ List.replicate (1 - (lg_sl ([.ref (g 2 k)])).length) Slot.unset).toArray = ls at hl ⊢
  have hl : lv_has ls 1 [(0, .ref (g 2 k))] := hl
  refine lv_aload_n hx hb dj_length_0 rfl (lv_at hl 0 rfl) ?_
  refine vk_getf hx hb (hZ.2.2.2.2.2.2.2.2.2 k hk).2.2.1 hS hown (hts _ (mm_tw9 32 rfl rfl)) (fun _ w => w) dj_length_1 ?_
  refine va_tlen hx hb (hZ.2.2.2.2.2.2.2.2.2 k hk).2.2.2 hS rfl dj_length_4 ?_
  refine lv_aload_n hx hb dj_length_5 rfl (lv_at hl 0 rfl) ?_
  have cw := callB_of (R := mj_rm 1 20) (own := "java/lang/String") (index := 335) 0 hts (mj_G (mm_tw4 206 rfl rfl)) rfl (rm := mj_rm 0 0) rfl rfl (hts _ (mm_tw1 21 rfl rfl)) (hts _ (mm_tw4 203 rfl rfl)) ⟨by decide +kernel, by decide +kernel, by decide +kernel⟩ ⟨Nat.le_of_ble_eq_true rfl, Nat.le_of_ble_eq_true rfl⟩
  refine mj_call (aa := _) (va_runV (C := "java/lang/String") (As := []) (rest := [.int (Int32.ofNat (mm_txt k).length)]) ⟨hx, hb, hml, hown, hts⟩ (mj_coder l g A hk) ⟨cw, hts _ (mm_tw4 204 rfl rfl), hts _ (mm_tw4 205 rfl rfl)⟩ (mj_preV hk hZ hS) rfl rfl hl.1 rfl (lv_room (Nat.le_of_ble_eq_true rfl)) dj_length_6 ⟨Nat.le_refl 0, Nat.le_refl 0⟩) ?_
  refine lv_ishr hx hb dj_length_9 ?_
  rw [sb_shr0]
  exact W.iret hx hb hr (fun t ht hW => ⟨rfl, ht⟩) (fun q hq => absurd hq List.not_mem_nil) dj_length_10
theorem mj_lt {i : Int} {n : Nat} (h0 : 0 ≤ i) (h1 : i < n) (hn : n ≤ 8) : ¬ Int32.ofInt i < 0 ∧ Int32.ofInt i < Int32.ofNat n := by
  have hi : mm_i32 i := ⟨by omega, by omega⟩
  have hnn : mm_i32 (n : Int) := ⟨by omega, by omega⟩
  have e : Int32.ofNat n = Int32.ofInt (n : Int) := rfl
  refine ⟨fun w => ?_, ?_⟩
  · have := (mm_lt hi mm_z0).mp (by rw [mm_of0]; exact w)
    omega
  · rw [e]
    exact (mm_lt hi hnn).mpr h1
set_option maxHeartbeats 4000000 in
set_option maxRecDepth 100000 in
theorem mj_pre (l : Launch) (g : Nat → Nat → Nat) (A : Nat → Prop) {i : Int} {n : Nat} {v : Value} (hc : v.category = 1) (h0 : 0 ≤ i) (h1 : i < n) (hn : n ≤ 8) : Met l yJ3_checkIndex_8e157 (mj_w yJ3_checkIndex_8e157 cJ3_checkIndex_8e157 3 (some .int)) (mj_rm 0 0) (va_Pc [.int (Int32.ofInt i), .int (Int32.ofNat n), v] (fun U => mm_Z g A U U.heap)) (mj_Q (some (.int (Int32.ofInt i)))) 0 0 (fun _ => False) := by
  refine Met.ofW (cc := cJ3_checkIndex_8e157) (maxL := 3) (ret := (some .int)) (by decide +kernel) rfl ?_
  intro p e s m args below meth c s₁ B hml hv9
  obtain ⟨rfl, hZ⟩ := hv9
  have hx := B.exec
  have hb := B.bytes
  have hr := B.returns
  have hts := fun w hw => atoms_spec (ws := mj_w yJ3_checkIndex_8e157 cJ3_checkIndex_8e157 3 (some .int)) B.pre w (List.mem_cons_of_mem _ hw)
  have hown : s.vm.findClass "jdk/internal/util/Preconditions" = some m.cls := findClass_of_methodNamed B.named
  have hlocks := B.notSynchronized
  have hS : va_S A s.heap s.heap [] := va_S.rf
  have hl := lv_entry ([.int (Int32.ofInt i), .int (Int32.ofNat n), v]) (n := 3) (by cases v <;> first | exact Nat.le_of_ble_eq_true rfl | (simp [Value.category] at hc))
  rw [lg_entry_eq]
  generalize (lg_sl ([.int (Int32.ofInt i), .int (Int32.ofNat n), v]) ++ List.replicate (3 - (lg_sl ([.int (Int32.ofInt i), .int (Int32.ofNat n), v])).length) Slot.unset).toArray = ls at hl ⊢
  have hl : lv_has ls 3 [(0, .int (Int32.ofInt i)), (1, .int (Int32.ofNat n)), (2, v)] := hl
  refine lv_iload_n hx hb dj_pre_0 rfl (lv_at hl 0 rfl) ?_
  refine lv_if_lt (tgt := 9) hx hb dj_pre_1 (by decide) (fun w => absurd w (mj_lt h0 h1 hn).1) (fun _ => ?_)
  refine lv_iload_n hx hb dj_pre_4 rfl (lv_at hl 0 rfl) ?_
  refine lv_iload_n hx hb dj_pre_5 rfl (lv_at hl 1 rfl) ?_
  refine lv_icmp_lt (tgt := 16) hx hb dj_pre_6 (by decide) (fun _ => ?_) (fun w => absurd (mj_lt h0 h1 hn).2 w)
  refine lv_iload_n hx hb dj_pre_16 rfl (lv_at hl 0 rfl) ?_
  exact W.iret hx hb hr (fun t ht hW => ⟨rfl, ht⟩) (fun q hq => absurd hq List.not_mem_nil) dj_pre_17
set_option maxHeartbeats 4000000 in
set_option maxRecDepth 100000 in
theorem mj_chk (l : Launch) (g : Nat → Nat → Nat) (A : Nat → Prop) {i : Int} {n : Nat} (h0 : 0 ≤ i) (h1 : i < n) (hn : n ≤ 8) : Met l yJ0_checkIndex_df160 (mj_w yJ0_checkIndex_df160 cJ0_checkIndex_df160 2 none) (mj_rm 1 25) (va_Pc [.int (Int32.ofInt i), .int (Int32.ofNat n)] (fun U => mm_Z g A U U.heap)) (mj_Q none) 0 0 (fun _ => False) := by
  refine Met.ofW (cc := cJ0_checkIndex_df160) (maxL := 2) (ret := none) (by decide +kernel) rfl ?_
  intro p e s m args below meth c s₁ B hml hv9
  obtain ⟨rfl, hZ⟩ := hv9
  have hx := B.exec
  have hb := B.bytes
  have hr := B.returns
  have hts := fun w hw => atoms_spec (ws := mj_w yJ0_checkIndex_df160 cJ0_checkIndex_df160 2 none) B.pre w (List.mem_cons_of_mem _ hw)
  have hown : s.vm.findClass "java/lang/String" = some m.cls := findClass_of_methodNamed B.named
  have hlocks := B.notSynchronized
  have hS : va_S A s.heap s.heap [] := va_S.rf
  have hl := lv_entry ([.int (Int32.ofInt i), .int (Int32.ofNat n)]) (n := 2) (Nat.le_of_ble_eq_true rfl)
  rw [lg_entry_eq]
  generalize (lg_sl ([.int (Int32.ofInt i), .int (Int32.ofNat n)]) ++ List.replicate (2 - (lg_sl ([.int (Int32.ofInt i), .int (Int32.ofNat n)])).length) Slot.unset).toArray = ls at hl ⊢
  have hl : lv_has ls 2 [(0, .int (Int32.ofInt i)), (1, .int (Int32.ofNat n))] := hl
  refine lv_iload_n hx hb dj_chk_0 rfl (lv_at hl 0 rfl) ?_
  refine lv_iload_n hx hb dj_chk_1 rfl (lv_at hl 1 rfl) ?_
  have cw := callB_of (R := mj_rm 1 25) (own := "java/lang/String") (index := 1059) 3 hts (mj_G (mm_tw4 227 rfl rfl)) rfl (rm := mj_rm 0 0) rfl rfl (hts _ (mm_tw1 23 rfl rfl)) (hts _ (mm_tw4 225 rfl rfl)) ⟨by decide +kernel, by decide +kernel, by decide +kernel⟩ ⟨Nat.le_of_ble_eq_true rfl, Nat.le_of_ble_eq_true rfl⟩
  have fin : ∀ v : Value, v.category = 1 → W p l e (headSpec (mj_w yJ0_checkIndex_df160 cJ0_checkIndex_df160 2 none) (mj_rm 1 25)).room s m #[.int (Int32.ofInt i), .int (Int32.ofNat n)] below meth c s.heap [] 0 0 (MQ below (mj_Q none) #[.int (Int32.ofInt i), .int (Int32.ofNat n)] s 0 0 (fun _ => False)) (F0 m 5 ls [v, .int (Int32.ofNat n), .int (Int32.ofInt i)]) := by
    intro v hc
    refine mj_call (aa := _) (va_runS (As := [.int (Int32.ofInt i), .int (Int32.ofNat n), v]) (rest := []) ⟨hx, hb, hml, hown, hts⟩ (mj_pre l g A hc h0 h1 hn) ⟨cw, hts _ (mm_tw4 226 rfl rfl)⟩ (mj_pre0 hZ hS) rfl rfl hl.1 rfl (lv_room (Nat.le_of_ble_eq_true rfl)) dj_chk_5 ⟨Nat.le_refl 0, Nat.le_refl 0⟩) ?_
    refine lv_pop hx hb dj_chk_8 rfl ?_
    exact W.vret hx hb hr (fun t ht hW => ⟨rfl, ht⟩) (fun q hq => absurd hq List.not_mem_nil) dj_chk_9
  rcases hZ.2.2.2.2.2.2.2.2.1 with z | ⟨t0, z⟩
  · exact va_gets hx hb z hS hown (hts _ (mm_tw4 223 rfl rfl)) (fun _ w => w) dj_chk_2 (fin _ rfl)
  · exact va_gets hx hb z hS hown (hts _ (mm_tw4 223 rfl rfl)) (fun _ w => w) dj_chk_2 (fin _ rfl)
theorem mj_chr {x : Int} (h0 : 0 ≤ x) (h1 : x < 128) : ((Int32.ofInt x &&& 255).toUInt32 % 65536).toInt32 = Int32.ofInt x ∧ narrow .char (.int (Int32.ofInt x)) = .int (Int32.ofInt x) := by
  have : ∀ n : Nat, n < 128 → ((Int32.ofInt (n : Int) &&& 255).toUInt32 % 65536).toInt32 = Int32.ofInt (n : Int) ∧ narrow .char (.int (Int32.ofInt (n : Int))) = .int (Int32.ofInt (n : Int)) := by decide +kernel
  have w := this x.toNat (by omega)
  rw [show ((x.toNat : Nat) : Int) = x by omega] at w
  exact w
set_option maxHeartbeats 4000000 in
set_option maxRecDepth 100000 in
theorem mj_lat (l : Launch) (g : Nat → Nat → Nat) (A : Nat → Prop) {k : Nat} {i : Int} (hk : k < 4) (h0 : 0 ≤ i) (h1 : i < ((mm_txt k).length : Nat)) : Met l yJ1_charAt_3b067 (mj_w yJ1_charAt_3b067 cJ1_charAt_3b067 2 (some .char)) (mj_rm 2 50) (va_Pc [.ref (g 4 k), .int (Int32.ofInt i)] (fun U => mm_Z g A U U.heap)) (mj_Q (some (.int (Int32.ofInt ((mm_txt k).getD i.toNat 0))))) 0 0 (fun _ => False) := by
  refine Met.ofW (cc := cJ1_charAt_3b067) (maxL := 2) (ret := (some .char)) (by decide +kernel) rfl ?_
  intro p e s m args below meth c s₁ B hml hv9
  obtain ⟨rfl, hZ⟩ := hv9
  have hx := B.exec
  have hb := B.bytes
  have hr := B.returns
  have hts := fun w hw => atoms_spec (ws := mj_w yJ1_charAt_3b067 cJ1_charAt_3b067 2 (some .char)) B.pre w (List.mem_cons_of_mem _ hw)
  have hown : s.vm.findClass "java/lang/StringLatin1" = some m.cls := findClass_of_methodNamed B.named
  have hlocks := B.notSynchronized
  have hS : va_S A s.heap s.heap [] := va_S.rf
  have hl := lv_entry ([.ref (g 4 k), .int (Int32.ofInt i)]) (n := 2) (Nat.le_of_ble_eq_true rfl)
  rw [lg_entry_eq]
  generalize (lg_sl ([.ref (g 4 k), .int (Int32.ofInt i)]) ++ List.replicate (2 - (lg_sl ([.ref (g 4 k), .int (Int32.ofInt i)])).length) Slot.unset).toArray = ls at hl ⊢
  have hl : lv_has ls 2 [(0, .ref (g 4 k)), (1, .int (Int32.ofInt i))] := hl
  have hT := (hZ.2.2.2.2.2.2.2.2.2 k hk).2.2.2
  have hlen := mm_txt_len k
  refine lv_iload_n hx hb dj_lat_0 rfl (lv_at hl 1 rfl) ?_
  refine lv_aload_n hx hb dj_lat_1 rfl (lv_at hl 0 rfl) ?_
  refine va_tlen hx hb hT hS rfl dj_lat_2 ?_
  have cw := callB_of (R := mj_rm 2 50) (own := "java/lang/StringLatin1") (index := 9) 2 hts (mj_G (mm_tw4 222 rfl rfl)) rfl (rm := mj_rm 1 25) rfl rfl (hts _ (mm_tw1 21 rfl rfl)) (hts _ (mm_tw4 220 rfl rfl)) ⟨by decide +kernel, by decide +kernel, by decide +kernel⟩ ⟨Nat.le_of_ble_eq_true rfl, Nat.le_of_ble_eq_true rfl⟩
  refine mj_call (aa := _) (va_runS (As := [.int (Int32.ofInt i), .int (Int32.ofNat (mm_txt k).length)]) (rest := []) ⟨hx, hb, hml, hown, hts⟩ (mj_chk l g A h0 h1 hlen) ⟨cw, hts _ (mm_tw4 221 rfl rfl)⟩ (mj_pre0 hZ hS) rfl rfl hl.1 rfl (lv_room (Nat.le_of_ble_eq_true rfl)) dj_lat_3 ⟨Nat.le_refl 0, Nat.le_refl 0⟩) ?_
  refine lv_aload_n hx hb dj_lat_6 rfl (lv_at hl 0 rfl) ?_
  refine lv_iload_n hx hb dj_lat_7 rfl (lv_at hl 1 rfl) ?_
  refine va_tb hx hb hT hS (i := Int32.ofInt i) (mm_vin h0 h1 (by omega)) (v := .int (Int32.ofInt ((mm_txt k).getD i.toNat 0))) (by rw [mm_clamp h0 (by omega)]) dj_lat_8 ?_
  refine lv_sipush (v := 255) hx hb dj_lat_9 (by decide) ?_
  refine lv_iand hx hb dj_lat_12 ?_
  have hch : 0 ≤ (mm_txt k).getD i.toNat 0 ∧ (mm_txt k).getD i.toNat 0 < 128 := by
    rw [List.getD_eq_getElem?_getD]
    cases ee : (mm_txt k)[i.toNat]? with
    | none => exact ⟨by decide, by decide⟩
    | some w => exact mm_txt_ok k w (List.mem_of_getElem? ee)
  obtain ⟨c1, c2⟩ := mj_chr hch.1 hch.2
  refine lv_i2c hx hb dj_lat_13 c1 ?_
  exact W.zret hx hb hr c2 (fun t ht hW => ⟨rfl, ht⟩) (fun q hq => absurd hq List.not_mem_nil) dj_lat_14
set_option maxHeartbeats 4000000 in
set_option maxRecDepth 100000 in
theorem mj_charAt (l : Launch) (g : Nat → Nat → Nat) (A : Nat → Prop) {k : Nat} {i : Int} (hk : k < 4) (h0 : 0 ≤ i) (h1 : i < ((mm_txt k).length : Nat)) : Met l yJ0_charAt_5068e (mj_w yJ0_charAt_5068e cJ0_charAt_5068e 2 (some .char)) (mj_rm 3 80) (va_Pc [.ref (g 2 k), .int (Int32.ofInt i)] (fun U => mm_Z g A U U.heap)) (mj_Q (some (.int (Int32.ofInt ((mm_txt k).getD i.toNat 0))))) 0 0 (fun _ => False) := by
  refine Met.ofW (cc := cJ0_charAt_5068e) (maxL := 2) (ret := (some .char)) (by decide +kernel) rfl ?_
  intro p e s m args below meth c s₁ B hml hv9
  obtain ⟨rfl, hZ⟩ := hv9
  have hx := B.exec
  have hb := B.bytes
  have hr := B.returns
  have hts := fun w hw => atoms_spec (ws := mj_w yJ0_charAt_5068e cJ0_charAt_5068e 2 (some .char)) B.pre w (List.mem_cons_of_mem _ hw)
  have hown : s.vm.findClass "java/lang/String" = some m.cls := findClass_of_methodNamed B.named
  have hlocks := B.notSynchronized
  have hS : va_S A s.heap s.heap [] := va_S.rf
  have hl := lv_entry ([.ref (g 2 k), .int (Int32.ofInt i)]) (n := 2) (Nat.le_of_ble_eq_true rfl)
  rw [lg_entry_eq]
  generalize (lg_sl ([.ref (g 2 k), .int (Int32.ofInt i)]) ++ List.replicate (2 - (lg_sl ([.ref (g 2 k), .int (Int32.ofInt i)])).length) Slot.unset).toArray = ls at hl ⊢
  have hl : lv_has ls 2 [(0, .ref (g 2 k)), (1, .int (Int32.ofInt i))] := hl
  have hch : 0 ≤ (mm_txt k).getD i.toNat 0 ∧ (mm_txt k).getD i.toNat 0 < 128 := by
    rw [List.getD_eq_getElem?_getD]
    cases ee : (mm_txt k)[i.toNat]? with
    | none => exact ⟨by decide, by decide⟩
    | some w => exact mm_txt_ok k w (List.mem_of_getElem? ee)
  refine lv_aload_n hx hb dj_charAt_0 rfl (lv_at hl 0 rfl) ?_
  have cw := callB_of (R := mj_rm 3 80) (own := "java/lang/String") (index := 492) 0 hts (mj_G (mm_tw4 216 rfl rfl)) rfl (rm := mj_rm 0 0) rfl rfl (hts _ (mm_tw1 21 rfl rfl)) (hts _ (mm_tw4 213 rfl rfl)) ⟨by decide +kernel, by decide +kernel, by decide +kernel⟩ ⟨Nat.le_of_ble_eq_true rfl, Nat.le_of_ble_eq_true rfl⟩
  refine mj_call (aa := _) (va_runV (C := "java/lang/String") (As := []) (rest := []) ⟨hx, hb, hml, hown, hts⟩ (mj_isLatin1 l g A hk) ⟨cw, hts _ (mm_tw4 214 rfl rfl), hts _ (mm_tw4 215 rfl rfl)⟩ (mj_preV hk hZ hS) rfl rfl hl.1 rfl (lv_room (Nat.le_of_ble_eq_true rfl)) dj_charAt_1 ⟨Nat.le_refl 0, Nat.le_refl 0⟩) ?_
  refine lv_if_eq (tgt := 16) hx hb dj_charAt_4 (by decide) (fun w => absurd w (by decide)) (fun _ => ?_)
  refine lv_aload_n hx hb dj_charAt_7 rfl (lv_at hl 0 rfl) ?_
  refine vk_getf hx hb (hZ.2.2.2.2.2.2.2.2.2 k hk).2.2.1 hS hown (hts _ (mm_tw9 32 rfl rfl)) (fun _ w => w) dj_charAt_8 ?_
  refine lv_iload_n hx hb dj_charAt_11 rfl (lv_at hl 1 rfl) ?_
  have cw2 := callB_of (R := mj_rm 3 80) (own := "java/lang/String") (index := 495) 2 hts (mj_G (mm_tw4 219 rfl rfl)) rfl (rm := mj_rm 2 50) rfl rfl (hts _ (mm_tw1 22 rfl rfl)) (hts _ (mm_tw4 217 rfl rfl)) ⟨by decide +kernel, by decide +kernel, by decide +kernel⟩ ⟨Nat.le_of_ble_eq_true rfl, Nat.le_of_ble_eq_true rfl⟩
  refine mj_call (aa := _) (va_runS (As := [.ref (g 4 k), .int (Int32.ofInt i)]) (rest := []) ⟨hx, hb, hml, hown, hts⟩ (mj_lat l g A hk h0 h1) ⟨cw2, hts _ (mm_tw4 218 rfl rfl)⟩ (mj_pre0 hZ hS) rfl rfl hl.1 rfl (lv_room (Nat.le_of_ble_eq_true rfl)) dj_charAt_12 ⟨Nat.le_refl 0, Nat.le_refl 0⟩) ?_
  exact W.zret hx hb hr (mj_chr hch.1 hch.2).2 (fun t ht hW => ⟨rfl, ht⟩) (fun q hq => absurd hq List.not_mem_nil) dj_charAt_15
/-- what was owed of the texts -/
theorem mm_str_ok (l : Launch) : mm_str l := by
  intro p e d s m args below meth c g D cy Q q pc len ls st h aux val ins s' X hlen hins hd hc h2 hv hs K
  obtain ⟨hx, hb, hml, hrt, hlk, hown, hts, hK, hZ, hN, hg⟩ := X
  intro H locs L hP hS hL
  rcases hins with ⟨i, rfl, e1⟩ | ⟨i, rfl, n0⟩
  · simp only [mm_st, mm_F] at hs
    have e0 : len = 3 := by simpa [mm_ck2, mm_ln] using h2
    subst e0
    simp only [mm_chk, Bool.and_eq_true, Bool.or_eq_true, beq_iff_eq] at hc
    rcases hc with ⟨w, -⟩ | ⟨-, hm⟩
    · rw [e1] at w
      cases w
    · have hm := mm_elem hm
      cases hs
      have tx : ∀ z ∈ mm_ps, z.1 = 11 ∧ 0 ≤ z.2.2 ∧ z.2.2 < 4 ∧ (mm_tix.getD z.2.2.toNat (0, "")).1 = z.2.1 := by decide
      obtain ⟨t1, t2, t3, t4⟩ := tx _ hm
      simp only at t1 t2 t3 t4
      have own9 : s.vm.findClass "HiccupTown" = some m.cls := by rw [t1] at hown; exact hown
      have hR := hN.2 val.toNat (by omega)
      rw [t4] at hR
      rw [e1] at K
      exact mj_ldcw hx hb own9 hR hd (K H locs L hP hS hL)
  · simp only [mm_st, mm_F] at hs
    have e0 : len = 3 := by simpa [mm_ck2, mm_ln] using h2
    subst e0
    have hsz : L.size = (mm_prog q).2 := by rw [hL.1, hlen]
    simp only [mm_chk] at hc
    split at hs
    · exact absurd ‹_› n0
    · rename_i hcd
      rw [hcd] at hc
      have hi := (mm_pi_ok _ (mm_elem hc)).2.2.2.2.2.1 rfl
      obtain ⟨t1, w⟩ := hi
      obtain ⟨x, r, rfl, h1⟩ := mm_t1_some hs
      obtain ⟨hw, h2⟩ := mm_ck_some h1
      cases h2
      have hk : 0 ≤ x ∧ x < 4 := hv.pop.1
      have cw := callB_of (R := mm_rm d) (own := mm_xn (mm_xq q)) (index := i) 0 hts (mj_G (mm_tw4 202 rfl rfl)) rfl (rm := mj_rm 1 20) rfl rfl (hts _ (mm_tw1 21 rfl rfl)) (hts _ w) ⟨by decide +kernel, by decide +kernel, by decide +kernel⟩ ⟨by show 1 + 1 ≤ d + 5; omega, by show 8 + (1 + 11) + 20 ≤ 60 * d + 120; omega⟩
      have k := K H locs L hP hS hL
      have ex : ((x.toNat : Nat) : Int) = x := by omega
      refine mj_call (aa := _) (va_runV (C := "java/lang/String") (b := g 2 x.toNat) (As := []) (rest := r.map (mm_val g)) ⟨hx, hb, hml, hown, hts⟩ (mj_length l g (mm_A g) (k := x.toNat) (by omega)) ⟨cw, hts _ (mm_tw4 200 rfl rfl), hts _ (mm_tw4 201 rfl rfl)⟩ (mj_preV (by omega) hZ hS) rfl rfl hsz rfl (lv_room (by rw [mm_wds]; exact hw)) hd ⟨Nat.le_refl 0, Nat.le_refl 0⟩) ?_
      rw [ex]
      exact k
    · rename_i hcd
      rw [hcd] at hc
      have hi := (mm_pi_ok _ (mm_elem hc)).2.2.2.2.2.2 rfl
      obtain ⟨t1, w⟩ := hi
      obtain ⟨i2, r, rfl, h1⟩ := mm_t1_some hs
      obtain ⟨x, r, rfl, h2⟩ := mm_t1_some h1
      obtain ⟨hw, h3⟩ := mm_ck_some h2
      obtain ⟨e2, h4⟩ := mm_if_some h3
      cases h4
      have hk : 0 ≤ x ∧ x < 4 := hv.pop.2.pop.1
      have cw := callB_of (R := mm_rm d) (own := mm_xn (mm_xq q)) (index := i) 1 hts (mj_G (mm_tw4 212 rfl rfl)) rfl (rm := mj_rm 3 80) rfl rfl (hts _ (mm_tw1 21 rfl rfl)) (hts _ w) ⟨by decide +kernel, by decide +kernel, by decide +kernel⟩ ⟨by show 3 + 1 ≤ d + 5; omega, by show 8 + (2 + 11) + 80 ≤ 60 * d + 120; omega⟩
      have k := K H locs L hP hS hL
      have ex : ((x.toNat : Nat) : Int) = x := by omega
      refine mj_call (aa := _) (va_runV (C := "java/lang/String") (b := g 2 x.toNat) (As := [.int (Int32.ofInt i2)]) (rest := r.map (mm_val g)) ⟨hx, hb, hml, hown, hts⟩ (mj_charAt l g (mm_A g) (k := x.toNat) (i := i2) (by omega) e2.1 (by rw [ex]; exact e2.2)) ⟨cw, hts _ (mm_tw4 210 rfl rfl), hts _ (mm_tw4 211 rfl rfl)⟩ (mj_preV (by omega) hZ hS) rfl rfl hsz rfl (lv_room (by rw [mm_wds]; exact hw)) hd ⟨Nat.le_refl 0, Nat.le_refl 0⟩) ?_
      rw [ex]
      exact k
    · cases hs
