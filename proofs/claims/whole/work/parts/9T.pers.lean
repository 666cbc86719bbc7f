/-! HiccupTown.person where it refuses -/
theorem dp_0 : decode (mm_b 284) 0 = .ok (.aload_n 0, 1) := by decide +kernel
theorem dp_1 : decode (mm_b 284) 1 = .ok (.getfield 26, 3) := by decide +kernel
theorem dp_4 : decode (mm_b 284) 4 = .ok (.getfield 122, 3) := by decide +kernel
theorem dp_7 : decode (mm_b 284) 7 = .ok (.iconst 1, 1) := by decide +kernel
theorem dp_8 : decode (mm_b 284) 8 = .ok (.iload_n 1, 1) := by decide +kernel
theorem dp_9 : decode (mm_b 284) 9 = .ok (.invokevirtual 123, 3) := by decide +kernel
theorem dp_12 : decode (mm_b 284) 12 = .ok (.ifCond .ne 13, 3) := by decide +kernel
theorem dp_15 : decode (mm_b 284) 15 = .ok (.new 129, 3) := by decide +kernel
theorem dp_18 : decode (mm_b 284) 18 = .ok (.dup, 1) := by decide +kernel
theorem dp_19 : decode (mm_b 284) 19 = .ok (.ldc 131, 2) := by decide +kernel
theorem dp_21 : decode (mm_b 284) 21 = .ok (.invokespecial 133, 3) := by decide +kernel
theorem dp_24 : decode (mm_b 284) 24 = .ok (.athrow, 1) := by decide +kernel
theorem dp_25 : decode (mm_b 284) 25 = .ok (.iload_n 2, 1) := by decide +kernel
theorem dp_26 : decode (mm_b 284) 26 = .ok (.tableswitch 120 0 4 #[34, 47, 60, 80, 93], 34) := by decide +kernel
theorem dp_146 : decode (mm_b 284) 146 = .ok (.new 129, 3) := by decide +kernel
theorem dp_149 : decode (mm_b 284) 149 = .ok (.dup, 1) := by decide +kernel
theorem dp_150 : decode (mm_b 284) 150 = .ok (.ldc 157, 2) := by decide +kernel
theorem dp_152 : decode (mm_b 284) 152 = .ok (.invokespecial 133, 3) := by decide +kernel
theorem dp_155 : decode (mm_b 284) 155 = .ok (.athrow, 1) := by decide +kernel
def pn_rm : Room := { frames := 12, cells := 1, slots := 6, locals := 400 }
def pn_X (g : Nat → Nat → Nat) (D : va_G) (cy : Nat → ClassId) (h : mm_H) : String → State → State → Prop := vx_X (fun _ : Unit => True) (fun E _ t => E = nsX ∧ va_P D vwCl (mm_ws g cy h) t.heap) (mm_A g)
def pn_Q (g : Nat → Nat → Nat) : Array Value → State → Outcome → State → Prop := va_Qi (fun (_ : Int32) (_ : Unit) => False) (fun _ _ => True) (mm_A g)
set_option maxHeartbeats 2000000 in
set_option maxRecDepth 100000 in
theorem pn_met (l : Launch) (hl : l.stackTraces = false) {g : Nat → Nat → Nat} {D : va_G} {cy : Nat → ClassId} {h : mm_H} {p w : Int} {sa sb : Nat} (hg : mm_inj g) (hI : Inv h) (hp : mm_i32 p) (hw : mm_i32 w) (hn : ¬ ((0 ≤ p ∧ p < h 135 2) ∧ 0 ≤ w ∧ w ≤ 4)) :
    vx_Met l (mm_y 284) (mm_wq 284) pn_rm (va_Pc [.ref (g 0 0), .int (Int32.ofInt p), .int (Int32.ofInt w)] (fun U => mm_U g D cy h U ∧ ns_N sa sb (mm_A g) U U.heap)) (pn_Q g) (pn_X g D cy h) 1 6 (mm_A g) := by
  refine vx_ofW (cc := mm_b 284) (maxL := 3) (ret := mm_r 284) (by decide +kernel) rfl ?_
  intro p9 e s m args below meth c s₁ B hml hout hPc
  obtain ⟨rfl, ⟨hP, hK, hZ, hN, hR⟩, hX9⟩ := hPc
  have hx := B.exec
  have hb := B.bytes
  have hts : ∀ w ∈ mm_TW, w.before _ s = true := fun w hw => atoms_spec (ws := mm_wq 284) B.pre w (List.mem_cons_of_mem _ hw)
  have hown : s.vm.findClass "HiccupTown" = some m.cls := findClass_of_methodNamed B.named
  have hlk := B.notSynchronized
  have hle := lv_entry ([.ref (g 0 0), .int (Int32.ofInt p), .int (Int32.ofInt w)]) (n := 3) (Nat.le_of_ble_eq_true rfl)
  rw [lg_entry_eq]
  generalize (lg_sl ([.ref (g 0 0), .int (Int32.ofInt p), .int (Int32.ofInt w)]) ++ List.replicate (3 - (lg_sl ([.ref (g 0 0), .int (Int32.ofInt p), .int (Int32.ofInt w)])).length) Slot.unset).toArray = ls at hle ⊢
  have h9 : lv_has ls 3 [(0, .ref (g 0 0)), (1, .int (Int32.ofInt p)), (2, .int (Int32.ofInt w))] := hle
  have at0 : (mm_ws g cy h)[0]? = some (g 0 0, .inr (10, (List.range (mm_fn 20)).map fun k => mm_fv g h 0 k (mm_fcd 20 k))) := mm_at_obj (v := (20, 0)) ⟨by decide, by decide, by decide⟩ (by decide) (by decide)
  have at14 : (mm_ws g cy h)[14]? = some (g 0 14, .inr (6, (List.range (mm_fn 16)).map fun k => mm_fv g h 14 k (mm_fcd 16 k))) := mm_at_obj (v := (16, 14)) ⟨by decide, by decide, by decide⟩ (by decide) (by decide)
  refine lv_aload_n hx hb dp_0 rfl (lv_at h9 0 rfl) ?_
  refine va_get (C := RX11) (T := TX11) (N := 15) hx hb hts mm_cw20 hown hK hP 0 at0 rfl 2 (by decide) (hts _ (mm_tw2 127 rfl rfl)) (fun _ w => w) (v := .ref (g 0 14)) rfl dp_1 ?_
  refine va_getN (C := RX6) (T := TX6) (N := 4) hx hb hts mm_cw16 hown hK hP 14 at14 rfl 0 (by decide) (va_Nw.use rfl (hN.1 _ (mm_tn2 11 rfl rfl))) (fun _ w => w) (v := .ref (g 0 15)) rfl dp_4 ?_
  refine lv_iconst (v := Int32.ofInt 1) hx hb dp_7 rfl ?_
  refine lv_iload_n hx hb dp_8 rfl (lv_at h9 1 rfl) ?_
  have r51 := cl_has hI.P (s := 1) (x := p) (by decide) (by decide) 0
  refine mm_cv (own := "HiccupTown") (i := 123) (pc := 9) (q := 51) (d := 0) (v := (14, 15)) (A0 := [(0, 1), (0, p)]) (rest := []) (A := mm_A g) hx hb hml hown hts hg hK hN (mm_str_ok l) (by decide) rfl (mm_tw3 126 rfl rfl) rfl rfl ?_ r51 h9.1 (by simp) ⟨Nat.le_of_ble_eq_true rfl, Nat.le_of_ble_eq_true rfl⟩ (Nat.zero_le _) (Nat.zero_le _) dp_9 hZ hR hP va_S.rf (fun _ h => h) (fun H1 locs1 Z1 R1 P1 S1 z1 k1 => ?_)
  · intro x hx
    simp only [List.mem_cons, List.not_mem_nil, or_false] at hx
    rcases hx with e | e | e
    · subst e; exact ⟨by decide, by decide, by decide⟩
    · subst e; exact ⟨by decide, by decide⟩
    · subst e; exact hp
  have hS9 : ∀ z ∈ locs1, mm_A g z.base := S1.2.2
  have hxc : ∀ t : State, s.vm.Alike t.vm → H1.size ≤ t.heap.size → (∀ q : Nat, q < H1.size → t.heap[q]? = H1[q]?) → pn_X g D cy h nsX s t := fun t _ q1 q2 =>
    ⟨(), trivial, ⟨rfl, P1.kept (fun k x hx => q2 x.1 ((P1 k x hx).lt))⟩, ⟨Nat.le_trans S1.1 q1, fun z z1 z2 => (q2 z (Nat.lt_of_lt_of_le z1 S1.1)).trans (S1.2.1 z z1 z2)⟩⟩
  by_cases c0 : 0 ≤ p ∧ p < h 135 (1 + 1)
  · have e1 : (mm_rv g (mm_rt 51) (sp_b (decide (0 ≤ p ∧ p < h 135 (1 + 1))))).toList ++ ([] : List Value) = [.int 1] := by rw [decide_eq_true c0]; rfl
    refine W.eq (g2 := F0 m 12 ls [.int 1]) (by rw [← e1]) ?_
    refine lv_if_ne (tgt := 25) hx hb dp_12 rfl (fun _ => ?_) (fun q => absurd q (by decide))
    refine lv_iload_n hx hb dp_25 rfl (lv_at h9 2 rfl) ?_
    have hw9 : ¬ (0 ≤ w ∧ w ≤ 4) := fun q => hn ⟨c0, q⟩
    refine lv_tableOut (tgt := 146) hx hb dp_26 (by rw [mm_toI hw]; omega) rfl ?_
    exact ns_throw (is := 157) (sx := sb) (A := mm_A g) hx hb hl hown hts hX9 hX9.2.2.2.2 S1 (h9.1.trans hml.symm) dp_146 dp_149 dp_150 dp_152 dp_155 (fun x q => (hout x q).elim) (Nat.le_of_ble_eq_true rfl) (Nat.le_of_ble_eq_true rfl) (Nat.le_of_ble_eq_true rfl) (Nat.le_of_ble_eq_true rfl) hlk hxc hS9 (Nat.le_refl _) (Nat.le_refl _)
  · have e1 : (mm_rv g (mm_rt 51) (sp_b (decide (0 ≤ p ∧ p < h 135 (1 + 1))))).toList ++ ([] : List Value) = [.int 0] := by rw [decide_eq_false c0]; rfl
    refine W.eq (g2 := F0 m 12 ls [.int 0]) (by rw [← e1]) ?_
    refine lv_if_ne (tgt := 25) hx hb dp_12 rfl (fun q => absurd rfl q) (fun _ => ?_)
    exact ns_throw (is := 131) (sx := sa) (A := mm_A g) hx hb hl hown hts hX9 hX9.2.2.2.1 S1 (h9.1.trans hml.symm) dp_15 dp_18 dp_19 dp_21 dp_24 (fun x q => (hout x q).elim) (Nat.le_of_ble_eq_true rfl) (Nat.le_of_ble_eq_true rfl) (Nat.le_of_ble_eq_true rfl) (Nat.le_of_ble_eq_true rfl) hlk hxc hS9 (Nat.le_refl _) (Nat.le_refl _)
