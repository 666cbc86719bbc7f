/-! new HiccupTownModel() -/
theorem mk_chain (q8 q17 q25 q34 q43 q51 q59 q67 q75 q82 q89 q98 q106 q130 q137 q150 q158 q165 q174 : Nat) : (((((((((((((((((((((((([.int 0, .null, .int 0, .int 0, .int 0, .int 0, .int 0, .int 0, .int 0, .int 0, .int 0, .int 0, .long 0, .int 0, .null, .null, .null, .null, .null, .null, .null, .null, .null, .null, .int 0, .int 0, .null, .null, .int 0, .int 0, .int 0, .null, .null, .int 0, .int 0, .null, .int 0, .int 0, .null, .null, .int 0, .int 0, .null, .int 0, .int 0, .int 0, .int 0] : List Value).set 1 (.ref q8)).set 14 (.ref q17)).set 15 (.ref q25)).set 16 (.ref q34)).set 17 (.ref q43)).set 18 (.ref q51)).set 19 (.ref q59)).set 20 (.ref q67)).set 21 (.ref q75)).set 22 (.ref q82)).set 23 (.ref q89)).set 26 (.ref q98)).set 27 (.ref q106)).set 28 (.int (-1))).set 29 (.int (-1))).set 30 (.int (-1))).set 31 (.ref q130)).set 32 (.ref q137)).set 34 (.int (-1))).set 35 (.ref q150)).set 38 (.ref q158)).set 39 (.ref q165)).set 42 (.ref q174)) = ([.int 0, .ref q8, .int 0, .int 0, .int 0, .int 0, .int 0, .int 0, .int 0, .int 0, .int 0, .int 0, .long 0, .int 0, .ref q17, .ref q25, .ref q34, .ref q43, .ref q51, .ref q59, .ref q67, .ref q75, .ref q82, .ref q89, .int 0, .int 0, .ref q98, .ref q106, .int (-1), .int (-1), .int (-1), .ref q130, .ref q137, .int 0, .int (-1), .ref q150, .int 0, .int 0, .ref q158, .ref q165, .int 0, .int 0, .ref q174, .int 0, .int 0, .int 0, .int 0] : List Value) := by
  simp only [List.set_cons_succ, List.set_cons_zero]
set_option maxHeartbeats 8000000 in
set_option maxRecDepth 100000 in
theorem mt_Model (l : Launch) (D : va_G) (cy : Nat → ClassId) (g : Nat → Nat → Nat) (r : Nat → Nat) (z0 a sz : Nat) : Met l yX12_init (mk_w yX12_init cX12_init 2) (mk_rm 6 19 3337) (va_Pc [.ref a] (mk_V D cy g r z0 a sz)) (mk_QM D cy g r a (va_A ((a, mk_bM) :: nw 133 r (ce_Town cy g r)) sz)) 19 3337 (va_A ((a, mk_bM) :: nw 133 r (ce_Town cy g r)) sz) := by
  refine Met.ofW (cc := cX12_init) (maxL := 2) (ret := none) (by decide +kernel) rfl ?_
  intro p e s m args below meth c s₁ B hml hv
  obtain ⟨rfl, hsz, hP, hD0, hK, hZ, hN, hO, hzs, hw1⟩ := hv
  have hx := B.exec
  have hb := B.bytes
  have hr := B.returns
  have hts := fun w hw => atoms_spec (ws := mk_w yX12_init cX12_init 2) B.pre w (List.mem_cons_of_mem _ hw)
  have hown : s.vm.findClass RX12 = some m.cls := findClass_of_methodNamed B.named
  have hlocks := B.notSynchronized
  have hin : meth.name = "<init>" := (name_of_methodNamed B.named B.method).1
  subst hsz
  have hD := hD0.self (sz := s.heap.size)
  have hAz : ∀ q, va_A ((a, mk_bM) :: nw 133 r (ce_Town cy g r)) s.heap.size q → z0 ≤ q := fun q h => by
    rcases h with ⟨k, e9, h⟩ | h
    · exact hD0.2 _ _ h
    · exact Nat.le_trans hzs h
  generalize hAe : va_A ((a, mk_bM) :: nw 133 r (ce_Town cy g r)) s.heap.size = A at hD hAz ⊢
  have hA : ∀ q : Nat, s.heap.size ≤ q → A q := fun q h => by rw [← hAe]; exact Or.inr h
  have hl := lv_entry ([.ref a]) (n := 2) (Nat.le_of_ble_eq_true rfl)
  rw [lg_entry_eq]
  generalize (lg_sl ([.ref a]) ++ List.replicate (2 - (lg_sl ([.ref a])).length) Slot.unset).toArray = ls at hl ⊢
  have hl : lv_has ls 2 [(0, .ref a)] := hl
  have hP : va_P D vwCl ((a, .inr (11, ([.int 0, .null, .int 0, .int 0, .int 0, .int 0, .int 0, .int 0, .int 0, .int 0, .int 0, .int 0, .long 0, .int 0, .null, .null, .null, .null, .null, .null, .null, .null, .null, .null, .int 0, .int 0, .null, .null, .int 0, .int 0, .int 0, .null, .null, .int 0, .int 0, .null, .int 0, .int 0, .null, .null, .int 0, .int 0, .null, .int 0, .int 0, .int 0, .int 0] : List Value))) :: nw 133 r (ce_Town cy g r)) s.heap := hP
  have hD : va_D A ((a, .inr (11, ([.int 0, .null, .int 0, .int 0, .int 0, .int 0, .int 0, .int 0, .int 0, .int 0, .int 0, .int 0, .long 0, .int 0, .null, .null, .null, .null, .null, .null, .null, .null, .null, .null, .int 0, .int 0, .null, .null, .int 0, .int 0, .int 0, .null, .null, .int 0, .int 0, .null, .int 0, .int 0, .null, .null, .int 0, .int 0, .null, .int 0, .int 0, .int 0, .int 0] : List Value))) :: nw 133 r (ce_Town cy g r)) := hD
  generalize hw : nw 133 r (ce_Town cy g r) = w1 at hP hD
  refine mk_walk hx hb hml hown hin hts hK hA va_S.rf hl rfl hP hD (fun H locs q8 q17 q25 q34 q43 q51 q59 q67 q75 q82 q89 q98 q106 q130 q137 q150 q158 q165 q174 fsZ hfs hP hD hS => ?_)
  rw [mk_chain] at hfs
  subst hfs
  subst hw
  obtain ⟨P9, J9, A9⟩ := mk_cells (D := D) (H := H) (A := A) (cy := cy) (g := g) (r := r) (a := a) hP hD
  exact mk_end hx hb hml hr hlocks hown hts hK hZ hN hw1 hAz hS hl ⟨Nat.le_of_ble_eq_true rfl, Nat.le_of_ble_eq_true rfl⟩ (Nat.le_of_ble_eq_true rfl) (Nat.le_of_ble_eq_true rfl) P9 J9 A9
