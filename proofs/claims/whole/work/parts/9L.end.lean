/-! The end of the reference's constructor -/
theorem mm_g_ne {g : Nat → Nat → Nat} {r : Nat → Nat} {a : Nat} {q : Nat → Nat} {k : Nat} (hk : k ≠ 0) : mm_g g r a q k = g k := funext fun _ => if_neg hk
theorem mm_Z_g {g : Nat → Nat → Nat} {r : Nat → Nat} {a : Nat} {q : Nat → Nat} {A : Nat → Prop} {U : State} {H : Heap} (h : mm_Z g A U H) : mm_Z (mm_g g r a q) A U H := by
  unfold mm_Z at h ⊢
  rw [mm_g_ne (show (1 : Nat) ≠ 0 by decide), mm_g_ne (show (2 : Nat) ≠ 0 by decide), mm_g_ne (show (3 : Nat) ≠ 0 by decide), mm_g_ne (show (4 : Nat) ≠ 0 by decide)]
  exact h
theorem mm_nw_g {g : Nat → Nat → Nat} {r : Nat → Nat} {a : Nat} {q : Nat → Nat} {U : State} (h : mm_nw g U) : mm_nw (mm_g g r a q) U := by
  unfold mm_nw at h ⊢
  rw [mm_g_ne (show (2 : Nat) ≠ 0 by decide)]
  exact h
def mk_QM (D : va_G) (cy : Nat → ClassId) (g : Nat → Nat → Nat) (r : Nat → Nat) (a : Nat) (A : Nat → Prop) : Array Value → State → Outcome → State → Prop := va_Qv (fun u : (Nat → Nat) × mm_H => Inv u.2 ∧ mm_rg u.2) (fun u t => va_P D vwCl (mm_ws (mm_g g r a u.1) cy u.2) t.heap ∧ mm_inj (mm_g g r a u.1) ∧ ∀ q, mm_A (mm_g g r a u.1) q → A q) A
theorem mk_v133 : mm_vok (21, 133) := by
  refine ⟨?_, ?_, ?_⟩ <;> decide
section ME
variable {p : Program} {l : Launch} {e : Env} {R : Room} {s : State} {m : MethodId} {args : Array Value} {below : List Frame} {meth : Method} {c : Code} {H : Heap} {locs : List Loc} {cells slots : Nat}
theorem mk_end {D : va_G} {cy : Nat → ClassId} {g : Nat → Nat → Nat} {r q : Nat → Nat} {z0 a : Nat} {A : Nat → Prop} {ls : Array Slot} (hx : p.tables.exec = Jvm.exec) (hb : c.code = cX12_init) (hml : c.maxLocals = 2) (hr : meth.sig.returnType = none) (hlocks : meth.locks = false) (hown : s.vm.findClass RX12 = some m.cls) (hts : ∀ w ∈ mm_TW, w.before args s = true) (hK : va_K D vwCl (mm_tys cy) s) (hZ : mm_Z g (fun q => z0 ≤ q) s s.heap) (hN : mm_nw g s) (hw1 : ∀ i j, i < 36 → j < 36 → g 1 i = g 1 j → i = j) (hAz : ∀ q, A q → z0 ≤ q) (hS : va_S A s.heap H locs) (hl : lv_has ls 2 [(0, .ref a)])
    (hR : 6 ≤ R.frames ∧ 180 ≤ R.locals) (hc : cells ≤ R.cells) (hs : slots ≤ R.slots)
    (P9 : va_P D vwCl (mm_ws (mm_g g r a q) cy mm_h0) H) (J9 : ∀ i j, i < 153 → j < 153 → mm_g g r a q 0 i = mm_g g r a q 0 j → i = j) (A9 : ∀ z, mm_A (mm_g g r a q) z → A z) : W p l e R s m args below meth c H locs cells slots (MQ below (mk_QM D cy g r a A) args s cells slots A) (F0 m 179 ls []) := by
  obtain ⟨h9, e9, i9⟩ := rf_start 0
  have Z9 : mm_Z g (fun q => z0 ≤ q) s H := hZ.kept (fun z z1 z2 => hS.2.1 z z1 (fun w => z2 (hAz z w)))
  have Z8 := mm_Z_g (r := r) (a := a) (q := q) Z9
  have N8 := mm_nw_g (r := r) (a := a) (q := q) hN
  have L9 : mm_lr (mm_g g r a q) [(21, 133), (9, 0)] ls := by
    refine ⟨hl.1, hl.2.1, fun i v hi hv => ?_⟩
    match i, hi with
    | 0, hi =>
      cases hi
      refine ⟨mk_v133, ?_⟩
      rw [hl.2.2 (0, .ref a) List.mem_cons_self]
      rfl
    | 1, hi => cases hi; exact absurd rfl hv
    | n + 2, hi => simp at hi
  have V9 : mm_vl [(21, 133), (9, 0)] [] mm_h0 := by
    refine ⟨fun i v hi hv => ?_, fun v hv => (nomatch hv), mm_h0_rg⟩
    match i, hi with
    | 0, hi => cases hi; exact mk_v133
    | 1, hi => cases hi; exact absurd rfl hv
    | n + 2, hi => simp at hi
  have I9 : mm_inj (mm_g g r a q) := ⟨J9, by rw [mm_g_ne (show (1 : Nat) ≠ 0 by decide)]; exact hw1⟩
  have e8 : mm_R mm_prog 1 (mm_prog 285).1 179 [(21, 133), (9, 0)] [] mm_h0 = some (0, h9) := e9
  have R9 : mm_rg h9 := by
    obtain ⟨n, hn⟩ := (mm_R_iff _ _ _ _ _ _ _ _).mp e8
    exact (mm_xro n 1 285 179 [(21, 133), (9, 0)] [] mm_h0 (0, h9) (by decide) hn V9 rfl).2
  refine mm_tail (q := 285) (d := 1) (o := (0, h9)) hx hb hml hr hlocks hown hts I9 hK N8 (mm_str_ok l) (by decide) e8 V9 rfl hR hc hs (Z8.narrow (fun q hq => hAz q (A9 q hq))) P9 hS A9 L9 (fun t t1 t2 => ?_)
  exact ⟨⟨(q, h9), rfl, ⟨i9, R9⟩, t1, I9, A9⟩, t2⟩
end ME
