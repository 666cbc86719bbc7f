/-! The law: what holds wherever it goes; a load of the script; a call of class or reference -/
def R_law : String := "HiccupTownLaw"
def lw_P (b : Addr) (xs : List Int32) (args : Array Value) (s : State) : Prop := args = #[.ref b] ∧ s.IntsAt b xs ∧ xs.length ≤ 3072 ∧ (Jvm.Cond.and given_1 narrow_1).before args s = true
def lw_Q (_ : Array Value) (s : State) (o : Outcome) (t : State) : Prop := o = .returned (some (.int 1)) ∧ Framed s o t [] 601024 7293034
def lw_Z (below : List Frame) (a : Array Value) (s : State) : State → Prop := fun t => ∃ o, t.status = .running ∧ Ended t below o ∧ lw_Q a s o t
/-- the law's own end, with 1 on the stack, nothing written that was there before, its room as the claim has it -/
theorem lw_ret {p : Program} {l : Launch} {e : Env} {s : State} {m : MethodId} {below : List Frame} {meth : Method} {c : Code} {b : Nat} (hx : p.tables.exec = Jvm.exec) (hb : c.code = code) (hr : meth.sig.returnType = ret) (hlocks : meth.locks = false) {pc : Nat} {H : Heap} {ls : Array Slot} (hdg : decode code pc = .ok (.ireturn, 1)) : W p l e room_1 s m #[Value.ref b] below meth c H [] 601024 7293034 (lw_Z below #[Value.ref b] s) (F0 m pc ls [.int 1]) := by
  intro T hT X
  obtain ⟨fs, hret, hrun, hended, hW, hframe⟩ := X.leave (v := some (.int 1)) (hlocks := hlocks) (fun h => by rw [hr] at h; cases h)
  have hmeth' : T.vm.method? m = some meth := X.method'
  refine ⟨T.setFrames fs, ?_, .returned (some (.int 1)), hrun, hended, rfl, ⟨_, rfl⟩, hW, hframe⟩
  jvm_step X.here [X.here.top, hx, hb, hdg, hmeth', hr, ret, narrow_b1]
  (try refine ⟨rfl, ?_⟩); (try refine ⟨rfl, ?_⟩)
  first | (intro acts; rw [hret _ acts rfl rfl rfl]) | rw [hret _ _ rfl rfl rfl]
  exact Steps.refl _
/-- what holds at the law's entry: the machine, the code, the tables' words (any of lw_tbl by 'hts w (by decide +kernel)'), the script of L ints xs at the cell b, what the Statement gives of the start (any of its parts by flat_of_before) -/
def lw_At (p : Program) (s : State) (m : MethodId) (meth : Method) (c : Code) (b L : Nat) (xs : Nat → Int32) : Prop :=
  p.tables.exec = Jvm.exec ∧ c.code = code ∧ meth.sig.returnType = ret ∧ c.maxLocals = 7 ∧ s.vm.findClass R_law = some m.cls ∧ (∀ w ∈ lw_tbl, w.before #[Value.ref b] s = true) ∧ va_X b L xs s s.heap ∧ b < s.heap.size ∧ meth.locks = false ∧ (Jvm.Cond.and given_1 narrow_1).before #[Value.ref b] s = true
theorem lw_of {n : Nat} : Int32.ofNat n = Int32.ofInt (n : Int) := Int32.ofInt_eq_ofNat.symm
theorem lw_v20 : mm_vok (20, 0) := ⟨by decide, by decide, by decide⟩
theorem lw_v21 : mm_vok (21, 133) := ⟨by decide, by decide, by decide⟩
theorem lw_i32 (x : Int32) : mm_i32 x.toInt := ⟨Int32.le_toInt x, Int32.toInt_lt x⟩
theorem lw_vi (x : Int32) : mm_vok (0, x.toInt) := lw_i32 x
def lw_X (p : Program) (l : Launch) (s : State) (m : MethodId) (meth : Method) (c : Code) (b L : Nat) (xs : Nat → Int32) (g : Nat → Nat → Nat) (D : va_G) (cy : Nat → ClassId) (sa sb out : Nat) : Prop :=
  lw_At p s m meth c b L xs ∧ l.stackTraces = false ∧ mm_inj g ∧ va_K D vwCl (mm_tys cy) s ∧ mm_Z g (fun q => s.heap.size ≤ q) s s.heap ∧ mm_nw g s ∧ ns_N sa sb (fun q => s.heap.size ≤ q) s s.heap ∧ (∀ q, mm_A g q → s.heap.size ≤ q) ∧ s.heap.size ≤ out ∧ ¬ mm_A g out
/-- the world between two calls -/
def lw_S (s : State) (g : Nat → Nat → Nat) (D : va_G) (cy : Nat → ClassId) (out : Nat) (H : Heap) (locs : List Loc) (h : mm_H) (f : Nat → Int64) : Prop := mm_rg h ∧ va_P D vwCl (lp_ws g cy h out f) H ∧ va_S (fun q => s.heap.size ≤ q) s.heap H locs
def lw_L (b : Nat) (g : Nat → Nat → Nat) (out k : Nat) (ls : Array Slot) : Prop := lv_has ls 7 [(4, .int (Int32.ofNat (6 * k))), (3, .ref out), (2, .ref (g 0 133)), (1, .ref (g 0 0)), (0, .ref b)]
section LW
variable {p : Program} {l : Launch} {e : Env} {s : State} {m : MethodId} {below : List Frame} {meth : Method} {c : Code} {b L : Nat} {xs : Nat → Int32} {g : Nat → Nat → Nat} {D : va_G} {cy : Nat → ClassId} {sa sb out k : Nat} {H : Heap} {locs : List Loc} {h : mm_H} {f : Nat → Int64} {ls : Array Slot} {cells slots : Nat} {Q : State → Prop}
/-- the script's j-th int of this call onto the stack -/
theorem lw_arg {pc : Nat} {rest : List Value} (X : lw_X p l s m meth c b L xs g D cy sa sb out) (hL : L ≤ 3072) (hk : 6 * k + 6 ≤ L) (hl : lw_L b g out k ls) (hS : lw_S s g D cy out H locs h f) (j : Nat) (hj : j < 6) (d0 : decode code pc = .ok (.aload_n 0, 1)) (d1 : decode code (pc + 1) = .ok (.iload 4, 2)) (d2 : decode code (pc + 1 + 2) = .ok (.iconst (j : Int), 1)) (d3 : decode code (pc + 1 + 2 + 1) = .ok (.iadd, 1)) (d4 : decode code (pc + 1 + 2 + 1 + 1) = .ok (.iaload, 1))
    (kk : W p l e room_1 s m #[Value.ref b] below meth c H locs cells slots Q (F0 m (pc + 1 + 2 + 1 + 1 + 1) ls (.int (Int32.ofInt (xs (6 * k + j)).toInt) :: rest))) : W p l e room_1 s m #[Value.ref b] below meth c H locs cells slots Q (F0 m pc ls rest) := by
  obtain ⟨⟨hx, hb, hr, hml, hown, hts0, hX, hbl, hlk, hgv⟩, -⟩ := X
  refine lv_aload_n hx hb d0 rfl (lv_at hl 4 rfl) ?_
  refine lv_iload hx hb d1 (lv_at hl 0 rfl) ?_
  refine lv_iconst (v := Int32.ofNat j) hx hb d2 lw_of.symm ?_
  refine lv_iadd hx hb d3 ?_
  have e1 : Int32.ofNat (6 * k) + Int32.ofNat j = Int32.ofNat (6 * k + j) := (Int32.ofNat_add _ _).symm
  have e2 : (Int32.ofNat (6 * k + j)).toNatClampNeg = 6 * k + j := Int32.toNatClampNeg_ofNat_of_lt (by omega)
  have e3 : (Int32.ofNat (6 * k + j)).toInt = ((6 * k + j : Nat) : Int) := Int32.toInt_ofNat_of_lt (by omega)
  rw [e1]
  refine va_sld hx hb hX hbl (Nat.not_le.mpr hbl) hS.2.2 ?_ d4 ?_
  · rintro (q | q)
    · rw [Int32.lt_iff_toInt_lt, e3] at q
      have q : ((6 * k + j : Nat) : Int) < 0 := q
      omega
    · rw [e2] at q
      omega
  · rw [e2]
    rw [Int32.ofInt_toInt] at kk
    exact kk
/-- a call -/
theorem lw_one {pc i q : Nat} {v : mm_V} {A0 : List mm_V} {rest : List Value} {r : Int} {h1 : mm_H} (X : lw_X p l s m meth c b L xs g D cy sa sb out) (hS : lw_S s g D cy out H locs h f) (hls : ls.size = 7) (hc : cells ≤ 601024) (hs : slots ≤ 7293034) (hq : q < 286) (hsq : mm_sq q = 0) (hrt : mm_rt q = 0) (hlink : Cond.methodLink R_law i (mm_y q) ∈ mm_TW) (hvt : v.1 = mm_xt (mm_xq q)) (hna : A0.length = mm_na q) (hv : ∀ x ∈ v :: A0, mm_vok x) (hrun : mm_M mm_prog (0 + 100) q (v :: A0) h = some (r, h1)) (hroom : (rest.map fun v => v.category).sum ≤ 8) (hd : decode code pc = .ok (.invokevirtual i, 3))
    (kk : ∀ (H1 : Heap) (locs1 : List Loc), lw_S s g D cy out H1 locs1 h1 f → W p l e room_1 s m #[Value.ref b] below meth c H1 locs1 cells slots Q (F0 m (pc + 3) ls (.int (Int32.ofInt r) :: rest))) : W p l e room_1 s m #[Value.ref b] below meth c H locs cells slots Q (F0 m pc ls ((A0.map (mm_val g)).reverse ++ Value.ref (g 0 v.2.toNat) :: rest)) := by
  obtain ⟨⟨hx, hb, hr, hml, hown, hts0, hX, hbl, hlk, hgv⟩, hst, hg, hK, hZ, hN, hXN, hgA, hoA, hno⟩ := X
  obtain ⟨hR, hP, hSS⟩ := hS
  have hts : ∀ w ∈ mm_TW, w.before #[Value.ref b] s = true := fun w hw => hts0 w (List.mem_filter.mp hw).1
  refine mm_cv (own := R_law) (i := i) (pc := pc) (q := q) (d := 99) (v := v) (A0 := A0) (rest := rest) (A := fun q => s.heap.size ≤ q) hx hb hml hown hts hg hK hN (mm_str_ok l) hq hsq hlink hvt hna hv hrun hls hroom ⟨Nat.le_of_ble_eq_true rfl, Nat.le_of_ble_eq_true rfl⟩ hc hs hd ((hZ.kept hSS.2.1).narrow hgA) hR (lp_P1 hP) hSS hgA (fun H1 locs1 Z1 R1 P1 S1 z1 k1 => ?_)
  have P2 : va_P D vwCl (lp_ws g cy h1 out f) H1 := P1.app (lp_keep (lp_P2 hP) (k1 out (lp_out (lp_P2 hP)) hno))
  have kk1 := kk H1 locs1 ⟨R1, P2, S1⟩
  rw [hrt]
  exact kk1
end LW
/-- the place behind a case -/
def lw_B (p : Program) (l : Launch) (e : Env) (s : State) (m : MethodId) (below : List Frame) (meth : Method) (c : Code) (b : Nat) (g : Nat → Nat → Nat) (D : va_G) (cy : Nat → ClassId) (out k cells slots : Nat) (Q : State → Prop) : Prop := ∀ (H : Heap) (locs : List Loc) (h : mm_H) (f : Nat → Int64) (ls : Array Slot), lw_S s g D cy out H locs h f → Inv h → lw_L b g out k ls → W p l e room_1 s m #[Value.ref b] below meth c H locs (cells + 1) (slots + 6) Q (F0 m 1276 ls [])
/-- a case of the switch, at pc -/
def lw_Go (pc : Nat) : Prop := ∀ {p : Program} {l : Launch} {e : Env} {s : State} {m : MethodId} {below : List Frame} {meth : Method} {c : Code} {b L : Nat} {xs : Nat → Int32} {g : Nat → Nat → Nat} {D : va_G} {cy : Nat → ClassId} {sa sb out k : Nat} {H : Heap} {locs : List Loc} {h : mm_H} {f : Nat → Int64} {ls : Array Slot} {cells slots : Nat} {Q : State → Prop}, lw_X p l s m meth c b L xs g D cy sa sb out → L ≤ 3072 → 6 * k + 6 ≤ L → lw_L b g out k ls → cells + 1 ≤ 601024 → slots + 6 ≤ 7293034 → lw_B p l e s m below meth c b g D cy out k cells slots Q → lw_S s g D cy out H locs h f → Inv h → W p l e room_1 s m #[Value.ref b] below meth c H locs cells slots Q (F0 m pc ls [])
