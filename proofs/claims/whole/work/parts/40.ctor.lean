/-! Constructors: what they make, by the kit's rows -/
def nw (n : Nat) (r : Nat → Nat) (f : Nat → va_E) : va_W := (List.range n).map fun o => (r o, f o)
def mk_rm (f n S : Nat) : Room := { frames := f, cells := n, slots := S, locals := 40 * f + 40 }
def mk_w (y : MethodName) (b : ByteArray) (n : Nat) : List Cond := .code y b n none :: mm_TW
def mk_ao (U : State) : Prop := ∀ ty ∈ ([.object "HiccupTown$Word", .object "HiccupTown$Moment", .object "HiccupTown$Scene", .array .int] : List FieldType), (Cond.arrayOver ty).before #[] U = true
theorem mk_ao.moved {u U : State} (hvm : u.vm.Alike U.vm) (h : mk_ao u) : mk_ao U := by
  intro ty hty
  have e := Cond.arrayOver_setVmC (args := #[]) (s := u) hvm ty
  rw [h ty hty] at e
  exact e
def mk_U (D : va_G) (cy : Nat → ClassId) (g : Nat → Nat → Nat) (z0 a sz : Nat) (b : va_E) (U : State) : Prop := U.heap.size = sz ∧ va_P D vwCl [(a, b)] U.heap ∧ va_K D vwCl (mm_tys cy) U ∧ mm_Z g (fun q => z0 ≤ q) U U.heap ∧ mm_nw g U ∧ mk_ao U ∧ z0 ≤ a ∧ z0 ≤ sz
def mk_Q (D : va_G) (n : Nat) (ce : (Nat → Nat) → Nat → va_E) (a : Nat) (A : Nat → Prop) : Array Value → State → Outcome → State → Prop := va_Qv (fun r : Nat → Nat => r 0 = a) (fun r t => va_P D vwCl (nw n r (ce r)) t.heap ∧ va_D A (nw n r (ce r))) A
theorem mk_FB {D : va_G} {cy : Nat → ClassId} {g : Nat → Nat → Nat} {z0 a sz : Nat} {b : va_E} {as : List Value} : FrameBlind (va_Pc as (mk_U D cy g z0 a sz b)) := by
  intro v U f mk hq
  obtain ⟨q0, q1, qP, qK, qZ, qN, qO, q2⟩ := hq
  exact ⟨q0, q1, qP, va_K.moved (u := U) (U := U.calling f mk v) (Vm.Alike.refl U.vm) qK, mm_Z.moved (u := U) (U := U.calling f mk v) (Vm.Alike.refl U.vm) qZ, mm_nw.same (u := U) (U := U.calling f mk v) rfl qN, mk_ao.moved (u := U) (U := U.calling f mk v) (Vm.Alike.refl U.vm) qO, q2⟩
theorem mk_D1 {a sz : Nat} {b : va_E} : va_D (va_A [(a, b)] sz) [(a, b)] := by
  refine ⟨fun i j p q hp hq _ => ?_, fun k q hk => Or.inl ⟨k, q.2, hk⟩⟩
  have h1 : i < 1 := (List.getElem?_eq_some_iff.mp hp).1
  have h2 : j < 1 := (List.getElem?_eq_some_iff.mp hq).1
  omega
theorem mk_A1 {a sz x : Nat} {b : va_E} : va_A [(a, b)] sz x ↔ x = a ∨ sz ≤ x := by
  unfold va_A
  constructor
  · rintro (⟨k, e, h⟩ | h)
    · have h1 : k < 1 := (List.getElem?_eq_some_iff.mp h).1
      have h2 : k = 0 := by omega
      subst h2
      cases h
      exact Or.inl rfl
    · exact Or.inr h
  · rintro (h | h)
    · subst h
      exact Or.inl ⟨0, b, rfl⟩
    · exact Or.inr h
theorem mk_join {A0 : Nat → Prop} {D : va_G} {cl : List vw_C} {ws w1 : va_W} {q : Nat} {b : va_E} {H H1 : Heap} (hP : va_P D cl (ws ++ [(q, b)]) H) (hD : va_D A0 (ws ++ [(q, b)])) (hk : ∀ x : Nat, x < H.size → ¬ va_A [(q, b)] H.size x → H1[x]? = H[x]?) (hF : ∀ x, va_A [(q, b)] H.size x → A0 x) (hP1 : va_P D cl w1 H1) (hD1 : va_D (va_A [(q, b)] H.size) w1) : va_P D cl (ws ++ w1) H1 ∧ va_D A0 (ws ++ w1) := by
  have key : ∀ (k : Nat) (x : Nat × va_E), ws[k]? = some x → (ws ++ [(q, b)])[k]? = some x ∧ x.1 < H.size ∧ x.1 ≠ q := by
    intro k x hx
    have hlt : k < ws.length := (List.getElem?_eq_some_iff.mp hx).1
    have h1 : (ws ++ [(q, b)])[k]? = some x := by rw [List.getElem?_append_left hlt]; exact hx
    refine ⟨h1, (hP k x h1).lt, fun e => ?_⟩
    have h2 : (ws ++ [(q, b)])[ws.length]? = some (q, b) := by simp
    have := hD.1 k ws.length x (q, b) h1 h2 e
    omega
  have no : ∀ (k : Nat) (x : Nat × va_E), ws[k]? = some x → ¬ va_A [(q, b)] H.size x.1 := by
    intro k x hx h
    obtain ⟨-, h2, h3⟩ := key k x hx
    rcases mk_A1.mp h with h | h
    · exact h3 h
    · omega
  have hPw : va_P D cl ws H1 := fun k x hx => (hP k x (key k x hx).1).kept (hk _ (key k x hx).2.1 (no k x hx))
  have hDw : va_D A0 ws := ⟨fun i j p r hp hr e => hD.1 i j p r (key i p hp).1 (key j r hr).1 e, fun k x hx => hD.2 k x (key k x hx).1⟩
  refine ⟨hPw.app hP1, hDw.app (hD1.weaken fun _ _ _ h => hF _ h) fun i j p r hp hr e => ?_⟩
  have h1 := hD1.2 j r hr
  rw [← e] at h1
  exact no i p hp h1
theorem mk_cA {D : va_G} {cy : Nat → ClassId} {s : State} {cA : ClassId} {c : Nat} (hc : c < 5) (h2 : c ≠ 2) (h1 : va_K D vwCl (mm_tys cy) s) (h : va_K D vwCl (mm_tys cy ++ [(cA, mm_ty c)]) s) : cA = cy c := by
  have a := (h1.2 c _ (mm_tys_get (by omega))).2
  have b := (h.2 8 (cA, mm_ty c) (by simp [mm_tys])).2
  match c, hc with
  | 0, _ => exact Option.some.inj (b.symm.trans a)
  | 1, _ => exact Option.some.inj (b.symm.trans a)
  | 2, _ => exact absurd rfl h2
  | 3, _ => exact Option.some.inj (b.symm.trans a)
  | 4, _ => exact Option.some.inj (b.symm.trans a)
theorem mk_cAo {D : va_G} {cy : Nat → ClassId} {s : State} {cA : ClassId} {c : Nat} {C : String} (hc : c < 8) (hC : mm_ty c = .object C) (h1 : va_K D vwCl (mm_tys cy) s) (h : va_K D vwCl (mm_tys cy ++ [(cA, .object C)]) s) : cA = cy c := by
  have a := (h1.2 c _ (mm_tys_get hc)).2
  have b := (h.2 8 (cA, .object C) (by simp [mm_tys])).2
  rw [hC] at a
  obtain ⟨kA, comp, -, -, -, h4⟩ := a
  obtain ⟨kA', comp', -, -, -, h4'⟩ := b
  exact Option.some.inj (h4'.symm.trans h4)
section MK
variable {p : Program} {l : Launch} {e : Env} {R : Room} {s : State} {m : MethodId} {args : Array Value} {below : List Frame} {meth : Method} {c : Code} {H : Heap} {locs : List Loc} {cells slots : Nat} {Q : State → Prop} {cc : ByteArray} {pc nL : Nat} {L : Array Slot} {rest : List Value} {D : va_G} {cy : Nat → ClassId} {g : Nat → Nat → Nat} {z0 : Nat} {A : Nat → Prop} {ws : va_W} {H0 : Heap}
theorem mk_ai (hx : p.tables.exec = Jvm.exec) (hb : c.code = cc) (hts : ∀ w ∈ mm_TW, w.before args s = true) (hK : va_K D vwCl (mm_tys cy) s) (hP : va_P D vwCl ws H) (hD : va_D A ws) (hS : va_S A H0 H locs) (hA : ∀ q, H0.size ≤ q → A q) {n : Int32} (N : Nat) (hn : ¬ n < 0) (hN : n.toNatClampNeg = N) (hNb : N ≤ 1000) (hcells : cells + 1 ≤ R.cells) (hslots : slots + N ≤ R.slots) (hdg : decode cc pc = .ok (.newarray .int, 2))
    (kk : ∀ (q : Nat) (H1 : Heap), va_P D vwCl (ws ++ [(q, .inl (cy 0, N, .inl fun _ => 0))]) H1 → va_D A (ws ++ [(q, .inl (cy 0, N, .inl fun _ => 0))]) → va_S A H0 H1 locs → W p l e R s m args below meth c H1 locs (cells + 1) (slots + N) Q (F0 m (pc + 2) L (.ref q :: rest))) : W p l e R s m args below meth c H locs cells slots Q (F0 m pc L (.int n :: rest)) := by
  refine va_newa (atype := .int) (ty := .int) (a0 := (N, .inl fun _ => 0)) hx hb (hts _ (mm_tw1 158 rfl rfl)) rfl hK hP hD hS hA (fun _ => rfl) hn hN (by show N * 4 ≤ _; omega) hcells hslots hdg (fun q cA H1 hK1 hP1 hD1 hS1 => ?_)
  have ec := mk_cA (c := 0) (by decide) (by decide) hK hK1
  subst ec
  exact kk q H1 hP1 hD1 hS1
theorem mk_al (hx : p.tables.exec = Jvm.exec) (hb : c.code = cc) (hts : ∀ w ∈ mm_TW, w.before args s = true) (hK : va_K D vwCl (mm_tys cy) s) (hP : va_P D vwCl ws H) (hD : va_D A ws) (hS : va_S A H0 H locs) (hA : ∀ q, H0.size ≤ q → A q) {n : Int32} (N : Nat) (hn : ¬ n < 0) (hN : n.toNatClampNeg = N) (hNb : N ≤ 1000) (hcells : cells + 1 ≤ R.cells) (hslots : slots + N ≤ R.slots) (hdg : decode cc pc = .ok (.newarray .long, 2))
    (kk : ∀ (q : Nat) (H1 : Heap), va_P D vwCl (ws ++ [(q, .inl (cy 1, N, .inr (.inl fun _ => 0)))]) H1 → va_D A (ws ++ [(q, .inl (cy 1, N, .inr (.inl fun _ => 0)))]) → va_S A H0 H1 locs → W p l e R s m args below meth c H1 locs (cells + 1) (slots + N) Q (F0 m (pc + 2) L (.ref q :: rest))) : W p l e R s m args below meth c H locs cells slots Q (F0 m pc L (.int n :: rest)) := by
  refine va_newa (atype := .long) (ty := .long) (a0 := (N, .inr (.inl fun _ => 0))) hx hb (hts _ (mm_tw1 159 rfl rfl)) rfl hK hP hD hS hA (fun _ => rfl) hn hN (by show N * 8 ≤ _; omega) hcells hslots hdg (fun q cA H1 hK1 hP1 hD1 hS1 => ?_)
  have ec := mk_cA (c := 1) (by decide) (by decide) hK hK1
  subst ec
  exact kk q H1 hP1 hD1 hS1
theorem mk_ab (hx : p.tables.exec = Jvm.exec) (hb : c.code = cc) (hts : ∀ w ∈ mm_TW, w.before args s = true) (hK : va_K D vwCl (mm_tys cy) s) (hP : va_P D vwCl ws H) (hD : va_D A ws) (hS : va_S A H0 H locs) (hA : ∀ q, H0.size ≤ q → A q) {n : Int32} (N : Nat) (hn : ¬ n < 0) (hN : n.toNatClampNeg = N) (hNb : N ≤ 1000) (hcells : cells + 1 ≤ R.cells) (hslots : slots + N ≤ R.slots) (hdg : decode cc pc = .ok (.newarray .byte, 2))
    (kk : ∀ (q : Nat) (H1 : Heap), va_P D vwCl (ws ++ [(q, .inl (cy 3, N, .inl fun _ => 0))]) H1 → va_D A (ws ++ [(q, .inl (cy 3, N, .inl fun _ => 0))]) → va_S A H0 H1 locs → W p l e R s m args below meth c H1 locs (cells + 1) (slots + N) Q (F0 m (pc + 2) L (.ref q :: rest))) : W p l e R s m args below meth c H locs cells slots Q (F0 m pc L (.int n :: rest)) := by
  refine va_newa (atype := .byte) (ty := .byte) (a0 := (N, .inl fun _ => 0)) hx hb (hts _ (mm_tw1 82 rfl rfl)) rfl hK hP hD hS hA (fun _ => rfl) hn hN (by show N * 1 ≤ _; omega) hcells hslots hdg (fun q cA H1 hK1 hP1 hD1 hS1 => ?_)
  have ec := mk_cA (c := 3) (by decide) (by decide) hK hK1
  subst ec
  exact kk q H1 hP1 hD1 hS1
theorem mk_az (hx : p.tables.exec = Jvm.exec) (hb : c.code = cc) (hts : ∀ w ∈ mm_TW, w.before args s = true) (hK : va_K D vwCl (mm_tys cy) s) (hP : va_P D vwCl ws H) (hD : va_D A ws) (hS : va_S A H0 H locs) (hA : ∀ q, H0.size ≤ q → A q) {n : Int32} (N : Nat) (hn : ¬ n < 0) (hN : n.toNatClampNeg = N) (hNb : N ≤ 1000) (hcells : cells + 1 ≤ R.cells) (hslots : slots + N ≤ R.slots) (hdg : decode cc pc = .ok (.newarray .boolean, 2))
    (kk : ∀ (q : Nat) (H1 : Heap), va_P D vwCl (ws ++ [(q, .inl (cy 4, N, .inl fun _ => 0))]) H1 → va_D A (ws ++ [(q, .inl (cy 4, N, .inl fun _ => 0))]) → va_S A H0 H1 locs → W p l e R s m args below meth c H1 locs (cells + 1) (slots + N) Q (F0 m (pc + 2) L (.ref q :: rest))) : W p l e R s m args below meth c H locs cells slots Q (F0 m pc L (.int n :: rest)) := by
  refine va_newa (atype := .boolean) (ty := .boolean) (a0 := (N, .inl fun _ => 0)) hx hb (hts _ (mm_tw2 70 rfl rfl)) rfl hK hP hD hS hA (fun _ => rfl) hn hN (by show N * 1 ≤ _; omega) hcells hslots hdg (fun q cA H1 hK1 hP1 hD1 hS1 => ?_)
  have ec := mk_cA (c := 4) (by decide) (by decide) hK hK1
  subst ec
  exact kk q H1 hP1 hD1 hS1
theorem mk_mna (hx : p.tables.exec = Jvm.exec) (hb : c.code = cc) {own : String} {idx : Nat} (hown : s.vm.findClass own = some m.cls) (hclink : (Cond.classLink own idx "[[I").before args s = true) (hO : mk_ao s) (hts : ∀ w ∈ mm_TW, w.before args s = true) (hK : va_K D vwCl (mm_tys cy) s) (hP : va_P D vwCl ws H) (hD : va_D A ws) (hS : va_S A H0 H locs) (hA : ∀ q, H0.size ≤ q → A q) (hcells : cells + 7 ≤ R.cells) (hslots : slots + 372 ≤ R.slots) (hdg : decode cc pc = .ok (.multianewarray idx 2, 4))
    (kk : ∀ (q : Nat) (rr : Nat → Nat) (H1 : Heap), va_P D vwCl (ws ++ [(q, .inl (cy 7, 6, .inr (.inr (.inr (.inr fun i => [some (rr 0), some (rr 1), some (rr 2), some (rr 3), some (rr 4), some (rr 5)].getD i none)))))] ++ [(rr 0, .inl (cy 0, 61, .inl fun _ => 0)), (rr 1, .inl (cy 0, 61, .inl fun _ => 0)), (rr 2, .inl (cy 0, 61, .inl fun _ => 0)), (rr 3, .inl (cy 0, 61, .inl fun _ => 0)), (rr 4, .inl (cy 0, 61, .inl fun _ => 0)), (rr 5, .inl (cy 0, 61, .inl fun _ => 0))]) H1 → va_D A (ws ++ [(q, .inl (cy 7, 6, .inr (.inr (.inr (.inr fun i => [some (rr 0), some (rr 1), some (rr 2), some (rr 3), some (rr 4), some (rr 5)].getD i none)))))] ++ [(rr 0, .inl (cy 0, 61, .inl fun _ => 0)), (rr 1, .inl (cy 0, 61, .inl fun _ => 0)), (rr 2, .inl (cy 0, 61, .inl fun _ => 0)), (rr 3, .inl (cy 0, 61, .inl fun _ => 0)), (rr 4, .inl (cy 0, 61, .inl fun _ => 0)), (rr 5, .inl (cy 0, 61, .inl fun _ => 0))]) → va_S A H0 H1 locs → W p l e R s m args below meth c H1 locs (cells + 7) (slots + 372) Q (F0 m (pc + 4) L (.ref q :: rest))) : W p l e R s m args below meth c H locs cells slots Q (F0 m pc L (.int 61 :: .int 6 :: rest)) := by
  have hnil : ∀ f : Nat → va_E, ws ++ va_pl [] f = ws := fun f => List.append_nil ws
  have a0 : s.vm.findClass "[I" = some (cy 0) := (hK.2 0 _ (mm_tys_get (by decide))).2
  have a7 := (hK.2 7 _ (mm_tys_get (by decide))).2
  refine va_mna (X := ws) (L := []) (f := fun _ => .inr (0, [])) (ty := .int) (cy := cy 0) (n := 6) (k := 61) (N' := 6) (K' := 61) (z := (61, .inl fun _ => 0)) hx hb hown hclink (hO (.array .int) (by simp)) (hts _ (mm_tw1 158 rfl rfl)) a0 hK (by rw [hnil]; exact hP) (by rw [hnil]; exact hD) hS hA (by decide) (by decide) (by decide) (by decide) (by decide) (by decide) (by decide) rfl rfl (by omega) (by omega) ?_ hdg (fun q r cA H1 hinj hnl hK1 hP1 hD1 hS1 => ?_)
  · intro c0
    exact arrV_new c0 61 (.int 0)
  · have b7 := (hK1.2 8 (cA, .array .int) (by simp [mm_tys])).2
    have ec : cA = cy 7 := Option.some.inj (b7.symm.trans a7)
    subst ec
    have epl : va_pl ([] ++ (List.range 6).map r) (vr_up (fun _ => .inr (0, [])) ((List.range 6).map r) (.inl (cy 0, 61, .inl fun _ => 0))) = [(r 0, .inl (cy 0, 61, .inl fun _ => 0)), (r 1, .inl (cy 0, 61, .inl fun _ => 0)), (r 2, .inl (cy 0, 61, .inl fun _ => 0)), (r 3, .inl (cy 0, 61, .inl fun _ => 0)), (r 4, .inl (cy 0, 61, .inl fun _ => 0)), (r 5, .inl (cy 0, 61, .inl fun _ => 0))] := by
      have : va_pl ([] ++ (List.range 6).map r) (vr_up (fun _ => .inr (0, [])) ((List.range 6).map r) (.inl (cy 0, 61, .inl fun _ => 0))) = ((List.range 6).map r).map (fun a => (a, (.inl (cy 0, 61, .inl fun _ => 0) : va_E))) := by
        unfold va_pl
        rw [List.nil_append]
        apply List.map_congr_left
        intro a ha
        rw [vr_up_in ha]
      rw [this]
      rfl
    have ef : (fun i => if i < 6 then some (r i) else none) = (fun i => [some (r 0), some (r 1), some (r 2), some (r 3), some (r 4), some (r 5)].getD i none) := by
      funext i
      match i with
      | 0 => rfl
      | 1 => rfl
      | 2 => rfl
      | 3 => rfl
      | 4 => rfl
      | 5 => rfl
      | n + 6 => rw [if_neg (by omega)]; rfl
    rw [epl, ef] at hP1 hD1
    exact kk q r H1 hP1 hD1 hS1
/-- new C(): the cell, then what its constructor makes -/
theorem mk_obj (hx : p.tables.exec = Jvm.exec) (hb : c.code = cc) (hml : c.maxLocals = nL) {own : String} (hown : s.vm.findClass own = some m.cls) (hts : ∀ w ∈ mm_TW, w.before args s = true) (hK : va_K D vwCl (mm_tys cy) s) (hZ : mm_Z g (fun q => z0 ≤ q) s s.heap) (hN : mm_nw g s) (hO : mk_ao s) (hP : va_P D vwCl ws H) (hD : va_D A ws) (hS : va_S A s.heap H locs) (hA : ∀ q, s.heap.size ≤ q → A q) (hAz : ∀ q, A q → z0 ≤ q) (hLs : L.size = nL)
    (t : Nat) (h10 : 10 ≤ t) (h22 : t < 22) {r0 : vw_C} (hr0 : vwCl[t - 10]? = some r0) {iN iI : Nat} {y : MethodName} {bytes : ByteArray} {host : String} {n f S nM : Nat} {ce : (Nat → Nat) → Nat → va_E} {fs : List Value} (ty : Nat → FieldType) (hty : ∀ k, k < r0.2.2 → parseFieldDescriptor (r0.2.1 k).2.2.1 = some (ty k)) (hfs : ∀ j, j < r0.2.2 → defaultValue (ty j) = vp_V fs j)
    (hcl : Cond.classLink own iN r0.1 ∈ mm_TW) (hinst : Cond.instantiable r0.1 r0.2.2 ∈ mm_TW) (hini : Cond.initialized r0.1 ∈ mm_TW)
    (hM : ∀ a sz : Nat, Met l y (mk_w y bytes nM) (mk_rm f n S) (va_Pc [.ref a] (mk_U D cy g z0 a sz (.inr (t - 10, fs)))) (mk_Q D (n + 1) ce a (va_A [(a, .inr (t - 10, fs))] sz)) n S (va_A [(a, .inr (t - 10, fs))] sz))
    (hcode : Cond.code y bytes nM none ∈ mm_TW) (hyc : y.cls = r0.1) (hyn : y.name = "<init>") (hinm : Cond.instanceMethod y ∈ mm_TW) (hlink : Cond.methodLink own iI y ∈ mm_TW ∨ Cond.methodLinkNest own iI y host ∈ mm_NW) (hp0 : y.cls ≠ "java/lang/invoke/MethodHandle" ∧ y.cls ≠ "java/lang/invoke/VarHandle" ∧ (parseMethodDescriptor y.desc).map (fun d => d.parameters.length) = some 0)
    (hR : f + 1 ≤ R.frames ∧ 8 + (nM + 11) + (40 * f + 40) ≤ R.locals) (hc1 : cells + 1 + n ≤ R.cells) (hs1 : slots + r0.2.2 + S ≤ R.slots) (hrest : (rest.map fun v => v.category).sum ≤ 7)
    (hd1 : decode cc pc = .ok (.new iN, 3)) (hd2 : decode cc (pc + 3) = .ok (.dup, 1)) (hd3 : decode cc (pc + 4) = .ok (.invokespecial iI, 3))
    (kk : ∀ (r : Nat → Nat) (H1 : Heap) (locs1 : List Loc), va_P D vwCl (ws ++ nw (n + 1) r (ce r)) H1 → va_D A (ws ++ nw (n + 1) r (ce r)) → va_S A s.heap H1 locs1 → W p l e R s m args below meth c H1 locs1 (cells + 1 + n) (slots + r0.2.2 + S) Q (F0 m (pc + 7) L (.ref (r 0) :: rest))) : W p l e R s m args below meth c H locs cells slots Q (F0 m pc L rest) := by
  obtain ⟨r1, ty1, cl0, cl1, cl2, -⟩ := mm_cl_ok h10 h22
  have er : r1 = r0 := Option.some.inj (cl0.symm.trans hr0)
  subst er
  refine va_new (ci := t - 10) (fs := fs) (C := r1.1) (T := r1.2.1) (N := r1.2.2) hx hb hts cl2 ty hty hown (hts _ hcl) (hts _ hinst) (hts _ hini) hK hP hD hS hA hr0 hfs (by omega) (by omega) hd1 (fun q H1 hP1 hD1 hS1 => ?_)
  refine lv_dup hx hb hd2 rfl ?_
  have hlast : (ws ++ [(q, (.inr (t - 10, fs) : va_E))])[ws.length]? = some (q, .inr (t - 10, fs)) := by simp
  have hPc : va_P D vwCl [(q, (.inr (t - 10, fs) : va_E))] H1 := by
    intro k x hk
    have h1 : k < 1 := (List.getElem?_eq_some_iff.mp hk).1
    have h2 : k = 0 := by omega
    subst h2
    cases hk
    exact hP1 _ _ hlast
  have hqA : A q := hD1.2 _ _ hlast
  have hF : ∀ x, va_A [(q, (.inr (t - 10, fs) : va_E))] H1.size x → A x := by
    intro x hx
    rcases mk_A1.mp hx with h | h
    · rw [h]; exact hqA
    · exact hA _ (Nat.le_trans hS1.1 h)
  have hG : GoodIn mm_TW (mk_w y bytes nM) := by
    intro w hw
    have hm : w ∈ mm_TW := by
      rcases List.mem_cons.mp hw with e | h
      · rw [e]
        exact hcode
      · exact h
    exact ⟨hm, good_of_word (List.mem_filter.mp hm).2⟩
  have hpre : PreS s H1 (va_Pc [.ref q] (mk_U D cy g z0 q H1.size (.inr (t - 10, fs)))) (.ref q :: []) := by
    refine ⟨mk_FB, fun U hU hW => ⟨rfl, by rw [hU], by rw [hU]; exact hPc, va_K.moved hW.alike hK, ?_, mm_nw.warm hW hN, hO.moved hW.alike, hAz q hqA, ?_⟩⟩
    · rw [hU]
      exact (hZ.moved hW.alike).kept (fun a h1 h2 => hS1.2.1 a h1 (fun z => h2 (hAz a z)))
    · exact hAz _ (hA _ hS1.1)
  have run : va_Run p l e R s m args below meth c H1 locs (cells + 1) (slots + r1.2.2) n S (F0 m (pc + 4) L (.ref q :: .ref q :: rest)) (.ref q :: rest) (mk_Q D (n + 1) ce q (va_A [(q, .inr (t - 10, fs))] H1.size) (Value.ref q :: []).toArray) (va_A [(q, .inr (t - 10, fs))] H1.size) := by
    have hroom : ((Value.ref q :: rest).map fun v => v.category).sum ≤ 8 := by
      show 1 + (rest.map fun v => v.category).sum ≤ 8
      omega
    rcases hlink with hl | hl
    · have cw := callB_of (R := R) (own := own) (index := iI) 0 hts hG rfl (rm := mk_rm f n S) rfl rfl (by rw [hyc]; exact hts _ hini) (hts _ hl) hp0 hR
      exact va_runI (As := []) (rest := .ref q :: rest) ⟨hx, hb, hml, hown, hts⟩ (hM q H1.size) ⟨cw, hyn, hts _ hinm⟩ hpre rfl rfl hLs rfl (lv_room hroom) hd3 ⟨hc1, hs1⟩
    · have cw := va_cnB (R := R) (own := own) (index := iI) (host := host) 0 hts hG rfl (rm := mk_rm f n S) rfl rfl (hN.1 _ hl) (by rw [hyc]; exact hts _ hini) hp0 hR
      exact va_runIN (As := []) (rest := .ref q :: rest) ⟨hx, hb, hml, hown, hts⟩ (hM q H1.size) ⟨cw, hyn, hts _ hinm⟩ hpre rfl rfl hLs rfl (lv_room hroom) hd3 ⟨hc1, hs1⟩
  refine va_callv run hS1 (fun x _ h => hF x h) hF (fun r t1 H2 locs2 ht hvm hw hB hz1 hk1 hS2 => ?_)
  obtain ⟨hP2, hD2⟩ := hB
  rw [ht] at hP2
  obtain ⟨hP3, hD3⟩ := mk_join hP1 hD1 hk1 hF hP2 hD2
  have e9 : r 0 = q := hw
  have k := kk r H2 locs2 hP3 hD3 hS2
  rw [e9] at k
  exact k
end MK
