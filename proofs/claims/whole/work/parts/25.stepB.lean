/-! A step of the small machine is a step of the machine: fields, arrays, statics -/
theorem mm_clamp {i : Int} (h1 : 0 ≤ i) (h2 : i < 2147483648) : (Int32.ofInt i).toNatClampNeg = i.toNat := by
  have := mm_toI (x := i) ⟨by omega, h2⟩
  simp [Int32.toNatClampNeg, this]
theorem mm_vin {i : Int} {n : Nat} (h1 : 0 ≤ i) (h2 : i < n) (hn : n ≤ 1000) : vp_in (Int32.ofInt i) n := by
  rw [vp_in_iff, mm_toI ⟨by omega, by omega⟩]
  exact ⟨h1, h2⟩
theorem mm_ak_le (t : Nat) : (mm_ak t).2 ≤ 1000 ∧ ((mm_ak t).1 < 8 ∨ (mm_ak t).1 = 9) := by
  unfold mm_ak
  split
  · exact ⟨by decide, Or.inr rfl⟩
  · rw [List.getD_eq_getElem?_getD]
    cases e : mm_akl[t - 22]? with
    | none => exact ⟨by decide, Or.inr rfl⟩
    | some v =>
      have : ∀ v ∈ mm_akl, v.2 ≤ 1000 ∧ v.1 < 8 := by decide
      have := this v (List.mem_of_getElem? e)
      exact ⟨this.1, Or.inl this.2⟩
/-- the cell of an object that a value refers to -/
theorem mm_at_obj {g : Nat → Nat → Nat} {cy : Nat → ClassId} {h : mm_H} {v : mm_V} (hv : mm_vok v) (h1 : 10 ≤ v.1) (h2 : v.1 < 22) : (mm_ws g cy h)[v.2.toNat]? = some (g 0 v.2.toNat, .inr (v.1 - 10, (List.range (mm_fn v.1)).map fun k => mm_fv g h v.2.toNat k (mm_fcd v.1 k))) := by
  obtain ⟨a, b, c⟩ := mm_ref hv h1
  rw [mm_ws_get (by omega), mm_ce_obj c h2]
theorem mm_at_arr {g : Nat → Nat → Nat} {cy : Nat → ClassId} {h : mm_H} {v : mm_V} (hv : mm_vok v) (h2 : ¬ v.1 < 22) : (mm_ws g cy h)[v.2.toNat]? = some (g 0 v.2.toNat, .inl (cy (mm_ak v.1).1, (mm_ak v.1).2, mm_ar g h v.2.toNat (mm_ak v.1).1)) := by
  obtain ⟨a, b, c⟩ := mm_ref hv (by omega)
  rw [mm_ws_get (by omega), mm_ce_arr c h2]
theorem mm_val_ref {g : Nat → Nat → Nat} {v : mm_V} (h1 : 10 ≤ v.1) : mm_val g v = .ref (g 0 v.2.toNat) := by
  obtain ⟨t, x⟩ := v
  unfold mm_val
  split <;> simp_all
theorem mm_cast {v : mm_V} (hv : mm_vok v) (h1 : 10 ≤ v.1) : ((v.2.toNat : Nat) : Int) = v.2 := by
  have := mm_ref hv h1
  omega
/-- an array is written: the world behind it -/
theorem mm_ws_arr {g : Nat → Nat → Nat} {cy : Nat → ClassId} {h : mm_H} {v : mm_V} {i x : Int} (hv : mm_vok v) (h2 : ¬ v.1 < 22) {f : (Nat → Int32) ⊕ (Nat → Int64) ⊕ (Nat → UInt32) ⊕ (Nat → UInt64) ⊕ (Nat → Option Nat)} (hf : mm_ar g (mm_up h v.2 i x) v.2.toNat (mm_ak v.1).1 = f) :
    (mm_ws g cy h).set v.2.toNat (g 0 v.2.toNat, .inl (cy (mm_ak v.1).1, (mm_ak v.1).2, f)) = mm_ws g cy (mm_up h v.2 i x) := by
  obtain ⟨a, b, c⟩ := mm_ref hv (by omega)
  refine mm_ws_set (by omega) ?_ (fun o' ho => mm_ce_congr (fun k => mm_up_ne (by omega)))
  rw [mm_ce_arr c h2, hf]
theorem mm_idx {i : Int} {k : Nat} (h1 : 0 ≤ i) (h2 : i < 2147483648) : k = (Int32.ofInt i).toNatClampNeg ↔ (k : Int) = i := by
  rw [mm_clamp h1 h2]
  omega
theorem mm_fn_le : ∀ t, t < 22 → mm_fn t ≤ 47 := by decide
theorem mm_lay3 {v : mm_V} {t k t' dl : Nat} (vv : mm_vok v) (e1 : v.1 = t) (g1 : 10 ≤ t) (g2 : t < 22) (hk : k < mm_fn t) (hc : mm_fcd t k = (3, t', dl)) : 10 ≤ t' ∧ v.2.toNat + dl < 153 ∧ mm_kd (v.2.toNat + dl) = t' := by
  have rf := mm_ref vv (by rw [e1]; exact g1)
  have L := mm_lay v.2.toNat (by omega) k (by have := mm_fn_le t g2; omega) (by rw [rf.2.2, e1, hc]) (by rw [rf.2.2, e1]; exact g2)
  rw [rf.2.2, e1, hc] at L
  have w := (mm_kd_ok _ L.1).1
  rw [L.2] at w
  exact ⟨w, L.1, L.2⟩
theorem mm_pair {r : vw_C} : r = (r.1, r.2.1, r.2.2) := rfl
/-- a Word may lie in an array of Words -/
theorem mm_any {s : State} {args : Array Value} {H : Heap} {a : Nat} {cell : Cell} (hts : ∀ w ∈ mm_TW, w.before args s = true) (q1 : H[a]? = some cell) (q2 : cell.vm.isStatics = false) (q3 : s.vm.findClass "HiccupTown$Word" = some cell.cls) : va_Any "HiccupTown$Word" s H a := by
  refine ⟨cell, q1, q2, Vm.classAt_of_findClass q3, fun comp h => ?_⟩
  cases q3.symm.trans h
  unfold Vm.assignable
  rw [Vm.assignableAux.eq_def]
  simp only [beq_self_eq_true, Bool.true_or]
section MB
variable {p : Program} {l : Launch} {e : Env} {d : Nat} {s : State} {m : MethodId} {args : Array Value} {below : List Frame} {meth : Method} {c : Code} {g : Nat → Nat → Nat} {D : va_G} {cy : Nat → ClassId} {Q : State → Prop} {q pc len : Nat} {ls st : List mm_V} {h : mm_H} {aux : List Nat} {val : Int}
variable {s' : Nat × List mm_V × List mm_V × mm_H}
theorem mm_aald {R : Room} {H : Heap} {locs : List Loc} {cells slots : Nat} {cc : ByteArray} {L : Array Slot} {rest : List Value} {cl : List vw_C} {a : Nat} {tys : List (ClassId × FieldType)} {ws : va_W} (hexec : p.tables.exec = Jvm.exec) (hb : c.code = cc) (hK : va_K D cl tys s) (hP : va_P D cl ws H) (q0 t0 : Nat) {cA : ClassId} {ty : FieldType} (hty : ty.isReference = true) {n : Nat} {f : Nat → Option Nat} (ha : ws[q0]? = some (a, .inl (cA, n, .inr (.inr (.inr (.inr f)))))) (ht : tys[t0]? = some (cA, ty)) {i : Int32} (hin : vp_in i n) (hdg : decode cc pc = .ok (.aaload, 1))
    (kk : W p l e R s m args below meth c H locs cells slots Q (F0 m (pc + 1) L (va_rf (f i.toNatClampNeg) :: rest))) : W p l e R s m args below meth c H locs cells slots Q (F0 m pc L (.int i :: .ref a :: rest)) := by
  have hlt : i.toNatClampNeg < n := Nat.not_le.mp fun q => hin (Or.inr q)
  exact W.aald (v := va_rf (f i.toNatClampNeg)) (ty := ty) hexec hb (hP q0 _ ha) ((hK.2 t0 _ ht).1 n (fun j => va_rf (f j))) hty (fun q => by cases q) (by show ¬ (i < 0 ∨ (arrV _ _ _).slots.size ≤ _); rw [arrV_size]; exact hin) (by show (arrV _ _ _).slots[_]? = _; rw [arrV_read _ _ hlt]) rfl rfl hdg kk
theorem mm_sd_ldc (X : mm_cx p s m args meth c g D cy q) {i : Nat} (hd : decode (mm_b q) pc = .ok (.ldc i, len)) (hc : mm_chk (mm_xq q) q (pc, .ldc i, len, aux, val) = true) (h2 : mm_ck2 (pc, .ldc i, len, aux, val) = true) (hv : mm_vl ls st h) (hs : mm_st (pc, .ldc i, len, aux, val) ls st h = some (.inr (.inl s'))) (K : mm_G p l e d s m args below meth c g D cy Q s'.1 s'.2.1 s'.2.2.1 s'.2.2.2) : mm_G p l e d s m args below meth c g D cy Q pc ls st h := by
  simp only [mm_st, mm_F] at hs
  obtain ⟨hx, hb, hml, hrt, hlk, hown, hts, hK, hZ, hN, hg⟩ := X
  intro H locs L hP hS hL
  have e0 : len = 2 := by simpa [mm_ck2, mm_ln] using h2
  subst e0
  simp only [mm_chk, Bool.and_eq_true, Bool.or_eq_true, beq_iff_eq] at hc
  obtain ⟨e1, hm⟩ := hc
  cases hs
  rw [e1] at K
  exact lv_ldc hx hb hown (hts _ (mm_pk_ok _ (mm_elem hm)).1) hd (K H locs L hP hS hL)
theorem mm_sd_ldc_w (X : mm_cx p s m args meth c g D cy q) {i : Nat} (hd : decode (mm_b q) pc = .ok (.ldc_w i, len)) (hc : (e_ : aux.headD 0 = 0) → mm_pk.elem (mm_xq q, i, val) = true) (e1 : aux.headD 0 = 0) (h2 : mm_ck2 (pc, .ldc_w i, len, aux, val) = true) (hs : mm_st (pc, .ldc_w i, len, aux, val) ls st h = some (.inr (.inl s'))) (K : mm_G p l e d s m args below meth c g D cy Q s'.1 s'.2.1 s'.2.2.1 s'.2.2.2) : mm_G p l e d s m args below meth c g D cy Q pc ls st h := by
  simp only [mm_st, mm_F] at hs
  obtain ⟨hx, hb, hml, hrt, hlk, hown, hts, hK, hZ, hN, hg⟩ := X
  intro H locs L hP hS hL
  have e0 : len = 3 := by simpa [mm_ck2, mm_ln] using h2
  subst e0
  cases hs
  rw [e1] at K
  exact lv_ldcw hx hb hown (hts _ (mm_pk_ok _ (mm_elem (hc e1))).1) hd (K H locs L hP hS hL)
theorem mm_sd_ldc2_w (X : mm_cx p s m args meth c g D cy q) {i : Nat} (hd : decode (mm_b q) pc = .ok (.ldc2_w i, len)) (hc : mm_chk (mm_xq q) q (pc, .ldc2_w i, len, aux, val) = true) (h2 : mm_ck2 (pc, .ldc2_w i, len, aux, val) = true) (hv : mm_vl ls st h) (hs : mm_st (pc, .ldc2_w i, len, aux, val) ls st h = some (.inr (.inl s'))) (K : mm_G p l e d s m args below meth c g D cy Q s'.1 s'.2.1 s'.2.2.1 s'.2.2.2) : mm_G p l e d s m args below meth c g D cy Q pc ls st h := by
  simp only [mm_st, mm_F] at hs
  obtain ⟨hx, hb, hml, hrt, hlk, hown, hts, hK, hZ, hN, hg⟩ := X
  intro H locs L hP hS hL
  have e0 : len = 3 := by simpa [mm_ck2, mm_ln] using h2
  subst e0
  simp only [mm_chk] at hc
  cases hs
  exact lv_ldc2 hx hb hown (hts _ (mm_pl_ok _ (mm_elem hc)).1) hd (K H locs L hP hS hL)
theorem mm_sd_getstatic (X : mm_cx p s m args meth c g D cy q) {i : Nat} (hd : decode (mm_b q) pc = .ok (.getstatic i, len)) (hc : mm_chk (mm_xq q) q (pc, .getstatic i, len, aux, val) = true) (h2 : mm_ck2 (pc, .getstatic i, len, aux, val) = true) (hv : mm_vl ls st h) (hs : mm_st (pc, .getstatic i, len, aux, val) ls st h = some (.inr (.inl s'))) (K : mm_G p l e d s m args below meth c g D cy Q s'.1 s'.2.1 s'.2.2.1 s'.2.2.2) : mm_G p l e d s m args below meth c g D cy Q pc ls st h := by
  simp only [mm_st, mm_F] at hs
  obtain ⟨hx, hb, hml, hrt, hlk, hown, hts, hK, hZ, hN, hg⟩ := X
  intro H locs L hP hS hL
  have e0 : len = 3 := by simpa [mm_ck2, mm_ln] using h2
  subst e0
  simp only [mm_chk] at hc
  have hm := mm_elem hc
  have tg : ∀ z ∈ mm_pz, z.2.2.1 = 2 ∨ z.2.2.1 = 4 ∨ z.2.2.1 = 5 := by decide
  cases hs
  have k := K H locs L hP hS hL
  rcases tg _ hm with e1 | e1 | e1
  · simp only at e1
    obtain ⟨b0, w⟩ := (mm_pz_ok _ hm).1 e1
    simp only at b0 w
    have ev : mm_val g (aux.headD 9, val) = .ref (g 1 val.toNat) := by
      rw [e1]
      show va_rf (mm_wv g val) = _
      unfold mm_wv
      rw [if_pos b0]
      rfl
    simp only [List.map_cons, ev] at k
    exact va_gets hx hb (hZ.1 val.toNat (by omega)) hS hown (hts _ w) (fun _ w => w) hd k
  · simp only at e1
    have w := (mm_pz_ok _ hm).2.1 e1
    simp only [List.map_cons] at k
    rw [e1] at k
    exact va_gets hx hb hZ.2.1 hS hown (hts _ w) (fun _ w => w) hd k
  · simp only at e1
    obtain ⟨host, w⟩ := (mm_pz_ok _ hm).2.2 e1
    simp only [List.map_cons] at k
    rw [e1] at k
    exact va_getsN hx hb hZ.2.2.2.1 hS hown (va_Nw.use rfl (hN.1 _ w)) (fun _ w => w) hd k
theorem mm_sd_getfield (X : mm_cx p s m args meth c g D cy q) {i : Nat} (hd : decode (mm_b q) pc = .ok (.getfield i, len)) (hc : mm_chk (mm_xq q) q (pc, .getfield i, len, aux, val) = true) (h2 : mm_ck2 (pc, .getfield i, len, aux, val) = true) (hv : mm_vl ls st h) (hs : mm_st (pc, .getfield i, len, aux, val) ls st h = some (.inr (.inl s'))) (K : mm_G p l e d s m args below meth c g D cy Q s'.1 s'.2.1 s'.2.2.1 s'.2.2.2) : mm_G p l e d s m args below meth c g D cy Q pc ls st h := by
  simp only [mm_st, mm_F] at hs
  obtain ⟨hx, hb, hml, hrt, hlk, hown, hts, hK, hZ, hN, hg⟩ := X
  intro H locs L hP hS hL
  have e0 : len = 3 := by simpa [mm_ck2, mm_ln] using h2
  subst e0
  obtain ⟨v, r, rfl, n1, n9, ht⟩ := mm_an_some hs; clear hs; have hs := ht; clear ht
  obtain ⟨e1, hs⟩ := mm_bf_some hs
  have e1 : v.1 = aux.getD 0 9 := by simpa using e1
  simp only [mm_chk] at hc
  have vv := hv.pop.1
  by_cases h4 : aux.getD 2 9 = 4
  · rw [h4] at hc hs
    simp only [beq_self_eq_true, cond_true, Bool.and_eq_true, beq_iff_eq] at hc hs
    obtain ⟨hw, hs⟩ := mm_bf_some hs
    cases hs
    have hw : 0 ≤ v.2 ∧ v.2 < 36 := by simpa [mm_wr] using hw
    have w := (mm_pi_ok _ (mm_elem hc.2)).2.2.2.2.1 rfl
    have ev : mm_val g v = .ref (g 1 v.2.toNat) := by
      obtain ⟨t, x⟩ := v
      have : t = 2 := by rw [← hc.1]; exact e1
      subst this
      show va_rf (mm_wv g x) = _
      unfold mm_wv
      rw [if_pos hw]
      rfl
    have k := K H locs L hP hS hL
    simp only [List.map_cons, ev]
    have ek : mm_val g (1, mm_key v.2) = .long (Int64.ofInt (mm_key ((v.2.toNat : Nat) : Int))) := by
      rw [show ((v.2.toNat : Nat) : Int) = v.2 by omega]
      rfl
    simp only [List.map_cons, ek] at k
    exact va_getX hx hb hZ.2.2.2.2.2.1 (i := v.2.toNat) (by omega) hS hown (hts _ w) (fun _ w => w) hd k
  · have b4 : (aux.getD 2 9 == 4) = false := by simpa using h4
    rw [b4] at hc
    simp only [cond_false, Bool.and_eq_true] at hc
    obtain ⟨r0, hr0, g0, g1, g2, hlink⟩ := mm_pf_ok _ (mm_elem hc.1)
    obtain ⟨r1, ty1, cl0, cl1, cl2, -⟩ := mm_cl_ok (t := aux.getD 0 9) g1 g2
    simp only at g0 g1 g2 hr0 hlink
    have er : r1 = r0 := Option.some.inj (cl0.symm.trans hr0)
    subst er
    have hat := mm_at_obj (g := g) (cy := cy) (h := h) vv (by rw [e1]; exact g1) (by rw [e1]; exact g2)
    have ev := mm_val_ref (g := g) (v := v) (by rw [e1]; exact g1)
    have ec := mm_cast vv (by rw [e1]; exact g1)
    have goal : ∀ w : Value, mm_fv g h v.2.toNat (aux.getD 1 0) (mm_fcd v.1 (aux.getD 1 0)) = w → W p l e (mm_rm d) s m args below meth c H locs 0 0 Q (F0 m (pc + 3) L (w :: r.map (mm_val g))) → W p l e (mm_rm d) s m args below meth c H locs 0 0 Q (F0 m pc L ((v :: r).map (mm_val g))) := by
      intro w hw kw
      simp only [List.map_cons, ev]
      have hf : ((List.range (mm_fn v.1)).map fun k => mm_fv g h v.2.toNat k (mm_fcd v.1 k))[aux.getD 1 0]? = some w := by
        rw [List.getElem?_map, List.getElem?_range (by rw [e1, ← cl1]; exact g0)]
        exact congrArg some hw
      rcases hlink with hl | ⟨host, hl⟩
      · exact va_get hx hb hts cl2 hown hK hP v.2.toNat hat (by rw [e1]; exact hr0) (aux.getD 1 0) g0 (hts _ hl) (fun _ w => w) hf hd kw
      · exact va_getN hx hb hts cl2 hown hK hP v.2.toNat hat (by rw [e1]; exact hr0) (aux.getD 1 0) g0 (va_Nw.use rfl (hN.1 _ hl)) (fun _ w => w) hf hd kw
    split at hs
    · rename_i hcd
      rw [hcd] at hc
      simp only [Bool.or_eq_true, beq_iff_eq] at hc
      cases hs
      refine goal _ ?_ (K H locs L hP hS hL)
      unfold mm_fv
      rw [e1, ec]
      rcases hc.2 with w | w <;> (rw [w]; rfl)
    · rename_i hcd
      rw [hcd] at hc
      simp only [beq_iff_eq] at hc
      cases hs
      refine goal _ ?_ (K H locs L hP hS hL)
      unfold mm_fv
      rw [e1, ec, hc.2]
      rfl
    · rename_i hcd
      rw [hcd] at hc
      simp only [beq_iff_eq] at hc
      cases hs
      refine goal _ ?_ (K H locs L hP hS hL)
      unfold mm_fv
      rw [e1, ec, hc.2]
      rfl
    · rename_i hcd
      rw [hcd] at hc
      simp only [beq_iff_eq] at hc
      cases hs
      have L9 := (mm_lay3 vv e1 g1 g2 (by rw [← cl1]; exact g0) hc.2).1
      refine goal _ ?_ (K H locs L hP hS hL)
      rw [mm_val_ref (by exact L9)]
      unfold mm_fv
      rw [e1, hc.2]
      have := mm_ref vv (by rw [e1]; exact g1)
      show Value.ref (g 0 (v.2.toNat + aux.getD 4 0)) = _
      rw [show (v.2 + ((aux.getD 4 0 : Nat) : Int)).toNat = v.2.toNat + aux.getD 4 0 by omega]
    · exact absurd ‹aux.getD 2 9 = 4› h4
    · cases hs
theorem mm_sd_putfield (X : mm_cx p s m args meth c g D cy q) {i : Nat} (hd : decode (mm_b q) pc = .ok (.putfield i, len)) (hc : mm_chk (mm_xq q) q (pc, .putfield i, len, aux, val) = true) (h2 : mm_ck2 (pc, .putfield i, len, aux, val) = true) (hv : mm_vl ls st h) (hs : mm_st (pc, .putfield i, len, aux, val) ls st h = some (.inr (.inl s'))) (K : mm_G p l e d s m args below meth c g D cy Q s'.1 s'.2.1 s'.2.2.1 s'.2.2.2) : mm_G p l e d s m args below meth c g D cy Q pc ls st h := by
  simp only [mm_st, mm_F] at hs
  obtain ⟨hx, hb, hml, hrt, hlk, hown, hts, hK, hZ, hN, hg⟩ := X
  intro H locs L hP hS hL
  have e0 : len = 3 := by simpa [mm_ck2, mm_ln] using h2
  subst e0
  simp only [mm_chk, Bool.and_eq_true, beq_iff_eq] at hc
  obtain ⟨r0, hr0, g0, g1, g2, hlink⟩ := mm_pf_ok _ (mm_elem hc.1.1)
  obtain ⟨r1, ty1, cl0, cl1, cl2, cl3, cl4, cl5⟩ := mm_cl_ok (t := aux.getD 0 9) g1 g2
  simp only at g0 g1 g2 hr0 hlink
  have er : r1 = r0 := Option.some.inj (cl0.symm.trans hr0)
  subst er
  have hcc := hc.1.2
  have key : ∀ (v : mm_V) (x : Int) (w : Value) (r : List mm_V), mm_vok v → v.1 = aux.getD 0 9 → (r1.2.1 (aux.getD 1 0)).2.2.2 = false → narrow (ty1 (aux.getD 1 0)) w = w → fits (ty1 (aux.getD 1 0)) w = true → (∀ h' : mm_H, h' ((v.2.toNat : Nat) : Int) ((aux.getD 1 0 : Nat) : Int) = x → mm_fv g h' v.2.toNat (aux.getD 1 0) (mm_fcd v.1 (aux.getD 1 0)) = w) → mm_G p l e d s m args below meth c g D cy Q (pc + 3) ls r (mm_up h v.2 ((aux.getD 1 0 : Nat) : Int) x) → W p l e (mm_rm d) s m args below meth c H locs 0 0 Q (F0 m pc L (w :: mm_val g v :: r.map (mm_val g))) := by
    intro v x w r vv e1 hfin hn hfit hfv K
    have hat := mm_at_obj (g := g) (cy := cy) (h := h) vv (by rw [e1]; exact g1) (by rw [e1]; exact g2)
    have ec := mm_cast vv (by rw [e1]; exact g1)
    have rf := mm_ref vv (by rw [e1]; exact g1)
    rw [mm_val_ref (g := g) (v := v) (by rw [e1]; exact g1)]
    have hset : (mm_ws g cy h).set v.2.toNat (g 0 v.2.toNat, .inr (v.1 - 10, ((List.range (mm_fn v.1)).map fun k => mm_fv g h v.2.toNat k (mm_fcd v.1 k)).set (aux.getD 1 0) w)) = mm_ws g cy (mm_up h v.2 ((aux.getD 1 0 : Nat) : Int) x) := by
      refine mm_ws_set (by omega) ?_ (fun o' ho => mm_ce_congr (fun k => mm_up_ne (by omega)))
      have z := mm_ce_put (g := g) (cy := cy) (h := h) (o := v.2.toNat) (k := aux.getD 1 0) (x := x) (v := w) rf.2.2 (by rw [e1]; exact g2) hfv
      rw [ec] at z
      exact z
    have hl : aux.getD 1 0 < ((List.range (mm_fn v.1)).map fun k => mm_fv g h v.2.toNat k (mm_fcd v.1 k)).length := by
      rw [List.length_map, List.length_range, e1, ← cl1]
      exact g0
    rcases hlink with hl9 | ⟨host, hl9⟩
    · refine va_put hx hb hts cl2 ty1 cl3 cl4 hown hK hP (mm_D hg cy h) hS v.2.toNat hat (by rw [e1]; exact hr0) (aux.getD 1 0) g0 (hts _ hl9) (fun _ w => w) hfin (cl3 _ g0) hn hfit hl hd (fun H1 locs1 hP1 _ hS1 => ?_)
      rw [hset] at hP1
      exact K H1 locs1 L hP1 hS1 hL
    · refine va_putN hx hb hts cl2 ty1 cl3 cl4 hown hK hP (mm_D hg cy h) hS v.2.toNat hat (by rw [e1]; exact hr0) (aux.getD 1 0) g0 (va_Nw.use rfl (hN.1 _ hl9)) (fun _ w => w) hfin (cl3 _ g0) hn hfit hl hd (fun H1 locs1 hP1 _ hS1 => ?_)
      rw [hset] at hP1
      exact K H1 locs1 L hP1 hS1 hL
  have c5 := cl5 _ g0
  split at hs
  · rename_i hcd
    obtain ⟨x, r, rfl, ht⟩ := mm_t1_some hs; clear hs; have hs := ht; clear ht
    obtain ⟨v, r, rfl, -, -, ht⟩ := mm_an_some hs; clear hs; have hs := ht; clear ht
    obtain ⟨e1, hs⟩ := mm_bf_some hs
    have e1 : v.1 = aux.getD 0 9 := by simpa using e1
    cases hs
    rw [hcd] at hcc
    obtain ⟨t1, t2⟩ := c5.1 hcc
    refine key v x (.int (Int32.ofInt x)) r hv.pop.2.pop.1 e1 t2 (by rw [t1]; rfl) (by rw [t1]; rfl) (fun h' hh => ?_) K
    unfold mm_fv
    rw [e1, hcc, hh]
    rfl
  · rename_i hcd
    obtain ⟨x, r, rfl, ht⟩ := mm_t1_some hs; clear hs; have hs := ht; clear ht
    obtain ⟨v, r, rfl, -, -, ht⟩ := mm_an_some hs; clear hs; have hs := ht; clear ht
    obtain ⟨e1, hs⟩ := mm_bf_some hs
    have e1 : v.1 = aux.getD 0 9 := by simpa using e1
    cases hs
    rw [hcd] at hcc
    obtain ⟨t1, t2⟩ := c5.2.1 hcc
    refine key v x (.long (Int64.ofInt x)) r hv.pop.2.pop.1 e1 t2 (by rw [t1]; rfl) (by rw [t1]; rfl) (fun h' hh => ?_) K
    unfold mm_fv
    rw [e1, hcc, hh]
    rfl
  · rename_i hcd
    obtain ⟨x, r, rfl, ht⟩ := mm_t1_some hs; clear hs; have hs := ht; clear ht
    obtain ⟨v, r, rfl, -, -, ht⟩ := mm_an_some hs; clear hs; have hs := ht; clear ht
    obtain ⟨e1, hs⟩ := mm_bf_some hs
    have e1 : v.1 = aux.getD 0 9 := by simpa using e1
    cases hs
    rw [hcd] at hcc
    obtain ⟨t1, t2⟩ := c5.2.2.1 hcc
    refine key v x (va_rf (mm_wv g x)) r hv.pop.2.pop.1 e1 t2 (by rw [t1]; cases mm_wv g x <;> rfl) (by rw [t1]; cases mm_wv g x <;> rfl) (fun h' hh => ?_) K
    unfold mm_fv
    rw [e1, hcc, hh]
    rfl
  · rename_i hcd
    obtain ⟨x, r, rfl, ht⟩ := mm_t1_some hs; clear hs; have hs := ht; clear ht
    obtain ⟨v, r, rfl, -, -, ht⟩ := mm_an_some hs; clear hs; have hs := ht; clear ht
    obtain ⟨e1, hs⟩ := mm_bf_some hs
    obtain ⟨e9, hs⟩ := mm_if_some hs
    have e1 : v.1 = aux.getD 0 9 := by simpa using e1
    cases hs
    rw [hcd] at hcc
    obtain ⟨t1, t2⟩ := c5.2.2.2 hcc
    refine key v x (.int (Int32.ofInt x)) r hv.pop.2.pop.1 e1 t2 (by rw [t1]; rcases e9 with rfl | rfl <;> rfl) (by rw [t1]; rcases e9 with rfl | rfl <;> rfl) (fun h' hh => ?_) K
    unfold mm_fv
    rw [e1, hcc, hh]
    rfl
  · cases hs
theorem mm_sd_arraylength (X : mm_cx p s m args meth c g D cy q) (hd : decode (mm_b q) pc = .ok (.arraylength, len)) (hc : mm_chk (mm_xq q) q (pc, .arraylength, len, aux, val) = true) (h2 : mm_ck2 (pc, .arraylength, len, aux, val) = true) (hv : mm_vl ls st h) (hs : mm_st (pc, .arraylength, len, aux, val) ls st h = some (.inr (.inl s'))) (K : mm_G p l e d s m args below meth c g D cy Q s'.1 s'.2.1 s'.2.2.1 s'.2.2.2) : mm_G p l e d s m args below meth c g D cy Q pc ls st h := by
  simp only [mm_st, mm_F] at hs
  obtain ⟨hx, hb, hml, hrt, hlk, hown, hts, hK, hZ, hN, hg⟩ := X
  intro H locs L hP hS hL
  have e0 : len = 1 := by simpa [mm_ck2, mm_ln] using h2
  subst e0
  obtain ⟨x, r, rfl, ht⟩ := mm_t1_some hs; clear hs; have hs := ht; clear ht
  cases hs
  exact va_tlen hx hb hZ.2.2.1 hS (v := Int32.ofInt 36) rfl hd (K H locs L hP hS hL)
theorem mm_sd_iaload (X : mm_cx p s m args meth c g D cy q) (hd : decode (mm_b q) pc = .ok (.iaload, len)) (hc : mm_chk (mm_xq q) q (pc, .iaload, len, aux, val) = true) (h2 : mm_ck2 (pc, .iaload, len, aux, val) = true) (hv : mm_vl ls st h) (hs : mm_st (pc, .iaload, len, aux, val) ls st h = some (.inr (.inl s'))) (K : mm_G p l e d s m args below meth c g D cy Q s'.1 s'.2.1 s'.2.2.1 s'.2.2.2) : mm_G p l e d s m args below meth c g D cy Q pc ls st h := by
  simp only [mm_st, mm_F] at hs
  obtain ⟨hx, hb, hml, hrt, hlk, hown, hts, hK, hZ, hN, hg⟩ := X
  intro H locs L hP hS hL
  have e0 : len = 1 := by simpa [mm_ck2, mm_ln] using h2
  subst e0
  obtain ⟨i, r, rfl, ht⟩ := mm_t1_some hs; clear hs; have hs := ht; clear ht
  obtain ⟨v, r, rfl, n1, n9, ht⟩ := mm_an_some hs; clear hs; have hs := ht; clear ht
  cases e5 : v.1 == 5 with
  | true =>
    rw [e5] at hs
    obtain ⟨e2, hs⟩ := mm_if_some hs
    cases hs
    have ev : mm_val g v = .ref (g 3 1) := by
      obtain ⟨t, x⟩ := v
      have : t = 5 := by simpa using e5
      subst this
      rfl
    simp only [List.map_cons, ev]
    refine va_ti hx hb hZ.2.2.2.2.1 hS (i := Int32.ofInt i) (mm_vin e2.1 e2.2 (by decide)) (v := .int (Int32.ofInt (mm_mos i))) ?_ hd (K H locs L hP hS hL)
    rw [mm_clamp e2.1 (by omega), show ((i.toNat : Nat) : Int) = i by omega]
  | false =>
    rw [e5] at hs
    obtain ⟨e1, hs⟩ := mm_bf_some hs
    obtain ⟨e2, hs⟩ := mm_if_some hs
    cases hs
    have e1 : (mm_ak v.1).1 = 0 := by simpa using e1
    have t2 := mm_ak_ge e1 (by decide)
    have vv := hv.pop.2.pop.1
    have hat := mm_at_arr (g := g) (cy := cy) (h := h) vv t2
    rw [e1] at hat
    simp only [List.map_cons, mm_val_ref (g := g) (v := v) (by omega)]
    have k := K H locs L hP hS hL
    have lim := (mm_ak_le v.1).1
    refine va_iald hx hb hK hP v.2.toNat 0 hat (mm_tys_get (by decide)) (i := Int32.ofInt i) (mm_vin e2.1 e2.2 lim) hd ?_
    rw [mm_clamp e2.1 (by omega), show ((i.toNat : Nat) : Int) = i by omega, mm_cast vv (by omega)]
    exact k
theorem mm_sd_laload (X : mm_cx p s m args meth c g D cy q) (hd : decode (mm_b q) pc = .ok (.laload, len)) (hc : mm_chk (mm_xq q) q (pc, .laload, len, aux, val) = true) (h2 : mm_ck2 (pc, .laload, len, aux, val) = true) (hv : mm_vl ls st h) (hs : mm_st (pc, .laload, len, aux, val) ls st h = some (.inr (.inl s'))) (K : mm_G p l e d s m args below meth c g D cy Q s'.1 s'.2.1 s'.2.2.1 s'.2.2.2) : mm_G p l e d s m args below meth c g D cy Q pc ls st h := by
  simp only [mm_st, mm_F] at hs
  obtain ⟨hx, hb, hml, hrt, hlk, hown, hts, hK, hZ, hN, hg⟩ := X
  intro H locs L hP hS hL
  have e0 : len = 1 := by simpa [mm_ck2, mm_ln] using h2
  subst e0
  obtain ⟨i, r, rfl, ht⟩ := mm_t1_some hs; clear hs; have hs := ht; clear ht
  obtain ⟨v, r, rfl, n1, n9, ht⟩ := mm_an_some hs; clear hs; have hs := ht; clear ht
  obtain ⟨e1, hs⟩ := mm_bf_some hs
  obtain ⟨e2, hs⟩ := mm_if_some hs
  cases hs
  have e1 : (mm_ak v.1).1 = 1 := by simpa using e1
  have t2 := mm_ak_ge e1 (by decide)
  have vv := hv.pop.2.pop.1
  have hat := mm_at_arr (g := g) (cy := cy) (h := h) vv t2
  rw [e1] at hat
  simp only [List.map_cons, mm_val_ref (g := g) (v := v) (by omega)]
  have k := K H locs L hP hS hL
  have lim := (mm_ak_le v.1).1
  refine va_lald hx hb hK hP v.2.toNat 1 hat (mm_tys_get (by decide)) (i := Int32.ofInt i) (mm_vin e2.1 e2.2 lim) hd ?_
  rw [mm_clamp e2.1 (by omega), show ((i.toNat : Nat) : Int) = i by omega, mm_cast vv (by omega)]
  exact k
theorem mm_sd_baload (X : mm_cx p s m args meth c g D cy q) (hd : decode (mm_b q) pc = .ok (.baload, len)) (hc : mm_chk (mm_xq q) q (pc, .baload, len, aux, val) = true) (h2 : mm_ck2 (pc, .baload, len, aux, val) = true) (hv : mm_vl ls st h) (hs : mm_st (pc, .baload, len, aux, val) ls st h = some (.inr (.inl s'))) (K : mm_G p l e d s m args below meth c g D cy Q s'.1 s'.2.1 s'.2.2.1 s'.2.2.2) : mm_G p l e d s m args below meth c g D cy Q pc ls st h := by
  simp only [mm_st, mm_F] at hs
  obtain ⟨hx, hb, hml, hrt, hlk, hown, hts, hK, hZ, hN, hg⟩ := X
  intro H locs L hP hS hL
  have e0 : len = 1 := by simpa [mm_ck2, mm_ln] using h2
  subst e0
  obtain ⟨i, r, rfl, ht⟩ := mm_t1_some hs; clear hs; have hs := ht; clear ht
  obtain ⟨v, r, rfl, n1, n9, ht⟩ := mm_an_some hs; clear hs; have hs := ht; clear ht
  obtain ⟨e1, hs⟩ := mm_bf_some hs
  obtain ⟨e2, hs⟩ := mm_if_some hs
  cases hs
  have e1 : (mm_ak v.1).1 = 3 ∨ (mm_ak v.1).1 = 4 := by simpa using e1
  have t2 : ¬ v.1 < 22 := by rcases e1 with q | q <;> exact mm_ak_ge q (by decide)
  have vv := hv.pop.2.pop.1
  have hat := mm_at_arr (g := g) (cy := cy) (h := h) vv t2
  simp only [List.map_cons, mm_val_ref (g := g) (v := v) (by omega)]
  have k := K H locs L hP hS hL
  have lim := (mm_ak_le v.1).1
  rcases e1 with e1 | e1
  · rw [e1] at hat
    refine va_bald hx hb hK hP v.2.toNat 3 hat (mm_tys_get (by decide)) (i := Int32.ofInt i) (mm_vin e2.1 e2.2 lim) hd ?_
    rw [mm_clamp e2.1 (by omega), show ((i.toNat : Nat) : Int) = i by omega, mm_cast vv (by omega)]
    exact k
  · rw [e1] at hat
    refine va_zald hx hb hK hP v.2.toNat 4 hat (mm_tys_get (by decide)) (i := Int32.ofInt i) (mm_vin e2.1 e2.2 lim) hd ?_
    rw [mm_clamp e2.1 (by omega), show ((i.toNat : Nat) : Int) = i by omega, mm_cast vv (by omega)]
    exact k
theorem mm_sd_aaload (X : mm_cx p s m args meth c g D cy q) (hd : decode (mm_b q) pc = .ok (.aaload, len)) (hc : mm_chk (mm_xq q) q (pc, .aaload, len, aux, val) = true) (h2 : mm_ck2 (pc, .aaload, len, aux, val) = true) (hv : mm_vl ls st h) (hs : mm_st (pc, .aaload, len, aux, val) ls st h = some (.inr (.inl s'))) (K : mm_G p l e d s m args below meth c g D cy Q s'.1 s'.2.1 s'.2.2.1 s'.2.2.2) : mm_G p l e d s m args below meth c g D cy Q pc ls st h := by
  simp only [mm_st, mm_F] at hs
  obtain ⟨hx, hb, hml, hrt, hlk, hown, hts, hK, hZ, hN, hg⟩ := X
  intro H locs L hP hS hL
  have e0 : len = 1 := by simpa [mm_ck2, mm_ln] using h2
  subst e0
  obtain ⟨i, r, rfl, ht⟩ := mm_t1_some hs; clear hs; have hs := ht; clear ht
  obtain ⟨v, r, rfl, n1, n9, ht⟩ := mm_an_some hs; clear hs; have hs := ht; clear ht
  cases e5 : v.1 == 4 with
  | true =>
    rw [e5] at hs
    obtain ⟨e2, hs⟩ := mm_if_some hs
    cases hs
    have ev : mm_val g v = .ref (g 3 0) := by
      obtain ⟨t, x⟩ := v
      have : t = 4 := by simpa using e5
      subst this
      rfl
    simp only [List.map_cons, ev]
    refine vb_tq hx hb hZ.2.2.1 hS (i := Int32.ofInt i) (mm_vin e2.1 e2.2 (by decide)) (v := mm_val g (2, i)) ?_ hd (K H locs L hP hS hL)
    rw [mm_clamp e2.1 (by omega)]
    show _ = va_rf (mm_wv g i)
    unfold mm_wv
    rw [if_pos e2]
    rfl
  | false =>
    rw [e5] at hs
    obtain ⟨e2, hs⟩ := mm_if_some hs
    have lim := (mm_ak_le v.1).1
    have t2 : ¬ v.1 < 22 := by
      intro w
      unfold mm_ak at e2
      rw [if_pos w] at e2
      have := e2.1
      have := e2.2
      simp only at this
      omega
    have vv := hv.pop.2.pop.1
    have hat := mm_at_arr (g := g) (cy := cy) (h := h) vv t2
    simp only [List.map_cons, mm_val_ref (g := g) (v := v) (by omega)]
    have rf := mm_ref vv (by omega)
    split at hs
    · rename_i hcd
      cases hs
      rw [hcd] at hat
      have k := K H locs L hP hS hL
      refine mm_aald hx hb hK hP v.2.toNat 2 (ty := mm_ty 2) rfl hat (mm_tys_get (by decide)) (i := Int32.ofInt i) (mm_vin e2.1 e2.2 lim) hd ?_
      rw [mm_clamp e2.1 (by omega), show ((i.toNat : Nat) : Int) = i by omega, mm_cast vv (by omega)]
      exact k
    · rename_i hcd
      cases hs
      rw [hcd] at hat
      have k := K H locs L hP hS hL
      refine mm_aald hx hb hK hP v.2.toNat 5 (ty := mm_ty 5) rfl hat (mm_tys_get (by decide)) (i := Int32.ofInt i) (mm_vin e2.1 e2.2 lim) hd ?_
      rw [mm_clamp e2.1 (by omega)]
      simp only [List.map_cons, mm_val_ref (g := g) (v := (12, v.2 + 1 + 4 * i)) (Nat.le_of_ble_eq_true rfl)] at k
      rw [show (v.2 + 1 + 4 * i).toNat = v.2.toNat + 1 + 4 * i.toNat by omega] at k
      exact k
    · rename_i hcd
      cases hs
      rw [hcd] at hat
      have k := K H locs L hP hS hL
      refine mm_aald hx hb hK hP v.2.toNat 6 (ty := mm_ty 6) rfl hat (mm_tys_get (by decide)) (i := Int32.ofInt i) (mm_vin e2.1 e2.2 lim) hd ?_
      rw [mm_clamp e2.1 (by omega)]
      simp only [List.map_cons, mm_val_ref (g := g) (v := (16, v.2 + 62 + 19 * i)) (Nat.le_of_ble_eq_true rfl)] at k
      rw [show (v.2 + 62 + 19 * i).toNat = v.2.toNat + 62 + 19 * i.toNat by omega] at k
      exact k
    · rename_i hcd
      cases hs
      rw [hcd] at hat
      have k := K H locs L hP hS hL
      refine mm_aald hx hb hK hP v.2.toNat 7 (ty := mm_ty 7) rfl hat (mm_tys_get (by decide)) (i := Int32.ofInt i) (mm_vin e2.1 e2.2 lim) hd ?_
      rw [mm_clamp e2.1 (by omega)]
      simp only [List.map_cons, mm_val_ref (g := g) (v := (27, v.2 + 1 + i)) (Nat.le_of_ble_eq_true rfl)] at k
      rw [show (v.2 + 1 + i).toNat = v.2.toNat + 1 + i.toNat by omega] at k
      exact k
    · cases hs
theorem mm_sd_iastore (X : mm_cx p s m args meth c g D cy q) (hd : decode (mm_b q) pc = .ok (.iastore, len)) (hc : mm_chk (mm_xq q) q (pc, .iastore, len, aux, val) = true) (h2 : mm_ck2 (pc, .iastore, len, aux, val) = true) (hv : mm_vl ls st h) (hs : mm_st (pc, .iastore, len, aux, val) ls st h = some (.inr (.inl s'))) (K : mm_G p l e d s m args below meth c g D cy Q s'.1 s'.2.1 s'.2.2.1 s'.2.2.2) : mm_G p l e d s m args below meth c g D cy Q pc ls st h := by
  simp only [mm_st, mm_F] at hs
  obtain ⟨hx, hb, hml, hrt, hlk, hown, hts, hK, hZ, hN, hg⟩ := X
  intro H locs L hP hS hL
  have e0 : len = 1 := by simpa [mm_ck2, mm_ln] using h2
  subst e0
  obtain ⟨x, r, rfl, ht⟩ := mm_t1_some hs; clear hs; have hs := ht; clear ht
  obtain ⟨i, r, rfl, ht⟩ := mm_t1_some hs; clear hs; have hs := ht; clear ht
  obtain ⟨v, r, rfl, n1, n9, ht⟩ := mm_an_some hs; clear hs; have hs := ht; clear ht
  obtain ⟨e1, hs⟩ := mm_bf_some hs
  obtain ⟨e2, hs⟩ := mm_if_some hs
  cases hs
  have e1 : (mm_ak v.1).1 = 0 := by simpa using e1
  have t2 := mm_ak_ge e1 (by decide)
  have vv := hv.pop.2.pop.2.pop.1
  have hat := mm_at_arr (g := g) (cy := cy) (h := h) vv t2
  have lim := (mm_ak_le v.1).1
  simp only [List.map_cons, mm_val_ref (g := g) (v := v) (by omega)]
  have hset := fun f hf => mm_ws_arr (g := g) (cy := cy) (h := h) (v := v) (i := i) (x := x) vv t2 (f := f) hf
  rw [e1] at hat hset
  refine va_iast hx hb hK hP (mm_D hg cy h) hS v.2.toNat 0 hat (mm_tys_get (by decide)) (i := Int32.ofInt i) (x := Int32.ofInt x) (mm_vin e2.1 e2.2 lim) hd (fun H1 locs1 hP1 _ hS1 => ?_)
  rw [hset _ ?_] at hP1
  · exact K H1 locs1 L hP1 hS1 hL
  · show Sum.inl _ = Sum.inl _
    refine congrArg Sum.inl ?_
    funext k
    unfold upd
    by_cases w : k = (Int32.ofInt i).toNatClampNeg
    · rw [if_pos w]
      have w2 := (mm_idx e2.1 (by omega)).mp w
      rw [mm_cast vv (by omega), w2, mm_up_eq]
    · rw [if_neg w, mm_up_ne2 (fun z => w ((mm_idx e2.1 (by omega)).mpr z))]
theorem mm_sd_lastore (X : mm_cx p s m args meth c g D cy q) (hd : decode (mm_b q) pc = .ok (.lastore, len)) (hc : mm_chk (mm_xq q) q (pc, .lastore, len, aux, val) = true) (h2 : mm_ck2 (pc, .lastore, len, aux, val) = true) (hv : mm_vl ls st h) (hs : mm_st (pc, .lastore, len, aux, val) ls st h = some (.inr (.inl s'))) (K : mm_G p l e d s m args below meth c g D cy Q s'.1 s'.2.1 s'.2.2.1 s'.2.2.2) : mm_G p l e d s m args below meth c g D cy Q pc ls st h := by
  simp only [mm_st, mm_F] at hs
  obtain ⟨hx, hb, hml, hrt, hlk, hown, hts, hK, hZ, hN, hg⟩ := X
  intro H locs L hP hS hL
  have e0 : len = 1 := by simpa [mm_ck2, mm_ln] using h2
  subst e0
  obtain ⟨x, r, rfl, ht⟩ := mm_t1_some hs; clear hs; have hs := ht; clear ht
  obtain ⟨i, r, rfl, ht⟩ := mm_t1_some hs; clear hs; have hs := ht; clear ht
  obtain ⟨v, r, rfl, n1, n9, ht⟩ := mm_an_some hs; clear hs; have hs := ht; clear ht
  obtain ⟨e1, hs⟩ := mm_bf_some hs
  obtain ⟨e2, hs⟩ := mm_if_some hs
  cases hs
  have e1 : (mm_ak v.1).1 = 1 := by simpa using e1
  have t2 := mm_ak_ge e1 (by decide)
  have vv := hv.pop.2.pop.2.pop.1
  have hat := mm_at_arr (g := g) (cy := cy) (h := h) vv t2
  have lim := (mm_ak_le v.1).1
  simp only [List.map_cons, mm_val_ref (g := g) (v := v) (by omega)]
  have hset := fun f hf => mm_ws_arr (g := g) (cy := cy) (h := h) (v := v) (i := i) (x := x) vv t2 (f := f) hf
  rw [e1] at hat hset
  refine va_last hx hb hK hP (mm_D hg cy h) hS v.2.toNat 1 hat (mm_tys_get (by decide)) (i := Int32.ofInt i) (x := Int64.ofInt x) (mm_vin e2.1 e2.2 lim) hd (fun H1 locs1 hP1 _ hS1 => ?_)
  rw [hset _ ?_] at hP1
  · exact K H1 locs1 L hP1 hS1 hL
  · show Sum.inr _ = Sum.inr _
    refine congrArg (fun z => Sum.inr (Sum.inl z)) ?_
    funext k
    unfold vp_updL
    by_cases w : k = (Int32.ofInt i).toNatClampNeg
    · rw [if_pos w]
      have w2 := (mm_idx e2.1 (by omega)).mp w
      rw [mm_cast vv (by omega), w2, mm_up_eq]
    · rw [if_neg w, mm_up_ne2 (fun z => w ((mm_idx e2.1 (by omega)).mpr z))]
theorem mm_sd_bastore (X : mm_cx p s m args meth c g D cy q) (hd : decode (mm_b q) pc = .ok (.bastore, len)) (hc : mm_chk (mm_xq q) q (pc, .bastore, len, aux, val) = true) (h2 : mm_ck2 (pc, .bastore, len, aux, val) = true) (hv : mm_vl ls st h) (hs : mm_st (pc, .bastore, len, aux, val) ls st h = some (.inr (.inl s'))) (K : mm_G p l e d s m args below meth c g D cy Q s'.1 s'.2.1 s'.2.2.1 s'.2.2.2) : mm_G p l e d s m args below meth c g D cy Q pc ls st h := by
  simp only [mm_st, mm_F] at hs
  obtain ⟨hx, hb, hml, hrt, hlk, hown, hts, hK, hZ, hN, hg⟩ := X
  intro H locs L hP hS hL
  have e0 : len = 1 := by simpa [mm_ck2, mm_ln] using h2
  subst e0
  obtain ⟨x, r, rfl, ht⟩ := mm_t1_some hs; clear hs; have hs := ht; clear ht
  obtain ⟨i, r, rfl, ht⟩ := mm_t1_some hs; clear hs; have hs := ht; clear ht
  obtain ⟨v, r, rfl, n1, n9, ht⟩ := mm_an_some hs; clear hs; have hs := ht; clear ht
  have vv := hv.pop.2.pop.2.pop.1
  have hx0 : mm_i32 x := hv.pop.1
  have lim := (mm_ak_le v.1).1
  cases e3 : (mm_ak v.1).1 == 3 with
  | true =>
    rw [e3] at hs
    obtain ⟨e2, hs⟩ := mm_if_some hs
    cases hs
    have e1 : (mm_ak v.1).1 = 3 := by simpa using e3
    have t2 := mm_ak_ge e1 (by decide)
    have hat := mm_at_arr (g := g) (cy := cy) (h := h) vv t2
    simp only [List.map_cons, mm_val_ref (g := g) (v := v) (by omega)]
    have hset := fun f hf => mm_ws_arr (g := g) (cy := cy) (h := h) (v := v) (i := i) (x := mm_w8 x) vv t2 (f := f) hf
    rw [e1] at hat hset
    refine va_bast hx hb hK hP (mm_D hg cy h) hS v.2.toNat 3 hat (mm_tys_get (by decide)) (i := Int32.ofInt i) (x := Int32.ofInt x) (mm_vin e2.1 e2.2 lim) hd (fun H1 locs1 hP1 _ hS1 => ?_)
    rw [hset _ ?_] at hP1
    · exact K H1 locs1 L hP1 hS1 hL
    · show Sum.inl _ = Sum.inl _
      refine congrArg Sum.inl ?_
      funext k
      unfold upd
      have en : vp_nar .byte (Int32.ofInt x) = Int32.ofInt (mm_w8 x) := by
        rw [vp_nar_byte]
        apply Int32.toInt_inj.mp
        have w := mm_w8_ok x
        rw [Int8.toInt_toInt32, Int32.toInt_toInt8, mm_toI hx0, mm_toI (mm_sm w.1 w.2 (by decide) (by decide))]
        rfl
      by_cases w : k = (Int32.ofInt i).toNatClampNeg
      · rw [if_pos w, en]
        have w2 := (mm_idx e2.1 (by omega)).mp w
        rw [mm_cast vv (by omega), w2, mm_up_eq]
      · rw [if_neg w, mm_up_ne2 (fun z => w ((mm_idx e2.1 (by omega)).mpr z))]
  | false =>
    rw [e3] at hs
    obtain ⟨e1, hs⟩ := mm_bf_some hs
    obtain ⟨e2, hs⟩ := mm_if_some hs
    obtain ⟨e9, hs⟩ := mm_if_some hs
    cases hs
    have e1 : (mm_ak v.1).1 = 4 := by simpa using e1
    have t2 := mm_ak_ge e1 (by decide)
    have hat := mm_at_arr (g := g) (cy := cy) (h := h) vv t2
    simp only [List.map_cons, mm_val_ref (g := g) (v := v) (by omega)]
    have hset := fun f hf => mm_ws_arr (g := g) (cy := cy) (h := h) (v := v) (i := i) (x := x) vv t2 (f := f) hf
    rw [e1] at hat hset
    refine va_zast hx hb hK hP (mm_D hg cy h) hS v.2.toNat 4 hat (mm_tys_get (by decide)) (i := Int32.ofInt i) (x := Int32.ofInt x) (mm_vin e2.1 e2.2 lim) hd (fun H1 locs1 hP1 _ hS1 => ?_)
    rw [hset _ ?_] at hP1
    · exact K H1 locs1 L hP1 hS1 hL
    · show Sum.inl _ = Sum.inl _
      refine congrArg Sum.inl ?_
      funext k
      unfold upd
      have en : vp_nar .boolean (Int32.ofInt x) = Int32.ofInt x := by
        rcases e9 with rfl | rfl <;> rfl
      by_cases w : k = (Int32.ofInt i).toNatClampNeg
      · rw [if_pos w, en]
        have w2 := (mm_idx e2.1 (by omega)).mp w
        rw [mm_cast vv (by omega), w2, mm_up_eq]
      · rw [if_neg w, mm_up_ne2 (fun z => w ((mm_idx e2.1 (by omega)).mpr z))]
theorem mm_sd_aastore (X : mm_cx p s m args meth c g D cy q) (hd : decode (mm_b q) pc = .ok (.aastore, len)) (hc : mm_chk (mm_xq q) q (pc, .aastore, len, aux, val) = true) (h2 : mm_ck2 (pc, .aastore, len, aux, val) = true) (hv : mm_vl ls st h) (hs : mm_st (pc, .aastore, len, aux, val) ls st h = some (.inr (.inl s'))) (K : mm_G p l e d s m args below meth c g D cy Q s'.1 s'.2.1 s'.2.2.1 s'.2.2.2) : mm_G p l e d s m args below meth c g D cy Q pc ls st h := by
  simp only [mm_st, mm_F] at hs
  obtain ⟨hx, hb, hml, hrt, hlk, hown, hts, hK, hZ, hN, hg⟩ := X
  intro H locs L hP hS hL
  have e0 : len = 1 := by simpa [mm_ck2, mm_ln] using h2
  subst e0
  obtain ⟨x, r, rfl, ht⟩ := mm_t1_some hs; clear hs; have hs := ht; clear ht
  obtain ⟨i, r, rfl, ht⟩ := mm_t1_some hs; clear hs; have hs := ht; clear ht
  obtain ⟨v, r, rfl, n1, n9, ht⟩ := mm_an_some hs; clear hs; have hs := ht; clear ht
  obtain ⟨e1, hs⟩ := mm_bf_some hs
  obtain ⟨e2, hs⟩ := mm_if_some hs
  cases hs
  have e1 : (mm_ak v.1).1 = 2 := by simpa using e1
  have t2 := mm_ak_ge e1 (by decide)
  have vv := hv.pop.2.pop.2.pop.1
  have hat := mm_at_arr (g := g) (cy := cy) (h := h) vv t2
  have lim := (mm_ak_le v.1).1
  simp only [List.map_cons, mm_val_ref (g := g) (v := v) (by omega)]
  have hset := fun f hf => mm_ws_arr (g := g) (cy := cy) (h := h) (v := v) (i := i) (x := x) vv t2 (f := f) hf
  rw [e1] at hat hset
  have fin : ∀ (H1 : Heap) (locs1 : List Loc), va_P D vwCl ((mm_ws g cy h).set v.2.toNat (g 0 v.2.toNat, .inl (cy 2, (mm_ak v.1).2, .inr (.inr (.inr (.inr (va_up (fun i => mm_wv g (h v.2.toNat i)) (Int32.ofInt i).toNatClampNeg (mm_wv g x)))))))) H1 → va_S (mm_A g) s.heap H1 locs1 → W p l e (mm_rm d) s m args below meth c H1 locs1 0 0 Q (F0 m (pc + 1) L (r.map (mm_val g))) := by
    intro H1 locs1 hP1 hS1
    rw [hset _ ?_] at hP1
    · exact K H1 locs1 L hP1 hS1 hL
    · show Sum.inr _ = Sum.inr _
      refine congrArg (fun z => Sum.inr (Sum.inr (Sum.inr (Sum.inr z)))) ?_
      funext k
      unfold va_up
      by_cases w : k = (Int32.ofInt i).toNatClampNeg
      · rw [if_pos w]
        have w2 := (mm_idx e2.1 (by omega)).mp w
        rw [mm_cast vv (by omega), w2, mm_up_eq]
      · rw [if_neg w, mm_up_ne2 (fun z => w ((mm_idx e2.1 (by omega)).mpr z))]
  have hO := hZ.2.2.2.2.2.2.1
  by_cases hw : 0 ≤ x ∧ x < 36
  · have ev : mm_wv g x = some (g 1 x.toNat) := by
      unfold mm_wv
      rw [if_pos hw]
    rw [ev] at fin
    show W p l e (mm_rm d) s m args below meth c H locs 0 0 Q (F0 m pc L (va_rf (mm_wv g x) :: _))
    rw [ev]
    refine va_astqM hx hb hK hP (mm_D hg cy h) hS v.2.toNat 2 (E := "HiccupTown$Word") hat (mm_tys_get (cy := cy) (by decide)) ?_ (i := Int32.ofInt i) (mm_vin e2.1 e2.2 lim) hd (fun H1 locs1 hP1 _ hS1 => fin H1 locs1 hP1 hS1)
    obtain ⟨cell, q1, q2, q3, q4⟩ := (hO x.toNat (by omega)).kept (H1 := H) (fun a h1 h2 => hS.2.1 a h1 h2)
    obtain ⟨kA, comp, k1, k2, k3, -⟩ := (hK.2 2 _ (mm_tys_get (cy := cy) (by decide))).2
    exact mm_any hts q1 q2 q3
  · have ev : mm_wv g x = none := by
      unfold mm_wv
      rw [if_neg hw]
    rw [ev] at fin
    show W p l e (mm_rm d) s m args below meth c H locs 0 0 Q (F0 m pc L (va_rf (mm_wv g x) :: _))
    rw [ev]
    exact va_astqN hx hb hK hP (mm_D hg cy h) hS v.2.toNat 2 (C := "HiccupTown$Word") hat (mm_tys_get (cy := cy) (by decide)) (i := Int32.ofInt i) (mm_vin e2.1 e2.2 lim) hd (fun H1 locs1 hP1 _ hS1 => fin H1 locs1 hP1 hS1)
end MB
