/-! The law's own person: the class's call, and its refusal caught -/
def lp_y : MethodName := ⟨"HiccupTownLaw", "person", "(LHiccupTown;II[J)I"⟩
theorem dq_0 : decode method_3_code 0 = .ok (.aload_n 3, 1) := by decide +kernel
theorem dq_1 : decode method_3_code 1 = .ok (.iconst 0, 1) := by decide +kernel
theorem dq_2 : decode method_3_code 2 = .ok (.aload_n 0, 1) := by decide +kernel
theorem dq_3 : decode method_3_code 3 = .ok (.iload_n 1, 1) := by decide +kernel
theorem dq_4 : decode method_3_code 4 = .ok (.iload_n 2, 1) := by decide +kernel
theorem dq_5 : decode method_3_code 5 = .ok (.invokevirtual 7, 3) := by decide +kernel
theorem dq_8 : decode method_3_code 8 = .ok (.i2l, 1) := by decide +kernel
theorem dq_9 : decode method_3_code 9 = .ok (.lastore, 1) := by decide +kernel
theorem dq_10 : decode method_3_code 10 = .ok (.goto 7, 3) := by decide +kernel
theorem dq_13 : decode method_3_code 13 = .ok (.astore 4, 2) := by decide +kernel
theorem dq_15 : decode method_3_code 15 = .ok (.iconst 1, 1) := by decide +kernel
theorem dq_16 : decode method_3_code 16 = .ok (.ireturn, 1) := by decide +kernel
theorem dq_17 : decode method_3_code 17 = .ok (.iconst 0, 1) := by decide +kernel
theorem dq_18 : decode method_3_code 18 = .ok (.ireturn, 1) := by decide +kernel
def lp_w : List Cond := .codeWith lp_y method_3_code 5 (some .int) [(0, 10, 13, 13)] :: mm_TW
def lp_rm : Room := { frames := 120, cells := 1, slots := 6, locals := 8000 }
/-- the world of class and reference, and the law's long[1] -/
def lp_A (g : Nat → Nat → Nat) (out : Nat) : Nat → Prop := fun q => mm_A g q ∨ q = out
def lp_o (cy : Nat → ClassId) (out : Nat) (f : Nat → Int64) : va_W := [(out, .inl (cy 1, 1, .inr (.inl f)))]
def lp_ws (g : Nat → Nat → Nat) (cy : Nat → ClassId) (h : mm_H) (out : Nat) (f : Nat → Int64) : va_W := mm_ws g cy h ++ lp_o cy out f
theorem lp_len {g : Nat → Nat → Nat} {cy : Nat → ClassId} {h : mm_H} : (mm_ws g cy h).length = 153 := by simp [mm_ws]
theorem lp_P1 {D : va_G} {g : Nat → Nat → Nat} {cy : Nat → ClassId} {h : mm_H} {out : Nat} {f : Nat → Int64} {H : Heap} (hP : va_P D vwCl (lp_ws g cy h out f) H) : va_P D vwCl (mm_ws g cy h) H := fun k x hx => hP k x (by
  unfold lp_ws
  rw [List.getElem?_append_left (List.getElem?_eq_some_iff.mp hx).1]
  exact hx)
theorem lp_at {g : Nat → Nat → Nat} {cy : Nat → ClassId} {h : mm_H} {out : Nat} {f : Nat → Int64} : (lp_ws g cy h out f)[153]? = some (out, .inl (cy 1, 1, .inr (.inl f))) := by
  unfold lp_ws
  rw [List.getElem?_append_right (by rw [lp_len]; exact Nat.le_refl _), lp_len]
  rfl
theorem lp_P2 {D : va_G} {g : Nat → Nat → Nat} {cy : Nat → ClassId} {h : mm_H} {out : Nat} {f : Nat → Int64} {H : Heap} (hP : va_P D vwCl (lp_ws g cy h out f) H) : va_P D vwCl (lp_o cy out f) H := fun k x hx => by
  have h1 : k < 1 := (List.getElem?_eq_some_iff.mp hx).1
  have h2 : k = 0 := by omega
  subst h2
  cases hx
  exact hP 153 _ lp_at
theorem lp_out {D : va_G} {cy : Nat → ClassId} {out : Nat} {f : Nat → Int64} {H : Heap} (hP : va_P D vwCl (lp_o cy out f) H) : out < H.size := (hP 0 _ rfl).lt
theorem lp_keep {D : va_G} {cy : Nat → ClassId} {out : Nat} {f : Nat → Int64} {H H1 : Heap} (hP : va_P D vwCl (lp_o cy out f) H) (hk : H1[out]? = H[out]?) : va_P D vwCl (lp_o cy out f) H1 := hP.kept (fun k x hx => by
  have h1 : k < 1 := (List.getElem?_eq_some_iff.mp hx).1
  have h2 : k = 0 := by omega
  subst h2
  cases hx
  exact hk)
theorem lp_D {g : Nat → Nat → Nat} (hg : mm_inj g) {out : Nat} (hno : ¬ mm_A g out) (cy : Nat → ClassId) (h : mm_H) (f : Nat → Int64) : va_D (lp_A g out) (lp_ws g cy h out f) := by
  have key : ∀ (k : Nat) (x : Nat × va_E), (lp_ws g cy h out f)[k]? = some x → (k < 153 ∧ x.1 = g 0 k) ∨ (k = 153 ∧ x.1 = out) := by
    intro k x hx
    by_cases hk : k < 153
    · unfold lp_ws at hx
      rw [List.getElem?_append_left (by rw [lp_len]; exact hk), mm_ws_get hk] at hx
      cases hx
      exact Or.inl ⟨hk, rfl⟩
    · have hl : k < (lp_ws g cy h out f).length := (List.getElem?_eq_some_iff.mp hx).1
      have h2 : (lp_ws g cy h out f).length = 154 := by unfold lp_ws lp_o; rw [List.length_append, lp_len]; rfl
      have h3 : k = 153 := by omega
      subst h3
      rw [lp_at] at hx
      cases hx
      exact Or.inr ⟨rfl, rfl⟩
  refine ⟨fun i j x y hi hj e => ?_, fun k x hk => ?_⟩
  · rcases key i x hi with ⟨a1, a2⟩ | ⟨a1, a2⟩ <;> rcases key j y hj with ⟨b1, b2⟩ | ⟨b1, b2⟩
    · exact hg.1 i j a1 b1 (by rw [← a2, ← b2, e])
    · exact absurd ⟨i, a1, by rw [← a2, e, b2]⟩ hno
    · exact absurd ⟨j, b1, by rw [← b2, ← e, a2]⟩ hno
    · omega
  · rcases key k x hk with ⟨a1, a2⟩ | ⟨a1, a2⟩
    · exact Or.inl ⟨k, a1, a2⟩
    · exact Or.inr a2
theorem lp_set {g : Nat → Nat → Nat} {cy : Nat → ClassId} {h : mm_H} {out : Nat} {f f' : Nat → Int64} : (lp_ws g cy h out f).set 153 (out, .inl (cy 1, 1, .inr (.inl f'))) = lp_ws g cy h out f' := by
  unfold lp_ws
  rw [List.set_append, if_neg (by rw [lp_len]; decide), lp_len]
  rfl
def lp_U (g : Nat → Nat → Nat) (D : va_G) (cy : Nat → ClassId) (h : mm_H) (sa sb out : Nat) (f : Nat → Int64) (U : State) : Prop := (va_P D vwCl (lp_ws g cy h out f) U.heap ∧ va_K D vwCl (mm_tys cy) U ∧ mm_Z g (lp_A g out) U U.heap ∧ mm_nw g U ∧ mm_rg h) ∧ ns_N sa sb (lp_A g out) U U.heap
theorem lp_FB {g : Nat → Nat → Nat} {D : va_G} {cy : Nat → ClassId} {h : mm_H} {sa sb out : Nat} {f : Nat → Int64} {as : List Value} : FrameBlind (va_Pc as (lp_U g D cy h sa sb out f)) := by
  intro a U f9 mk hq
  obtain ⟨q0, ⟨qP, qK, qZ, qN, qR⟩, qX⟩ := hq
  exact ⟨q0, ⟨qP, va_K.moved (u := U) (U := U.calling f9 mk a) (Vm.Alike.refl U.vm) qK, mm_Z.moved (u := U) (U := U.calling f9 mk a) (Vm.Alike.refl U.vm) qZ, mm_nw.same (u := U) (U := U.calling f9 mk a) rfl qN, qR⟩, ns_N.same (u := U) (U := U.calling f9 mk a) rfl qX⟩
theorem pn_FB {g : Nat → Nat → Nat} {D : va_G} {cy : Nat → ClassId} {h : mm_H} {sa sb : Nat} {as : List Value} : FrameBlind (va_Pc as (fun U => mm_U g D cy h U ∧ ns_N sa sb (mm_A g) U U.heap)) := by
  intro a U f9 mk hq
  obtain ⟨q0, ⟨qP, qK, qZ, qN, qR⟩, qX⟩ := hq
  exact ⟨q0, ⟨qP, va_K.moved (u := U) (U := U.calling f9 mk a) (Vm.Alike.refl U.vm) qK, mm_Z.moved (u := U) (U := U.calling f9 mk a) (Vm.Alike.refl U.vm) qZ, mm_nw.same (u := U) (U := U.calling f9 mk a) rfl qN, qR⟩, ns_N.same (u := U) (U := U.calling f9 mk a) rfl qX⟩
def lp_Q (g : Nat → Nat → Nat) (D : va_G) (cy : Nat → ClassId) (h : mm_H) (out : Nat) (k : Int32) (v : Int64 → Prop) : Array Value → State → Outcome → State → Prop := va_Qi (fun r (u : Nat → Int64) => r = k ∧ v (u 0)) (fun u t => va_P D vwCl (lp_ws g cy h out u) t.heap) (lp_A g out)
set_option maxHeartbeats 2000000 in
set_option maxRecDepth 100000 in
theorem lp_ok (l : Launch) {g : Nat → Nat → Nat} {D : va_G} {cy : Nat → ClassId} {h : mm_H} {p w : Int} {sa sb out : Nat} {f : Nat → Int64} (hg : mm_inj g) (hno : ¬ mm_A g out) (hI : Inv h) (hp : mm_i32 p) (hw : mm_i32 w) (hy : (0 ≤ p ∧ p < h 135 2) ∧ 0 ≤ w ∧ w ≤ 4) :
    Met l lp_y lp_w lp_rm (va_Pc [.ref (g 0 0), .int (Int32.ofInt p), .int (Int32.ofInt w), .ref out] (lp_U g D cy h sa sb out f)) (lp_Q g D cy h out 0 (fun z => z = (Int32.ofInt (f_per (h 135) p w)).toInt64)) 1 6 (lp_A g out) := by
  refine va_MetW (cc := method_3_code) (maxL := 5) (ret := some .int) (hh := [(0, 10, 13, 13)]) (by decide +kernel) rfl ?_
  intro p9 e s m args below meth c s₁ B hml hPc
  obtain ⟨rfl, ⟨hP, hK, hZ, hN, hR⟩, hX9⟩ := hPc
  have hx := B.exec
  have hb := B.bytes
  have hr := B.returns
  have hts : ∀ w ∈ mm_TW, w.before _ s = true := fun w hw => atoms_spec (ws := lp_w) B.pre w (List.mem_cons_of_mem _ hw)
  have hown : s.vm.findClass "HiccupTownLaw" = some m.cls := findClass_of_methodNamed B.named
  have hlk := B.notSynchronized
  have hle := lv_entry ([.ref (g 0 0), .int (Int32.ofInt p), .int (Int32.ofInt w), .ref out]) (n := 5) (Nat.le_of_ble_eq_true rfl)
  rw [lg_entry_eq]
  generalize (lg_sl ([.ref (g 0 0), .int (Int32.ofInt p), .int (Int32.ofInt w), .ref out]) ++ List.replicate (5 - (lg_sl ([.ref (g 0 0), .int (Int32.ofInt p), .int (Int32.ofInt w), .ref out])).length) Slot.unset).toArray = ls at hle ⊢
  have h9 : lv_has ls 5 [(0, .ref (g 0 0)), (1, .int (Int32.ofInt p)), (2, .int (Int32.ofInt w)), (3, .ref out)] := hle
  refine lv_aload_n hx hb dq_0 rfl (lv_at h9 3 rfl) ?_
  refine lv_iconst (v := 0) hx hb dq_1 rfl ?_
  refine lv_aload_n hx hb dq_2 rfl (lv_at h9 0 rfl) ?_
  refine lv_iload_n hx hb dq_3 rfl (lv_at h9 1 rfl) ?_
  refine lv_iload_n hx hb dq_4 rfl (lv_at h9 2 rfl) ?_
  have hrun := (k_personOk p w 0 h hI hy.1 hy.2).1
  refine mm_cv (own := "HiccupTownLaw") (i := 7) (pc := 5) (q := 284) (d := 99) (v := (20, 0)) (A0 := [(0, p), (0, w)]) (rest := [.int 0, .ref out]) (A := lp_A g out) hx hb hml hown hts hg hK hN (mm_str_ok l) (by decide) rfl (mm_tw6 1 rfl rfl) rfl rfl ?_ hrun h9.1 (by simp [Value.category]) ⟨Nat.le_of_ble_eq_true rfl, Nat.le_of_ble_eq_true rfl⟩ (Nat.zero_le _) (Nat.zero_le _) dq_5 (hZ.narrow (fun _ q => Or.inl q)) hR (lp_P1 hP) va_S.rf (fun _ q => Or.inl q) (fun H1 locs1 Z1 R1 P1 S1 z1 k1 => ?_)
  · intro x hx
    simp only [List.mem_cons, List.not_mem_nil, or_false] at hx
    rcases hx with e | e | e
    · subst e; exact ⟨by decide, by decide, by decide⟩
    · subst e; exact hp
    · subst e; exact hw
  have P2 : va_P D vwCl (lp_ws g cy h out f) H1 := P1.app (lp_keep (lp_P2 hP) (k1 out (lp_out (lp_P2 hP)) hno))
  refine W.eq (g2 := F0 m 8 ls [.int (Int32.ofInt (f_per (h 135) p w)), .int 0, .ref out]) rfl ?_
  refine lv_i2l hx hb dq_8 rfl ?_
  refine va_last hx hb hK P2 (lp_D hg hno cy h f) S1 153 1 lp_at (mm_tys_get (by decide)) (i := 0) (by unfold vp_in; decide) dq_9 (fun H2 locs2 P3 D3 S3 => ?_)
  rw [lp_set] at P3
  refine lv_goto (tgt := 17) hx hb dq_10 rfl ?_
  refine lv_iconst (v := 0) hx hb dq_17 rfl ?_
  refine W.widen (k := 1) (n := 6) (by omega) (by omega) ?_
  exact W.iret hx hb hr (fun t ht hW => ⟨⟨0, vp_updL f (Int32.toNatClampNeg 0) (Int32.ofInt (f_per (h 135) p w)).toInt64, rfl, ⟨rfl, if_pos (by decide)⟩, (by show va_P D vwCl _ t.heap; rw [ht]; exact P3)⟩, S3.F ht⟩) S3.2.2 dq_18 hlk
set_option maxHeartbeats 2000000 in
set_option maxRecDepth 100000 in
theorem lp_no (l : Launch) (hl : l.stackTraces = false) {g : Nat → Nat → Nat} {D : va_G} {cy : Nat → ClassId} {h : mm_H} {p w : Int} {sa sb out : Nat} {f : Nat → Int64} (hg : mm_inj g) (hno : ¬ mm_A g out) (hI : Inv h) (hp : mm_i32 p) (hw : mm_i32 w) (hy : ¬ ((0 ≤ p ∧ p < h 135 2) ∧ 0 ≤ w ∧ w ≤ 4)) :
    Met l lp_y lp_w lp_rm (va_Pc [.ref (g 0 0), .int (Int32.ofInt p), .int (Int32.ofInt w), .ref out] (lp_U g D cy h sa sb out f)) (lp_Q g D cy h out 1 (fun _ => True)) 1 6 (lp_A g out) := by
  refine va_MetW (cc := method_3_code) (maxL := 5) (ret := some .int) (hh := [(0, 10, 13, 13)]) (by decide +kernel) rfl ?_
  intro p9 e s m args below meth c s₁ B hml hPc
  obtain ⟨rfl, ⟨hP, hK, hZ, hN, hR⟩, hX9⟩ := hPc
  have hx := B.exec
  have hb := B.bytes
  have hr := B.returns
  have hts0 := atoms_spec (ws := lp_w) B.pre
  have hts : ∀ w ∈ mm_TW, w.before _ s = true := fun w hw => hts0 w (List.mem_cons_of_mem _ hw)
  have hown : s.vm.findClass "HiccupTownLaw" = some m.cls := findClass_of_methodNamed B.named
  have hlk := B.notSynchronized
  have htab := vx_table (x := lp_y) B (hts0 _ List.mem_cons_self)
  have hle := lv_entry ([.ref (g 0 0), .int (Int32.ofInt p), .int (Int32.ofInt w), .ref out]) (n := 5) (Nat.le_of_ble_eq_true rfl)
  rw [lg_entry_eq]
  generalize (lg_sl ([.ref (g 0 0), .int (Int32.ofInt p), .int (Int32.ofInt w), .ref out]) ++ List.replicate (5 - (lg_sl ([.ref (g 0 0), .int (Int32.ofInt p), .int (Int32.ofInt w), .ref out])).length) Slot.unset).toArray = ls at hle ⊢
  have h9 : lv_has ls 5 [(0, .ref (g 0 0)), (1, .int (Int32.ofInt p)), (2, .int (Int32.ofInt w)), (3, .ref out)] := hle
  refine lv_aload_n hx hb dq_0 rfl (lv_at h9 3 rfl) ?_
  refine lv_iconst (v := 0) hx hb dq_1 rfl ?_
  refine lv_aload_n hx hb dq_2 rfl (lv_at h9 0 rfl) ?_
  refine lv_iload_n hx hb dq_3 rfl (lv_at h9 1 rfl) ?_
  refine lv_iload_n hx hb dq_4 rfl (lv_at h9 2 rfl) ?_
  obtain ⟨-, hcode, hini, -, hinst, -, hmx, -, hn1, hn2, hpar⟩ := mm_q_ok (q := 284) (by decide)
  obtain ⟨hi1, hi2, r0, hr0, hrc, g1, g2⟩ := hinst rfl
  have hPm := lp_P1 hP
  have at0 : (mm_ws g cy h)[0]? = some (g 0 0, .inr (10, (List.range (mm_fn 20)).map fun k => mm_fv g h 0 k (mm_fcd 20 k))) := mm_at_obj (v := (20, 0)) ⟨by decide, by decide, by decide⟩ (by decide) (by decide)
  have hpre : PreV s s.heap (mm_y 284).cls (g 0 0) (va_Pc (Value.ref (g 0 0) :: [.int (Int32.ofInt p), .int (Int32.ofInt w)]) (fun U => mm_U g D cy h U ∧ ns_N sa sb (mm_A g) U U.heap)) [.int (Int32.ofInt p), .int (Int32.ofInt w)] := by
    refine ⟨pn_FB, ?_, fun U hU hW => ⟨rfl, ⟨by rw [hU]; exact hPm, va_K.moved hW.alike hK, by rw [hU]; exact (hZ.narrow (fun _ q => Or.inl q)).moved hW.alike, mm_nw.warm hW hN, hR⟩, by rw [hU]; exact (hX9.narrow (fun _ q => Or.inl q)).warm hW⟩⟩
    obtain ⟨r9, h9, cell, q1, q2, q3, q4⟩ := hPm 0 _ at0
    have er : r9 = r0 := Option.some.inj (h9.symm.trans hr0)
    subst er
    have hcls := (hK.1 _ _ h9).2
    refine ⟨cell, q1, by rw [q3]; rfl, ?_⟩
    rw [← hrc, q2]
    exact hcls.1
  have cw := callB_of (R := lp_rm) (own := "HiccupTownLaw") (index := 7) (mm_na 284) hts (mm_wqG (q := 284) (by decide)) rfl (rm := pn_rm) (mc := 1) (ms := 6) rfl rfl (hts _ hini) (hts _ (mm_tw6 1 rfl rfl)) ⟨hn1, hn2, hpar⟩ ⟨Nat.le_of_ble_eq_true rfl, Nat.le_of_ble_eq_true rfl⟩
  refine vx_calli (vx_runV (C := (mm_y 284).cls) (As := [.int (Int32.ofInt p), .int (Int32.ofInt w)]) (rest := [.int 0, .ref out]) ⟨hx, hb, hml, hown, hts⟩ (pn_met l hl (sa := sa) (sb := sb) (D := D) (cy := cy) hg hI hp hw hy) ⟨cw, hts _ hi1, hts _ hi2⟩ hpre rfl rfl h9.1 rfl (lv_room (by simp [Value.category])) dq_5 ⟨Nat.le_of_ble_eq_true rfl, Nat.le_of_ble_eq_true rfl⟩) (A0 := lp_A g out) va_S.rf (fun q _ z => Or.inl z) (fun q z => Or.inl z) (fun q _ z => Or.inl z) (fun E ce q9 u t H1 locs1 ht hvm hpx hBX hz hk hS1 hcell hcv hcl => ?_) (fun r u t H1 locs1 ht hvm hpost hB hz hk hS1 => hpost.elim)
  obtain ⟨hE, hP1⟩ := hBX
  subst hE
  rw [ht] at hP1
  have P2 : va_P D vwCl (lp_ws g cy h out f) H1 := hP1.app (lp_keep (lp_P2 hP) (hk out (lp_out (lp_P2 hP)) hno))
  refine vx_catch (own := "HiccupTownLaw") (name := nsX) hown [] ⟨0, 10, 13, 13⟩ [] (by rw [htab]; rfl) (fun z hz => nomatch hz) (by decide) (by decide) (hts _ (mm_tw6 0 rfl rfl)) (va_Nw.use rfl (hX9.1 _ List.mem_cons_self)) hcell hcv hcl ?_
  refine lv_astore (lv' := [(4, .ref q9), (0, .ref (g 0 0)), (1, .int (Int32.ofInt p)), (2, .int (Int32.ofInt w)), (3, .ref out)]) hx hb dq_13 h9 (by decide) rfl (fun ls2 h10 => ?_)
  refine lv_iconst (v := 1) hx hb dq_15 rfl ?_
  refine W.widen (k := 1) (n := 6) (by omega) (by omega) ?_
  exact W.iret hx hb hr (fun t ht hW => ⟨⟨1, f, rfl, ⟨rfl, trivial⟩, (by show va_P D vwCl _ t.heap; rw [ht]; exact P2)⟩, hS1.F ht⟩) hS1.2.2 dq_16 hlk
