/-! A call of a method of the small machine, from any room -/
section MD
variable {p : Program} {l : Launch} {e : Env} {R : Room} {s : State} {m : MethodId} {args : Array Value} {below : List Frame} {meth : Method} {c : Code} {H : Heap} {locs : List Loc} {cells slots : Nat} {Q : State → Prop}
theorem mm_callA {g : Nat → Nat → Nat} {D : va_G} {cy : Nat → ClassId} {t pc : Nat} {o : mm_O} {L : Array Slot} {st0 rest : List Value} {aa : Array Value} {H0 : Heap} {A : Nat → Prop} (hr : va_Run p l e R s m args below meth c H locs cells slots 0 0 (F0 m pc L st0) rest (mm_Q g D cy t o aa) (mm_A g)) (hS : va_S A H0 H locs) (hA : ∀ q, mm_A g q → A q)
    (kk : ∀ (H1 : Heap) (locs1 : List Loc), va_P D vwCl (mm_ws g cy o.2) H1 → va_S A H0 H1 locs1 → H.size ≤ H1.size → (∀ q : Nat, q < H.size → ¬ mm_A g q → H1[q]? = H[q]?) → W p l e R s m args below meth c H1 locs1 cells slots Q (F0 m (pc + 3) L ((mm_rv g t o.1).toList ++ rest))) : W p l e R s m args below meth c H locs cells slots Q (F0 m pc L st0) := by
  intro T hT X
  obtain ⟨v, st₀, u, T', L', h0, X', hL, e1, e2, ⟨hv, hP, hz, hk⟩, st⟩ := hr T hT X
  cases hv
  rw [h0] at hz hk
  obtain ⟨t2, a1, b1⟩ := kk T'.heap (locs ++ L') (by rw [e1]; exact hP)
    ⟨Nat.le_trans hS.1 (by rw [e1]; exact hz), fun q h1 h2 => by rw [e1, hk q (Nat.lt_of_lt_of_le h1 hS.1) (fun z => h2 (hA q z))]; exact hS.2.1 q h1 h2, fun q hq => by
      rcases List.mem_append.mp hq with h | h
      · exact hS.2.2 q h
      · exact hA _ (hL q h)⟩ (by rw [e1]; exact hz) (fun q h1 h2 => by rw [e1]; exact hk q h1 h2) T' rfl X'
  exact ⟨t2, st t2 a1, b1⟩
theorem mm_cv {own : String} {i pc q d nL : Nat} {cc : ByteArray} {g : Nat → Nat → Nat} {D : va_G} {cy : Nat → ClassId} {h : mm_H} {o : mm_O} {v : mm_V} {A0 : List mm_V} {rest : List Value} {L : Array Slot} {A : Nat → Prop}
    (hx : p.tables.exec = Jvm.exec) (hb : c.code = cc) (hml : c.maxLocals = nL) (hown : s.vm.findClass own = some m.cls) (hts : ∀ w ∈ mm_TW, w.before args s = true) (hg : mm_inj g) (hK : va_K D vwCl (mm_tys cy) s) (hN : mm_nw g s) (hstr : mm_str l)
    (hq : q < 286) (hsq : mm_sq q = 0) (hlink : Cond.methodLink own i (mm_y q) ∈ mm_TW) (hvt : v.1 = mm_xt (mm_xq q)) (hna : A0.length = mm_na q) (hv : ∀ x ∈ v :: A0, mm_vok x)
    (hrun : mm_M mm_prog (d + 1) q (v :: A0) h = some o)
    (hLs : L.size = nL) (hroom : (rest.map fun v => v.category).sum ≤ 8) (hR : d + 6 ≤ R.frames ∧ 60 * (d + 1) + 120 ≤ R.locals) (hc : cells ≤ R.cells) (hs : slots ≤ R.slots) (hd : decode cc pc = .ok (.invokevirtual i, 3))
    (hZ : mm_Z g (mm_A g) s H) (hr : mm_rg h) (hP : va_P D vwCl (mm_ws g cy h) H) (hS : va_S A s.heap H locs) (hA : ∀ q, mm_A g q → A q)
    (kk : ∀ (H1 : Heap) (locs1 : List Loc), mm_Z g (mm_A g) s H1 → mm_rg o.2 → va_P D vwCl (mm_ws g cy o.2) H1 → va_S A s.heap H1 locs1 → H.size ≤ H1.size → (∀ q : Nat, q < H.size → ¬ mm_A g q → H1[q]? = H[q]?) → W p l e R s m args below meth c H1 locs1 cells slots Q (F0 m (pc + 3) L ((mm_rv g (mm_rt q) o.1).toList ++ rest))) :
    W p l e R s m args below meth c H locs cells slots Q (F0 m pc L ((A0.map (mm_val g)).reverse ++ Value.ref (g 0 v.2.toNat) :: rest)) := by
  have hM := mm_met (l := l) (g := g) (D := D) (cy := cy) hstr hq hg hrun hv
  obtain ⟨-, hcode, hini, -, hinst, -, hmx, -, hn1, hn2, hpar⟩ := mm_q_ok hq
  obtain ⟨hi1, hi2, r0, hr0, hrc, g1, g2⟩ := hinst hsq
  have vv := hv v List.mem_cons_self
  have hat := mm_at_obj (g := g) (cy := cy) (h := h) vv (by rw [hvt]; exact g1) (by rw [hvt]; exact g2)
  rw [List.map_cons, mm_val_ref (by rw [hvt]; exact g1)] at hM
  have hpre : PreV s H (mm_y q).cls (g 0 v.2.toNat) (va_Pc (Value.ref (g 0 v.2.toNat) :: A0.map (mm_val g)) (mm_U g D cy h)) (A0.map (mm_val g)) := by
    refine ⟨mm_FB, ?_, fun U hU hW => ⟨rfl, by rw [hU]; exact hP, va_K.moved hW.alike hK, by rw [hU]; exact hZ.moved hW.alike, mm_nw.warm hW hN, hr⟩⟩
    obtain ⟨r9, h9, cell, q1, q2, q3, q4⟩ := hP v.2.toNat _ hat
    simp only at h9
    rw [hvt] at h9
    have er : r9 = r0 := Option.some.inj (h9.symm.trans hr0)
    subst er
    have hcls := (hK.1 _ _ h9).2
    refine ⟨cell, q1, by rw [q3]; rfl, ?_⟩
    rw [← hrc, q2, hvt]
    exact hcls.1
  have hR' : (mm_rm d).frames + 1 ≤ R.frames ∧ 8 + ((mm_prog q).2 + 11) + (mm_rm d).locals ≤ R.locals := ⟨by show d + 5 + 1 ≤ R.frames; omega, by show 8 + ((mm_prog q).2 + 11) + (60 * d + 120) ≤ R.locals; omega⟩
  have cw := callB_of (R := R) (own := own) (index := i) (mm_na q) hts (mm_wqG hq) rfl (rm := mm_rm d) rfl rfl (hts _ hini) (hts _ hlink) ⟨hn1, hn2, hpar⟩ hR'
  refine mm_callA (aa := _) (va_runV (C := (mm_y q).cls) (As := A0.map (mm_val g)) (rest := rest) ⟨hx, hb, hml, hown, hts⟩ hM ⟨cw, hts _ hi1, hts _ hi2⟩ hpre rfl (by rw [List.length_map]; exact hna) hLs rfl (lv_room hroom) hd ⟨hc, hs⟩) hS hA (fun H1 locs1 k1 k2 k3 k4 => ?_)
  exact kk H1 locs1 (hZ.kept k4) (mm_met_ro hq hrun hv hr).2 k1 k2 k3 k4
/-- a constructor's tail that makes nothing: the run of the small machine, from a room where something was made -/
theorem mm_tail {g : Nat → Nat → Nat} {D : va_G} {cy : Nat → ClassId} {q pc d : Nat} {ls : List mm_V} {h : mm_H} {o : mm_O} {L : Array Slot} {A : Nat → Prop} {Qc : Array Value → State → Outcome → State → Prop}
    (hx : p.tables.exec = Jvm.exec) (hb : c.code = mm_b q) (hml : c.maxLocals = (mm_prog q).2) (hrt : meth.sig.returnType = mm_r q) (hlk : meth.locks = false) (hown : s.vm.findClass (mm_xn (mm_xq q)) = some m.cls) (hts : ∀ w ∈ mm_TW, w.before args s = true) (hg : mm_inj g) (hK : va_K D vwCl (mm_tys cy) s) (hN : mm_nw g s) (hstr : mm_str l)
    (hq : q < 286) (hrun : mm_R mm_prog d (mm_prog q).1 pc ls [] h = some o) (hvl : mm_vl ls [] h) (hlen : ls.length = (mm_prog q).2)
    (hR : d + 5 ≤ R.frames ∧ 60 * d + 120 ≤ R.locals) (hc : cells ≤ R.cells) (hs : slots ≤ R.slots)
    (hZ : mm_Z g (mm_A g) s H) (hP : va_P D vwCl (mm_ws g cy h) H) (hS : va_S A s.heap H locs) (hA : ∀ q, mm_A g q → A q) (hL : mm_lr g ls L)
    (hend : ∀ (t : State), va_P D vwCl (mm_ws g cy o.2) t.heap → va_F A s t → Qc args s (.returned (mm_rv g (mm_rt q) o.1)) t) :
    W p l e R s m args below meth c H locs cells slots (MQ below Qc args s cells slots A) (F0 m pc L []) := by
  intro T hT X
  have Y := vx_rebase X (R' := mm_rm d) hR.1 hR.2 (by show cells + 0 ≤ R.cells; omega) (by show slots + 0 ≤ R.slots; omega)
  obtain ⟨s', hA'⟩ : ∃ z, z = (T.setVm s.vm).setFrames (.invoking m args :: below) := ⟨_, rfl⟩
  rw [← hA'] at Y
  have hvm : s'.vm = s.vm := by rw [hA']; rfl
  have hhp : s'.heap = H := by rw [hA']; exact hT
  have hW0 : s.WarmedH s'.vm := by rw [hvm]; exact State.WarmedH.refl s
  have hts' : ∀ w ∈ mm_TW, w.before args s' = true := fun w hw => word_at hW0 (good_of_word (List.mem_filter.mp hw).2) (hts w hw)
  have X' : mm_cx p s' m args meth c g D cy q := ⟨hx, hb, hml, hrt, hlk, by rw [hvm]; exact hown, hts', va_K.moved hW0.alike hK, by rw [hhp]; exact hZ.moved hW0.alike, mm_nw.warm hW0 hN, hg⟩
  obtain ⟨n, hn⟩ := (mm_R_iff _ _ _ _ _ _ _ _).mp hrun
  obtain ⟨t, st, oc, b1, b2, ⟨b3, b4, b5, b6⟩, L', b7, b8⟩ := mm_run hstr n d q pc ls [] h o hq hn hvl hlen p e s' m args below meth c g D cy X' H [] L hP (by rw [hhp]; exact va_S.rf) hL T hT Y
  subst b3
  rw [hhp] at b5 b6
  have hF : va_F A s t := ⟨Nat.le_trans hS.1 b5, fun z z1 z2 => by rw [b6 z (Nat.lt_of_lt_of_le z1 hS.1) (fun w => z2 (hA z w))]; exact hS.2.1 z z1 z2⟩
  obtain ⟨-, hW, hsame⟩ := b7
  have hall : s.sameButNew ({ t with vm := s.vm } : State) (locs ++ L') cells slots := by
    subst hA'
    obtain ⟨e1, e2⟩ := hsame
    rw [State.setFrames_setFrames] at e1
    have h2 : (T.setVm s.vm).sameButNew ({ t with vm := s.vm } : State) L' 0 0 := ⟨e1, e2⟩
    exact X.same.trans h2
  refine ⟨t, st, _, b1, b2, hend t b4 hF, locs ++ L', ⟨⟨_, rfl⟩, State.WarmedH.trans hW0 hW, hall⟩, fun z hz => ?_⟩
  rcases List.mem_append.mp hz with w | w
  · exact hS.2.2 z w
  · exact hA _ (b8 z w)
end MD
