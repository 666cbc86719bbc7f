/-! A step of the small machine is a step of the machine: numbers, locals, branches -/
theorem mm_toI {x : Int} (h : mm_i32 x) : (Int32.ofInt x).toInt = x := Int32.toInt_ofInt_of_le h.1 h.2
theorem mm_toL {x : Int} (h : mm_i64 x) : (Int64.ofInt x).toInt = x := Int64.toInt_ofInt_of_le h.1 h.2
theorem mm_ofw (x : Int) : Int32.ofInt (mm_w x) = Int32.ofInt x := by
  apply Int32.toInt_inj.mp
  rw [Int32.toInt_ofInt, Int32.toInt_ofInt]
  unfold mm_w
  simp [Int.bmod_bmod]
theorem mm_ofwl (x : Int) : Int64.ofInt (mm_wl x) = Int64.ofInt x := by
  apply Int64.toInt_inj.mp
  rw [Int64.toInt_ofInt, Int64.toInt_ofInt]
  unfold mm_wl
  simp [Int.bmod_bmod]
theorem mm_lt {x y : Int} (hx : mm_i32 x) (hy : mm_i32 y) : Int32.ofInt x < Int32.ofInt y ↔ x < y := by
  rw [Int32.lt_iff_toInt_lt, mm_toI hx, mm_toI hy]
theorem mm_le {x y : Int} (hx : mm_i32 x) (hy : mm_i32 y) : Int32.ofInt x ≤ Int32.ofInt y ↔ x ≤ y := by
  rw [Int32.le_iff_toInt_le, mm_toI hx, mm_toI hy]
theorem mm_eq {x y : Int} (hx : mm_i32 x) (hy : mm_i32 y) : Int32.ofInt x = Int32.ofInt y ↔ x = y := by
  constructor
  · intro q
    have := congrArg Int32.toInt q
    rw [mm_toI hx, mm_toI hy] at this
    exact this
  · rintro rfl
    rfl
theorem mm_ltL {x y : Int} (hx : mm_i64 x) (hy : mm_i64 y) : Int64.ofInt x < Int64.ofInt y ↔ x < y := by
  rw [Int64.lt_iff_toInt_lt, mm_toL hx, mm_toL hy]
theorem mm_eqL {x y : Int} (hx : mm_i64 x) (hy : mm_i64 y) : Int64.ofInt x = Int64.ofInt y ↔ x = y := by
  constructor
  · intro q
    have := congrArg Int64.toInt q
    rw [mm_toL hx, mm_toL hy] at this
    exact this
  · rintro rfl
    rfl
theorem mm_z0 : mm_i32 0 := ⟨by decide, by decide⟩
theorem mm_of0 : (Int32.ofInt 0) = 0 := rfl
theorem mm_byte {n : Int} (h1 : -128 ≤ n) (h2 : n < 128) : (Int8.ofInt n).toInt32 = Int32.ofInt n := by
  apply Int32.toInt_inj.mp
  rw [Int8.toInt_toInt32, Int8.toInt_ofInt_of_le h1 h2, mm_toI ⟨by omega, by omega⟩]
theorem mm_short {n : Int} (h1 : -32768 ≤ n) (h2 : n < 32768) : (Int16.ofInt n).toInt32 = Int32.ofInt n := by
  apply Int32.toInt_inj.mp
  rw [Int16.toInt_toInt32, Int16.toInt_ofInt_of_le h1 h2, mm_toI ⟨by omega, by omega⟩]
theorem mm_tgt {pc : Nat} {o : Int} (h : 0 ≤ (pc : Int) + o) : (pc : Int) + o = (mm_tg pc o : Int) := by
  unfold mm_tg
  omega
/-- what the activation of a method q rests on -/
def mm_cx (p : Program) (s : State) (m : MethodId) (args : Array Value) (meth : Method) (c : Code) (g : Nat → Nat → Nat) (D : va_G) (cy : Nat → ClassId) (q : Nat) : Prop :=
  p.tables.exec = Jvm.exec ∧ c.code = mm_b q ∧ c.maxLocals = (mm_prog q).2 ∧ meth.sig.returnType = mm_r q ∧ meth.locks = false ∧ s.vm.findClass (mm_xn (mm_xq q)) = some m.cls ∧ (∀ w ∈ mm_TW, w.before args s = true) ∧ va_K D vwCl (mm_tys cy) s ∧ mm_Z g (mm_A g) s s.heap ∧ mm_nw g s ∧ mm_inj g
def mm_G (p : Program) (l : Launch) (e : Env) (d : Nat) (s : State) (m : MethodId) (args : Array Value) (below : List Frame) (meth : Method) (c : Code) (g : Nat → Nat → Nat) (D : va_G) (cy : Nat → ClassId) (Q : State → Prop) (pc : Nat) (ls st : List mm_V) (h : mm_H) : Prop :=
  ∀ (H : Heap) (locs : List Loc) (L : Array Slot), va_P D vwCl (mm_ws g cy h) H → va_S (mm_A g) s.heap H locs → mm_lr g ls L → W p l e (mm_rm d) s m args below meth c H locs 0 0 Q (F0 m pc L (st.map (mm_val g)))
theorem mm_vref {g : Nat → Nat → Nat} {v : mm_V} (h0 : v.1 ≠ 0) (h1 : v.1 ≠ 1) : (∃ a, mm_val g v = .ref a) ∨ mm_val g v = .null := by
  obtain ⟨t, x⟩ := v
  unfold mm_val
  split
  · exact absurd ‹_› h0
  · exact absurd ‹_› h1
  · unfold va_rf
    split
    · exact Or.inr rfl
    · exact Or.inl ⟨_, rfl⟩
  all_goals first | exact Or.inl ⟨_, rfl⟩ | exact Or.inr rfl
section MS
variable {p : Program} {l : Launch} {e : Env} {d : Nat} {s : State} {m : MethodId} {args : Array Value} {below : List Frame} {meth : Method} {c : Code} {g : Nat → Nat → Nat} {D : va_G} {cy : Nat → ClassId} {Q : State → Prop} {q pc len : Nat} {ls st : List mm_V} {h : mm_H} {aux : List Nat} {val : Int}
variable {s' : Nat × List mm_V × List mm_V × mm_H}
theorem mm_sd_iconst (X : mm_cx p s m args meth c g D cy q) {n : Int} (hd : decode (mm_b q) pc = .ok (.iconst n, len)) (h2 : mm_ck2 (pc, .iconst n, len, aux, val) = true) (hv : mm_vl ls st h) (hs : mm_st (pc, .iconst n, len, aux, val) ls st h = some (.inr (.inl s'))) (K : mm_G p l e d s m args below meth c g D cy Q s'.1 s'.2.1 s'.2.2.1 s'.2.2.2) : mm_G p l e d s m args below meth c g D cy Q pc ls st h := by
  simp only [mm_st, mm_F] at hs
  obtain ⟨hx, hb, -⟩ := X
  intro H locs L hP hS hL
  simp only [mm_ck2, Bool.and_eq_true, beq_iff_eq, decide_eq_true_eq] at h2
  obtain ⟨rfl, hn⟩ := h2
  cases hs
  exact lv_iconst hx hb hd rfl (K H locs L hP hS hL)
theorem mm_sd_bipush (X : mm_cx p s m args meth c g D cy q) {n : Int} (hd : decode (mm_b q) pc = .ok (.bipush n, len)) (h2 : mm_ck2 (pc, .bipush n, len, aux, val) = true) (hv : mm_vl ls st h) (hs : mm_st (pc, .bipush n, len, aux, val) ls st h = some (.inr (.inl s'))) (K : mm_G p l e d s m args below meth c g D cy Q s'.1 s'.2.1 s'.2.2.1 s'.2.2.2) : mm_G p l e d s m args below meth c g D cy Q pc ls st h := by
  simp only [mm_st, mm_F] at hs
  obtain ⟨hx, hb, -⟩ := X
  intro H locs L hP hS hL
  simp only [mm_ck2, Bool.and_eq_true, beq_iff_eq, decide_eq_true_eq] at h2
  obtain ⟨rfl, hn⟩ := h2
  cases hs
  exact lv_bipush hx hb hd (mm_byte hn.1 hn.2) (K H locs L hP hS hL)
theorem mm_sd_sipush (X : mm_cx p s m args meth c g D cy q) {n : Int} (hd : decode (mm_b q) pc = .ok (.sipush n, len)) (h2 : mm_ck2 (pc, .sipush n, len, aux, val) = true) (hv : mm_vl ls st h) (hs : mm_st (pc, .sipush n, len, aux, val) ls st h = some (.inr (.inl s'))) (K : mm_G p l e d s m args below meth c g D cy Q s'.1 s'.2.1 s'.2.2.1 s'.2.2.2) : mm_G p l e d s m args below meth c g D cy Q pc ls st h := by
  simp only [mm_st, mm_F] at hs
  obtain ⟨hx, hb, -⟩ := X
  intro H locs L hP hS hL
  simp only [mm_ck2, Bool.and_eq_true, beq_iff_eq, decide_eq_true_eq] at h2
  obtain ⟨rfl, hn⟩ := h2
  cases hs
  exact lv_sipush hx hb hd (mm_short hn.1 hn.2) (K H locs L hP hS hL)
theorem mm_sd_lconst (X : mm_cx p s m args meth c g D cy q) {n : Fin 2} (hd : decode (mm_b q) pc = .ok (.lconst n, len)) (h2 : mm_ck2 (pc, .lconst n, len, aux, val) = true) (hv : mm_vl ls st h) (hs : mm_st (pc, .lconst n, len, aux, val) ls st h = some (.inr (.inl s'))) (K : mm_G p l e d s m args below meth c g D cy Q s'.1 s'.2.1 s'.2.2.1 s'.2.2.2) : mm_G p l e d s m args below meth c g D cy Q pc ls st h := by
  simp only [mm_st, mm_F] at hs
  obtain ⟨hx, hb, -⟩ := X
  intro H locs L hP hS hL
  have e0 : len = 1 := by simpa [mm_ck2, mm_ln] using h2
  subst e0
  cases hs
  refine lv_lconst hx hb hd (v := Int64.ofInt ((n : Nat) : Int)) ?_ (K H locs L hP hS hL)
  rfl
theorem mm_sd_iload_n (X : mm_cx p s m args meth c g D cy q) {i : Fin 4} (hd : decode (mm_b q) pc = .ok (.iload_n i, len)) (h2 : mm_ck2 (pc, .iload_n i, len, aux, val) = true) (hv : mm_vl ls st h) (hs : mm_st (pc, .iload_n i, len, aux, val) ls st h = some (.inr (.inl s'))) (K : mm_G p l e d s m args below meth c g D cy Q s'.1 s'.2.1 s'.2.2.1 s'.2.2.2) : mm_G p l e d s m args below meth c g D cy Q pc ls st h := by
  simp only [mm_st, mm_F] at hs
  obtain ⟨hx, hb, -⟩ := X
  intro H locs L hP hS hL
  have e0 : len = 1 := by simpa [mm_ck2, mm_ln] using h2
  subst e0
  obtain ⟨x, e1, hs⟩ := mm_ld_some hs
  cases hs
  exact lv_iload_n hx hb hd rfl (hL.2.2 _ _ e1 (by simp)).2 (K H locs L hP hS hL)
theorem mm_sd_iload (X : mm_cx p s m args meth c g D cy q) {i : Nat} (hd : decode (mm_b q) pc = .ok (.iload i, len)) (h2 : mm_ck2 (pc, .iload i, len, aux, val) = true) (hv : mm_vl ls st h) (hs : mm_st (pc, .iload i, len, aux, val) ls st h = some (.inr (.inl s'))) (K : mm_G p l e d s m args below meth c g D cy Q s'.1 s'.2.1 s'.2.2.1 s'.2.2.2) : mm_G p l e d s m args below meth c g D cy Q pc ls st h := by
  simp only [mm_st, mm_F] at hs
  obtain ⟨hx, hb, -⟩ := X
  intro H locs L hP hS hL
  have e0 : len = 2 := by simpa [mm_ck2, mm_ln] using h2
  subst e0
  obtain ⟨x, e1, hs⟩ := mm_ld_some hs
  cases hs
  exact lv_iload hx hb hd (hL.2.2 _ _ e1 (by simp)).2 (K H locs L hP hS hL)
theorem mm_sd_lload_n (X : mm_cx p s m args meth c g D cy q) {i : Fin 4} (hd : decode (mm_b q) pc = .ok (.lload_n i, len)) (h2 : mm_ck2 (pc, .lload_n i, len, aux, val) = true) (hv : mm_vl ls st h) (hs : mm_st (pc, .lload_n i, len, aux, val) ls st h = some (.inr (.inl s'))) (K : mm_G p l e d s m args below meth c g D cy Q s'.1 s'.2.1 s'.2.2.1 s'.2.2.2) : mm_G p l e d s m args below meth c g D cy Q pc ls st h := by
  simp only [mm_st, mm_F] at hs
  obtain ⟨hx, hb, -⟩ := X
  intro H locs L hP hS hL
  have e0 : len = 1 := by simpa [mm_ck2, mm_ln] using h2
  subst e0
  obtain ⟨x, e1, hs⟩ := mm_ld_some hs
  cases hs
  exact lv_lload_n hx hb hd rfl (hL.2.2 _ _ e1 (by simp)).2 (K H locs L hP hS hL)
theorem mm_sd_lload (X : mm_cx p s m args meth c g D cy q) {i : Nat} (hd : decode (mm_b q) pc = .ok (.lload i, len)) (h2 : mm_ck2 (pc, .lload i, len, aux, val) = true) (hv : mm_vl ls st h) (hs : mm_st (pc, .lload i, len, aux, val) ls st h = some (.inr (.inl s'))) (K : mm_G p l e d s m args below meth c g D cy Q s'.1 s'.2.1 s'.2.2.1 s'.2.2.2) : mm_G p l e d s m args below meth c g D cy Q pc ls st h := by
  simp only [mm_st, mm_F] at hs
  obtain ⟨hx, hb, -⟩ := X
  intro H locs L hP hS hL
  have e0 : len = 2 := by simpa [mm_ck2, mm_ln] using h2
  subst e0
  obtain ⟨x, e1, hs⟩ := mm_ld_some hs
  cases hs
  exact lv_lload hx hb hd (hL.2.2 _ _ e1 (by simp)).2 (K H locs L hP hS hL)
theorem mm_sd_aload_n (X : mm_cx p s m args meth c g D cy q) {i : Fin 4} (hd : decode (mm_b q) pc = .ok (.aload_n i, len)) (h2 : mm_ck2 (pc, .aload_n i, len, aux, val) = true) (hv : mm_vl ls st h) (hs : mm_st (pc, .aload_n i, len, aux, val) ls st h = some (.inr (.inl s'))) (K : mm_G p l e d s m args below meth c g D cy Q s'.1 s'.2.1 s'.2.2.1 s'.2.2.2) : mm_G p l e d s m args below meth c g D cy Q pc ls st h := by
  simp only [mm_st, mm_F] at hs
  obtain ⟨hx, hb, -⟩ := X
  intro H locs L hP hS hL
  have e0 : len = 1 := by simpa [mm_ck2, mm_ln] using h2
  subst e0
  obtain ⟨v, e1, n0, n1, n9, hs⟩ := mm_la_some hs
  cases hs
  have k := K H locs L hP hS hL
  have r := (hL.2.2 _ _ e1 n9).2
  simp only [List.map_cons] at k
  rcases mm_vref (g := g) n0 n1 with ⟨a, ea⟩ | ea
  · rw [ea] at k r
    exact lv_aload_n hx hb hd rfl r k
  · rw [ea] at k r
    exact lv_aload_nN hx hb hd rfl r k
theorem mm_sd_aload (X : mm_cx p s m args meth c g D cy q) {i : Nat} (hd : decode (mm_b q) pc = .ok (.aload i, len)) (h2 : mm_ck2 (pc, .aload i, len, aux, val) = true) (hv : mm_vl ls st h) (hs : mm_st (pc, .aload i, len, aux, val) ls st h = some (.inr (.inl s'))) (K : mm_G p l e d s m args below meth c g D cy Q s'.1 s'.2.1 s'.2.2.1 s'.2.2.2) : mm_G p l e d s m args below meth c g D cy Q pc ls st h := by
  simp only [mm_st, mm_F] at hs
  obtain ⟨hx, hb, -⟩ := X
  intro H locs L hP hS hL
  have e0 : len = 2 := by simpa [mm_ck2, mm_ln] using h2
  subst e0
  obtain ⟨v, e1, n0, n1, n9, hs⟩ := mm_la_some hs
  cases hs
  have k := K H locs L hP hS hL
  have r := (hL.2.2 _ _ e1 n9).2
  simp only [List.map_cons] at k
  rcases mm_vref (g := g) n0 n1 with ⟨a, ea⟩ | ea
  · rw [ea] at k r
    exact lv_aload hx hb hd r k
  · rw [ea] at k r
    exact lv_aloadN hx hb hd r k
theorem mm_sd_istore_n (X : mm_cx p s m args meth c g D cy q) {i : Fin 4} (hd : decode (mm_b q) pc = .ok (.istore_n i, len)) (h2 : mm_ck2 (pc, .istore_n i, len, aux, val) = true) (hv : mm_vl ls st h) (hs : mm_st (pc, .istore_n i, len, aux, val) ls st h = some (.inr (.inl s'))) (K : mm_G p l e d s m args below meth c g D cy Q s'.1 s'.2.1 s'.2.2.1 s'.2.2.2) : mm_G p l e d s m args below meth c g D cy Q pc ls st h := by
  simp only [mm_st, mm_F] at hs
  obtain ⟨hx, hb, -⟩ := X
  intro H locs L hP hS hL
  have e0 : len = 1 := by simpa [mm_ck2, mm_ln] using h2
  subst e0
  obtain ⟨x, r, rfl, ht⟩ := mm_t1_some hs; clear hs; have hs := ht; clear ht
  obtain ⟨b1, b2, hs⟩ := mm_s1_some hs
  cases hs
  exact lv_istore_n hx hb hd rfl (mm_lr_has hL) b1 rfl (fun L' hl => K H locs L' hP hS (mm_lr_set hL hv.pop.1 b2 hl))
theorem mm_sd_istore (X : mm_cx p s m args meth c g D cy q) {i : Nat} (hd : decode (mm_b q) pc = .ok (.istore i, len)) (h2 : mm_ck2 (pc, .istore i, len, aux, val) = true) (hv : mm_vl ls st h) (hs : mm_st (pc, .istore i, len, aux, val) ls st h = some (.inr (.inl s'))) (K : mm_G p l e d s m args below meth c g D cy Q s'.1 s'.2.1 s'.2.2.1 s'.2.2.2) : mm_G p l e d s m args below meth c g D cy Q pc ls st h := by
  simp only [mm_st, mm_F] at hs
  obtain ⟨hx, hb, -⟩ := X
  intro H locs L hP hS hL
  have e0 : len = 2 := by simpa [mm_ck2, mm_ln] using h2
  subst e0
  obtain ⟨x, r, rfl, ht⟩ := mm_t1_some hs; clear hs; have hs := ht; clear ht
  obtain ⟨b1, b2, hs⟩ := mm_s1_some hs
  cases hs
  exact lv_istore hx hb hd (mm_lr_has hL) b1 rfl (fun L' hl => K H locs L' hP hS (mm_lr_set hL hv.pop.1 b2 hl))
theorem mm_sd_lstore_n (X : mm_cx p s m args meth c g D cy q) {i : Fin 4} (hd : decode (mm_b q) pc = .ok (.lstore_n i, len)) (h2 : mm_ck2 (pc, .lstore_n i, len, aux, val) = true) (hv : mm_vl ls st h) (hs : mm_st (pc, .lstore_n i, len, aux, val) ls st h = some (.inr (.inl s'))) (K : mm_G p l e d s m args below meth c g D cy Q s'.1 s'.2.1 s'.2.2.1 s'.2.2.2) : mm_G p l e d s m args below meth c g D cy Q pc ls st h := by
  simp only [mm_st, mm_F] at hs
  obtain ⟨hx, hb, -⟩ := X
  intro H locs L hP hS hL
  have e0 : len = 1 := by simpa [mm_ck2, mm_ln] using h2
  subst e0
  obtain ⟨x, r, rfl, ht⟩ := mm_t1_some hs; clear hs; have hs := ht; clear ht
  obtain ⟨b1, b2, hs⟩ := mm_s2_some hs
  cases hs
  exact lv_lstore_n hx hb hd rfl (mm_lr_has hL) b1 rfl (fun L' hl => K H locs L' hP hS (mm_lr_set2 hL hv.pop.1 b2 b1 hl))
theorem mm_sd_lstore (X : mm_cx p s m args meth c g D cy q) {i : Nat} (hd : decode (mm_b q) pc = .ok (.lstore i, len)) (h2 : mm_ck2 (pc, .lstore i, len, aux, val) = true) (hv : mm_vl ls st h) (hs : mm_st (pc, .lstore i, len, aux, val) ls st h = some (.inr (.inl s'))) (K : mm_G p l e d s m args below meth c g D cy Q s'.1 s'.2.1 s'.2.2.1 s'.2.2.2) : mm_G p l e d s m args below meth c g D cy Q pc ls st h := by
  simp only [mm_st, mm_F] at hs
  obtain ⟨hx, hb, -⟩ := X
  intro H locs L hP hS hL
  have e0 : len = 2 := by simpa [mm_ck2, mm_ln] using h2
  subst e0
  obtain ⟨x, r, rfl, ht⟩ := mm_t1_some hs; clear hs; have hs := ht; clear ht
  obtain ⟨b1, b2, hs⟩ := mm_s2_some hs
  cases hs
  exact lv_lstore hx hb hd (mm_lr_has hL) b1 rfl (fun L' hl => K H locs L' hP hS (mm_lr_set2 hL hv.pop.1 b2 b1 hl))
theorem mm_sd_astore_n (X : mm_cx p s m args meth c g D cy q) {i : Fin 4} (hd : decode (mm_b q) pc = .ok (.astore_n i, len)) (h2 : mm_ck2 (pc, .astore_n i, len, aux, val) = true) (hv : mm_vl ls st h) (hs : mm_st (pc, .astore_n i, len, aux, val) ls st h = some (.inr (.inl s'))) (K : mm_G p l e d s m args below meth c g D cy Q s'.1 s'.2.1 s'.2.2.1 s'.2.2.2) : mm_G p l e d s m args below meth c g D cy Q pc ls st h := by
  simp only [mm_st, mm_F] at hs
  obtain ⟨hx, hb, -⟩ := X
  intro H locs L hP hS hL
  have e0 : len = 1 := by simpa [mm_ck2, mm_ln] using h2
  subst e0
  obtain ⟨v, r, rfl, n1, n9, ht⟩ := mm_an_some hs; clear hs; have hs := ht; clear ht
  rw [show (bif v.1 == 0 then (none : mm_S) else _) = bif !(v.1 == 0) then _ else none by cases v.1 == 0 <;> rfl] at hs
  obtain ⟨n0, hs⟩ := mm_bf_some hs
  have n0 : v.1 ≠ 0 := by simpa using n0
  obtain ⟨b1, b2, hs⟩ := mm_s1_some hs
  cases hs
  simp only [List.map_cons]
  rcases mm_vref (g := g) n0 n1 with ⟨a, ea⟩ | ea
  · rw [ea]
    exact lv_astore_n hx hb hd rfl (mm_lr_has hL) b1 rfl (fun L' hl => K H locs L' hP hS (mm_lr_set hL hv.pop.1 b2 (by rw [ea]; exact hl)))
  · rw [ea]
    exact lv_astore_nN hx hb hd rfl (mm_lr_has hL) b1 rfl (fun L' hl => K H locs L' hP hS (mm_lr_set hL hv.pop.1 b2 (by rw [ea]; exact hl)))
theorem mm_sd_astore (X : mm_cx p s m args meth c g D cy q) {i : Nat} (hd : decode (mm_b q) pc = .ok (.astore i, len)) (h2 : mm_ck2 (pc, .astore i, len, aux, val) = true) (hv : mm_vl ls st h) (hs : mm_st (pc, .astore i, len, aux, val) ls st h = some (.inr (.inl s'))) (K : mm_G p l e d s m args below meth c g D cy Q s'.1 s'.2.1 s'.2.2.1 s'.2.2.2) : mm_G p l e d s m args below meth c g D cy Q pc ls st h := by
  simp only [mm_st, mm_F] at hs
  obtain ⟨hx, hb, -⟩ := X
  intro H locs L hP hS hL
  have e0 : len = 2 := by simpa [mm_ck2, mm_ln] using h2
  subst e0
  obtain ⟨v, r, rfl, n1, n9, ht⟩ := mm_an_some hs; clear hs; have hs := ht; clear ht
  rw [show (bif v.1 == 0 then (none : mm_S) else _) = bif !(v.1 == 0) then _ else none by cases v.1 == 0 <;> rfl] at hs
  obtain ⟨n0, hs⟩ := mm_bf_some hs
  have n0 : v.1 ≠ 0 := by simpa using n0
  obtain ⟨b1, b2, hs⟩ := mm_s1_some hs
  cases hs
  simp only [List.map_cons]
  rcases mm_vref (g := g) n0 n1 with ⟨a, ea⟩ | ea
  · rw [ea]
    exact lv_astore hx hb hd (mm_lr_has hL) b1 rfl (fun L' hl => K H locs L' hP hS (mm_lr_set hL hv.pop.1 b2 (by rw [ea]; exact hl)))
  · rw [ea]
    exact lv_astoreN hx hb hd (mm_lr_has hL) b1 rfl (fun L' hl => K H locs L' hP hS (mm_lr_set hL hv.pop.1 b2 (by rw [ea]; exact hl)))
theorem mm_sd_iinc (X : mm_cx p s m args meth c g D cy q) {i : Nat} {n : Int} (hd : decode (mm_b q) pc = .ok (.iinc i n, len)) (h2 : mm_ck2 (pc, .iinc i n, len, aux, val) = true) (hv : mm_vl ls st h) (hs : mm_st (pc, .iinc i n, len, aux, val) ls st h = some (.inr (.inl s'))) (K : mm_G p l e d s m args below meth c g D cy Q s'.1 s'.2.1 s'.2.2.1 s'.2.2.2) : mm_G p l e d s m args below meth c g D cy Q pc ls st h := by
  simp only [mm_st, mm_F] at hs
  obtain ⟨hx, hb, -⟩ := X
  intro H locs L hP hS hL
  have e0 : len = 3 := by simpa [mm_ck2, mm_ln] using h2
  subst e0
  obtain ⟨x, e1, hs⟩ := mm_ld_some hs
  obtain ⟨b1, b2, hs⟩ := mm_s1_some hs
  cases hs
  obtain ⟨k, hk⟩ := List.getElem?_of_mem (mm_ll_mem (g := g) (q := (i, mm_val g (0, x))) |>.mpr ⟨_, e1, by simp, rfl⟩)
  refine lv_iinc hx hb hd (mm_lr_has hL) (k := k) (x := Int32.ofInt x) (v := Int32.ofInt (mm_w (x + n))) hk (by rw [mm_ofw, Int32.ofInt_add]) b1 rfl (fun L' hl => K H locs L' hP hS (mm_lr_set hL (v := (0, _)) (mm_w_ok _) b2 hl))
theorem mm_sd_iadd (X : mm_cx p s m args meth c g D cy q) (hd : decode (mm_b q) pc = .ok (.iadd, len)) (h2 : mm_ck2 (pc, .iadd, len, aux, val) = true) (hv : mm_vl ls st h) (hs : mm_st (pc, .iadd, len, aux, val) ls st h = some (.inr (.inl s'))) (K : mm_G p l e d s m args below meth c g D cy Q s'.1 s'.2.1 s'.2.2.1 s'.2.2.2) : mm_G p l e d s m args below meth c g D cy Q pc ls st h := by
  simp only [mm_st, mm_F] at hs
  obtain ⟨hx, hb, -⟩ := X
  intro H locs L hP hS hL
  have e0 : len = 1 := by simpa [mm_ck2, mm_ln] using h2
  subst e0
  obtain ⟨y, r, rfl, ht⟩ := mm_t1_some hs; clear hs; have hs := ht; clear ht
  obtain ⟨x, r, rfl, ht⟩ := mm_t1_some hs; clear hs; have hs := ht; clear ht
  cases hs
  refine lv_iadd hx hb hd ?_
  rw [← Int32.ofInt_add, ← mm_ofw]
  exact K H locs L hP hS hL
theorem mm_sd_isub (X : mm_cx p s m args meth c g D cy q) (hd : decode (mm_b q) pc = .ok (.isub, len)) (h2 : mm_ck2 (pc, .isub, len, aux, val) = true) (hv : mm_vl ls st h) (hs : mm_st (pc, .isub, len, aux, val) ls st h = some (.inr (.inl s'))) (K : mm_G p l e d s m args below meth c g D cy Q s'.1 s'.2.1 s'.2.2.1 s'.2.2.2) : mm_G p l e d s m args below meth c g D cy Q pc ls st h := by
  simp only [mm_st, mm_F] at hs
  obtain ⟨hx, hb, -⟩ := X
  intro H locs L hP hS hL
  have e0 : len = 1 := by simpa [mm_ck2, mm_ln] using h2
  subst e0
  obtain ⟨y, r, rfl, ht⟩ := mm_t1_some hs; clear hs; have hs := ht; clear ht
  obtain ⟨x, r, rfl, ht⟩ := mm_t1_some hs; clear hs; have hs := ht; clear ht
  cases hs
  refine lv_isub hx hb hd ?_
  rw [← Int32.ofInt_sub, ← mm_ofw]
  exact K H locs L hP hS hL
theorem mm_sd_imul (X : mm_cx p s m args meth c g D cy q) (hd : decode (mm_b q) pc = .ok (.imul, len)) (h2 : mm_ck2 (pc, .imul, len, aux, val) = true) (hv : mm_vl ls st h) (hs : mm_st (pc, .imul, len, aux, val) ls st h = some (.inr (.inl s'))) (K : mm_G p l e d s m args below meth c g D cy Q s'.1 s'.2.1 s'.2.2.1 s'.2.2.2) : mm_G p l e d s m args below meth c g D cy Q pc ls st h := by
  simp only [mm_st, mm_F] at hs
  obtain ⟨hx, hb, -⟩ := X
  intro H locs L hP hS hL
  have e0 : len = 1 := by simpa [mm_ck2, mm_ln] using h2
  subst e0
  obtain ⟨y, r, rfl, ht⟩ := mm_t1_some hs; clear hs; have hs := ht; clear ht
  obtain ⟨x, r, rfl, ht⟩ := mm_t1_some hs; clear hs; have hs := ht; clear ht
  cases hs
  refine lv_imul hx hb hd ?_
  rw [← Int32.ofInt_mul, ← mm_ofw]
  exact K H locs L hP hS hL
theorem mm_sd_idiv (X : mm_cx p s m args meth c g D cy q) (hd : decode (mm_b q) pc = .ok (.idiv, len)) (h2 : mm_ck2 (pc, .idiv, len, aux, val) = true) (hv : mm_vl ls st h) (hs : mm_st (pc, .idiv, len, aux, val) ls st h = some (.inr (.inl s'))) (K : mm_G p l e d s m args below meth c g D cy Q s'.1 s'.2.1 s'.2.2.1 s'.2.2.2) : mm_G p l e d s m args below meth c g D cy Q pc ls st h := by
  simp only [mm_st, mm_F] at hs
  obtain ⟨hx, hb, -⟩ := X
  intro H locs L hP hS hL
  have e0 : len = 1 := by simpa [mm_ck2, mm_ln] using h2
  subst e0
  obtain ⟨y, r, rfl, ht⟩ := mm_t1_some hs; clear hs; have hs := ht; clear ht
  obtain ⟨x, r, rfl, ht⟩ := mm_t1_some hs; clear hs; have hs := ht; clear ht
  obtain ⟨hy, hs⟩ := mm_ifn_some hs
  cases hs
  have k := K H locs L hP hS hL
  simp only [List.map_cons, mm_val, mm_div, Int32.ofInt_toInt] at k
  refine lv_idiv hx hb hd (fun w => hy ?_) k
  exact (mm_eq (show mm_i32 y from hv.pop.1) mm_z0).mp w
theorem mm_sd_irem (X : mm_cx p s m args meth c g D cy q) (hd : decode (mm_b q) pc = .ok (.irem, len)) (h2 : mm_ck2 (pc, .irem, len, aux, val) = true) (hv : mm_vl ls st h) (hs : mm_st (pc, .irem, len, aux, val) ls st h = some (.inr (.inl s'))) (K : mm_G p l e d s m args below meth c g D cy Q s'.1 s'.2.1 s'.2.2.1 s'.2.2.2) : mm_G p l e d s m args below meth c g D cy Q pc ls st h := by
  simp only [mm_st, mm_F] at hs
  obtain ⟨hx, hb, -⟩ := X
  intro H locs L hP hS hL
  have e0 : len = 1 := by simpa [mm_ck2, mm_ln] using h2
  subst e0
  obtain ⟨y, r, rfl, ht⟩ := mm_t1_some hs; clear hs; have hs := ht; clear ht
  obtain ⟨x, r, rfl, ht⟩ := mm_t1_some hs; clear hs; have hs := ht; clear ht
  obtain ⟨hy, hs⟩ := mm_ifn_some hs
  cases hs
  have k := K H locs L hP hS hL
  simp only [List.map_cons, mm_val, mm_rem, Int32.ofInt_toInt] at k
  refine lv_irem hx hb hd (fun w => hy ?_) k
  exact (mm_eq (show mm_i32 y from hv.pop.1) mm_z0).mp w
theorem mm_sd_ineg (X : mm_cx p s m args meth c g D cy q) (hd : decode (mm_b q) pc = .ok (.ineg, len)) (h2 : mm_ck2 (pc, .ineg, len, aux, val) = true) (hv : mm_vl ls st h) (hs : mm_st (pc, .ineg, len, aux, val) ls st h = some (.inr (.inl s'))) (K : mm_G p l e d s m args below meth c g D cy Q s'.1 s'.2.1 s'.2.2.1 s'.2.2.2) : mm_G p l e d s m args below meth c g D cy Q pc ls st h := by
  simp only [mm_st, mm_F] at hs
  obtain ⟨hx, hb, -⟩ := X
  intro H locs L hP hS hL
  have e0 : len = 1 := by simpa [mm_ck2, mm_ln] using h2
  subst e0
  obtain ⟨x, r, rfl, ht⟩ := mm_t1_some hs; clear hs; have hs := ht; clear ht
  cases hs
  refine lv_ineg hx hb hd ?_
  rw [← Int32.ofInt_neg, ← mm_ofw]
  exact K H locs L hP hS hL
theorem mm_sd_iand (X : mm_cx p s m args meth c g D cy q) (hd : decode (mm_b q) pc = .ok (.iand, len)) (h2 : mm_ck2 (pc, .iand, len, aux, val) = true) (hv : mm_vl ls st h) (hs : mm_st (pc, .iand, len, aux, val) ls st h = some (.inr (.inl s'))) (K : mm_G p l e d s m args below meth c g D cy Q s'.1 s'.2.1 s'.2.2.1 s'.2.2.2) : mm_G p l e d s m args below meth c g D cy Q pc ls st h := by
  simp only [mm_st, mm_F] at hs
  obtain ⟨hx, hb, -⟩ := X
  intro H locs L hP hS hL
  have e0 : len = 1 := by simpa [mm_ck2, mm_ln] using h2
  subst e0
  obtain ⟨y, r, rfl, ht⟩ := mm_t1_some hs; clear hs; have hs := ht; clear ht
  obtain ⟨x, r, rfl, ht⟩ := mm_t1_some hs; clear hs; have hs := ht; clear ht
  cases hs
  have k := K H locs L hP hS hL
  simp only [List.map_cons, mm_val, mm_and, Int32.ofInt_toInt] at k
  exact lv_iand hx hb hd k
theorem mm_sd_ior (X : mm_cx p s m args meth c g D cy q) (hd : decode (mm_b q) pc = .ok (.ior, len)) (h2 : mm_ck2 (pc, .ior, len, aux, val) = true) (hv : mm_vl ls st h) (hs : mm_st (pc, .ior, len, aux, val) ls st h = some (.inr (.inl s'))) (K : mm_G p l e d s m args below meth c g D cy Q s'.1 s'.2.1 s'.2.2.1 s'.2.2.2) : mm_G p l e d s m args below meth c g D cy Q pc ls st h := by
  simp only [mm_st, mm_F] at hs
  obtain ⟨hx, hb, -⟩ := X
  intro H locs L hP hS hL
  have e0 : len = 1 := by simpa [mm_ck2, mm_ln] using h2
  subst e0
  obtain ⟨y, r, rfl, ht⟩ := mm_t1_some hs; clear hs; have hs := ht; clear ht
  obtain ⟨x, r, rfl, ht⟩ := mm_t1_some hs; clear hs; have hs := ht; clear ht
  cases hs
  have k := K H locs L hP hS hL
  simp only [List.map_cons, mm_val, mm_or, Int32.ofInt_toInt] at k
  exact lv_ior hx hb hd k
theorem mm_sd_ixor (X : mm_cx p s m args meth c g D cy q) (hd : decode (mm_b q) pc = .ok (.ixor, len)) (h2 : mm_ck2 (pc, .ixor, len, aux, val) = true) (hv : mm_vl ls st h) (hs : mm_st (pc, .ixor, len, aux, val) ls st h = some (.inr (.inl s'))) (K : mm_G p l e d s m args below meth c g D cy Q s'.1 s'.2.1 s'.2.2.1 s'.2.2.2) : mm_G p l e d s m args below meth c g D cy Q pc ls st h := by
  simp only [mm_st, mm_F] at hs
  obtain ⟨hx, hb, -⟩ := X
  intro H locs L hP hS hL
  have e0 : len = 1 := by simpa [mm_ck2, mm_ln] using h2
  subst e0
  obtain ⟨y, r, rfl, ht⟩ := mm_t1_some hs; clear hs; have hs := ht; clear ht
  obtain ⟨x, r, rfl, ht⟩ := mm_t1_some hs; clear hs; have hs := ht; clear ht
  cases hs
  have k := K H locs L hP hS hL
  simp only [List.map_cons, mm_val, mm_xor, Int32.ofInt_toInt] at k
  exact lv_ixor hx hb hd k
theorem mm_sd_ishl (X : mm_cx p s m args meth c g D cy q) (hd : decode (mm_b q) pc = .ok (.ishl, len)) (h2 : mm_ck2 (pc, .ishl, len, aux, val) = true) (hv : mm_vl ls st h) (hs : mm_st (pc, .ishl, len, aux, val) ls st h = some (.inr (.inl s'))) (K : mm_G p l e d s m args below meth c g D cy Q s'.1 s'.2.1 s'.2.2.1 s'.2.2.2) : mm_G p l e d s m args below meth c g D cy Q pc ls st h := by
  simp only [mm_st, mm_F] at hs
  obtain ⟨hx, hb, -⟩ := X
  intro H locs L hP hS hL
  have e0 : len = 1 := by simpa [mm_ck2, mm_ln] using h2
  subst e0
  obtain ⟨y, r, rfl, ht⟩ := mm_t1_some hs; clear hs; have hs := ht; clear ht
  obtain ⟨x, r, rfl, ht⟩ := mm_t1_some hs; clear hs; have hs := ht; clear ht
  cases hs
  have k := K H locs L hP hS hL
  simp only [List.map_cons, mm_val, mm_shl, Int32.ofInt_toInt] at k
  exact lv_ishl hx hb hd k
theorem mm_sd_ishr (X : mm_cx p s m args meth c g D cy q) (hd : decode (mm_b q) pc = .ok (.ishr, len)) (h2 : mm_ck2 (pc, .ishr, len, aux, val) = true) (hv : mm_vl ls st h) (hs : mm_st (pc, .ishr, len, aux, val) ls st h = some (.inr (.inl s'))) (K : mm_G p l e d s m args below meth c g D cy Q s'.1 s'.2.1 s'.2.2.1 s'.2.2.2) : mm_G p l e d s m args below meth c g D cy Q pc ls st h := by
  simp only [mm_st, mm_F] at hs
  obtain ⟨hx, hb, -⟩ := X
  intro H locs L hP hS hL
  have e0 : len = 1 := by simpa [mm_ck2, mm_ln] using h2
  subst e0
  obtain ⟨y, r, rfl, ht⟩ := mm_t1_some hs; clear hs; have hs := ht; clear ht
  obtain ⟨x, r, rfl, ht⟩ := mm_t1_some hs; clear hs; have hs := ht; clear ht
  cases hs
  have k := K H locs L hP hS hL
  simp only [List.map_cons, mm_val, mm_shr, Int32.ofInt_toInt] at k
  exact lv_ishr hx hb hd k
theorem mm_sd_iushr (X : mm_cx p s m args meth c g D cy q) (hd : decode (mm_b q) pc = .ok (.iushr, len)) (h2 : mm_ck2 (pc, .iushr, len, aux, val) = true) (hv : mm_vl ls st h) (hs : mm_st (pc, .iushr, len, aux, val) ls st h = some (.inr (.inl s'))) (K : mm_G p l e d s m args below meth c g D cy Q s'.1 s'.2.1 s'.2.2.1 s'.2.2.2) : mm_G p l e d s m args below meth c g D cy Q pc ls st h := by
  simp only [mm_st, mm_F] at hs
  obtain ⟨hx, hb, -⟩ := X
  intro H locs L hP hS hL
  have e0 : len = 1 := by simpa [mm_ck2, mm_ln] using h2
  subst e0
  obtain ⟨y, r, rfl, ht⟩ := mm_t1_some hs; clear hs; have hs := ht; clear ht
  obtain ⟨x, r, rfl, ht⟩ := mm_t1_some hs; clear hs; have hs := ht; clear ht
  cases hs
  have k := K H locs L hP hS hL
  simp only [List.map_cons, mm_val, mm_ushr, Int32.ofInt_toInt] at k
  exact lv_iushr hx hb hd rfl k
theorem mm_sd_ladd (X : mm_cx p s m args meth c g D cy q) (hd : decode (mm_b q) pc = .ok (.ladd, len)) (h2 : mm_ck2 (pc, .ladd, len, aux, val) = true) (hv : mm_vl ls st h) (hs : mm_st (pc, .ladd, len, aux, val) ls st h = some (.inr (.inl s'))) (K : mm_G p l e d s m args below meth c g D cy Q s'.1 s'.2.1 s'.2.2.1 s'.2.2.2) : mm_G p l e d s m args below meth c g D cy Q pc ls st h := by
  simp only [mm_st, mm_F] at hs
  obtain ⟨hx, hb, -⟩ := X
  intro H locs L hP hS hL
  have e0 : len = 1 := by simpa [mm_ck2, mm_ln] using h2
  subst e0
  obtain ⟨y, r, rfl, ht⟩ := mm_t1_some hs; clear hs; have hs := ht; clear ht
  obtain ⟨x, r, rfl, ht⟩ := mm_t1_some hs; clear hs; have hs := ht; clear ht
  cases hs
  refine lv_ladd hx hb hd ?_
  rw [← Int64.ofInt_add, ← mm_ofwl]
  exact K H locs L hP hS hL
theorem mm_sd_lsub (X : mm_cx p s m args meth c g D cy q) (hd : decode (mm_b q) pc = .ok (.lsub, len)) (h2 : mm_ck2 (pc, .lsub, len, aux, val) = true) (hv : mm_vl ls st h) (hs : mm_st (pc, .lsub, len, aux, val) ls st h = some (.inr (.inl s'))) (K : mm_G p l e d s m args below meth c g D cy Q s'.1 s'.2.1 s'.2.2.1 s'.2.2.2) : mm_G p l e d s m args below meth c g D cy Q pc ls st h := by
  simp only [mm_st, mm_F] at hs
  obtain ⟨hx, hb, -⟩ := X
  intro H locs L hP hS hL
  have e0 : len = 1 := by simpa [mm_ck2, mm_ln] using h2
  subst e0
  obtain ⟨y, r, rfl, ht⟩ := mm_t1_some hs; clear hs; have hs := ht; clear ht
  obtain ⟨x, r, rfl, ht⟩ := mm_t1_some hs; clear hs; have hs := ht; clear ht
  cases hs
  refine lv_lsub hx hb hd ?_
  rw [← Int64.ofInt_sub, ← mm_ofwl]
  exact K H locs L hP hS hL
theorem mm_sd_lmul (X : mm_cx p s m args meth c g D cy q) (hd : decode (mm_b q) pc = .ok (.lmul, len)) (h2 : mm_ck2 (pc, .lmul, len, aux, val) = true) (hv : mm_vl ls st h) (hs : mm_st (pc, .lmul, len, aux, val) ls st h = some (.inr (.inl s'))) (K : mm_G p l e d s m args below meth c g D cy Q s'.1 s'.2.1 s'.2.2.1 s'.2.2.2) : mm_G p l e d s m args below meth c g D cy Q pc ls st h := by
  simp only [mm_st, mm_F] at hs
  obtain ⟨hx, hb, -⟩ := X
  intro H locs L hP hS hL
  have e0 : len = 1 := by simpa [mm_ck2, mm_ln] using h2
  subst e0
  obtain ⟨y, r, rfl, ht⟩ := mm_t1_some hs; clear hs; have hs := ht; clear ht
  obtain ⟨x, r, rfl, ht⟩ := mm_t1_some hs; clear hs; have hs := ht; clear ht
  cases hs
  refine lv_lmul hx hb hd ?_
  rw [← Int64.ofInt_mul, ← mm_ofwl]
  exact K H locs L hP hS hL
theorem mm_sd_ldiv (X : mm_cx p s m args meth c g D cy q) (hd : decode (mm_b q) pc = .ok (.ldiv, len)) (h2 : mm_ck2 (pc, .ldiv, len, aux, val) = true) (hv : mm_vl ls st h) (hs : mm_st (pc, .ldiv, len, aux, val) ls st h = some (.inr (.inl s'))) (K : mm_G p l e d s m args below meth c g D cy Q s'.1 s'.2.1 s'.2.2.1 s'.2.2.2) : mm_G p l e d s m args below meth c g D cy Q pc ls st h := by
  simp only [mm_st, mm_F] at hs
  obtain ⟨hx, hb, -⟩ := X
  intro H locs L hP hS hL
  have e0 : len = 1 := by simpa [mm_ck2, mm_ln] using h2
  subst e0
  obtain ⟨y, r, rfl, ht⟩ := mm_t1_some hs; clear hs; have hs := ht; clear ht
  obtain ⟨x, r, rfl, ht⟩ := mm_t1_some hs; clear hs; have hs := ht; clear ht
  obtain ⟨hy, hs⟩ := mm_ifn_some hs
  cases hs
  have k := K H locs L hP hS hL
  simp only [List.map_cons, mm_val, mm_ldiv, Int64.ofInt_toInt] at k
  refine lv_ldiv hx hb hd (fun w => hy ?_) k
  exact (mm_eqL (show mm_i64 y from hv.pop.1) (show mm_i64 0 from ⟨by decide, by decide⟩)).mp w
theorem mm_sd_lrem (X : mm_cx p s m args meth c g D cy q) (hd : decode (mm_b q) pc = .ok (.lrem, len)) (h2 : mm_ck2 (pc, .lrem, len, aux, val) = true) (hv : mm_vl ls st h) (hs : mm_st (pc, .lrem, len, aux, val) ls st h = some (.inr (.inl s'))) (K : mm_G p l e d s m args below meth c g D cy Q s'.1 s'.2.1 s'.2.2.1 s'.2.2.2) : mm_G p l e d s m args below meth c g D cy Q pc ls st h := by
  simp only [mm_st, mm_F] at hs
  obtain ⟨hx, hb, -⟩ := X
  intro H locs L hP hS hL
  have e0 : len = 1 := by simpa [mm_ck2, mm_ln] using h2
  subst e0
  obtain ⟨y, r, rfl, ht⟩ := mm_t1_some hs; clear hs; have hs := ht; clear ht
  obtain ⟨x, r, rfl, ht⟩ := mm_t1_some hs; clear hs; have hs := ht; clear ht
  obtain ⟨hy, hs⟩ := mm_ifn_some hs
  cases hs
  have k := K H locs L hP hS hL
  simp only [List.map_cons, mm_val, mm_lrem, Int64.ofInt_toInt] at k
  refine lv_lrem hx hb hd (fun w => hy ?_) k
  exact (mm_eqL (show mm_i64 y from hv.pop.1) (show mm_i64 0 from ⟨by decide, by decide⟩)).mp w
theorem mm_sd_lor (X : mm_cx p s m args meth c g D cy q) (hd : decode (mm_b q) pc = .ok (.lor, len)) (h2 : mm_ck2 (pc, .lor, len, aux, val) = true) (hv : mm_vl ls st h) (hs : mm_st (pc, .lor, len, aux, val) ls st h = some (.inr (.inl s'))) (K : mm_G p l e d s m args below meth c g D cy Q s'.1 s'.2.1 s'.2.2.1 s'.2.2.2) : mm_G p l e d s m args below meth c g D cy Q pc ls st h := by
  simp only [mm_st, mm_F] at hs
  obtain ⟨hx, hb, -⟩ := X
  intro H locs L hP hS hL
  have e0 : len = 1 := by simpa [mm_ck2, mm_ln] using h2
  subst e0
  obtain ⟨y, r, rfl, ht⟩ := mm_t1_some hs; clear hs; have hs := ht; clear ht
  obtain ⟨x, r, rfl, ht⟩ := mm_t1_some hs; clear hs; have hs := ht; clear ht
  cases hs
  have k := K H locs L hP hS hL
  simp only [List.map_cons, mm_val, mm_lor, Int64.ofInt_toInt] at k
  exact lv_lor hx hb hd k
theorem mm_sd_lshl (X : mm_cx p s m args meth c g D cy q) (hd : decode (mm_b q) pc = .ok (.lshl, len)) (h2 : mm_ck2 (pc, .lshl, len, aux, val) = true) (hv : mm_vl ls st h) (hs : mm_st (pc, .lshl, len, aux, val) ls st h = some (.inr (.inl s'))) (K : mm_G p l e d s m args below meth c g D cy Q s'.1 s'.2.1 s'.2.2.1 s'.2.2.2) : mm_G p l e d s m args below meth c g D cy Q pc ls st h := by
  simp only [mm_st, mm_F] at hs
  obtain ⟨hx, hb, -⟩ := X
  intro H locs L hP hS hL
  have e0 : len = 1 := by simpa [mm_ck2, mm_ln] using h2
  subst e0
  obtain ⟨y, r, rfl, ht⟩ := mm_t1_some hs; clear hs; have hs := ht; clear ht
  obtain ⟨x, r, rfl, ht⟩ := mm_t1_some hs; clear hs; have hs := ht; clear ht
  cases hs
  have k := K H locs L hP hS hL
  simp only [List.map_cons, mm_val, mm_lshl, Int64.ofInt_toInt] at k
  exact lv_lshl hx hb hd rfl k
theorem mm_sd_lushr (X : mm_cx p s m args meth c g D cy q) (hd : decode (mm_b q) pc = .ok (.lushr, len)) (h2 : mm_ck2 (pc, .lushr, len, aux, val) = true) (hv : mm_vl ls st h) (hs : mm_st (pc, .lushr, len, aux, val) ls st h = some (.inr (.inl s'))) (K : mm_G p l e d s m args below meth c g D cy Q s'.1 s'.2.1 s'.2.2.1 s'.2.2.2) : mm_G p l e d s m args below meth c g D cy Q pc ls st h := by
  simp only [mm_st, mm_F] at hs
  obtain ⟨hx, hb, -⟩ := X
  intro H locs L hP hS hL
  have e0 : len = 1 := by simpa [mm_ck2, mm_ln] using h2
  subst e0
  obtain ⟨y, r, rfl, ht⟩ := mm_t1_some hs; clear hs; have hs := ht; clear ht
  obtain ⟨x, r, rfl, ht⟩ := mm_t1_some hs; clear hs; have hs := ht; clear ht
  cases hs
  have k := K H locs L hP hS hL
  simp only [List.map_cons, mm_val, mm_lushr, Int64.ofInt_toInt] at k
  exact lv_lushr hx hb hd rfl k
theorem mm_sd_lcmp (X : mm_cx p s m args meth c g D cy q) (hd : decode (mm_b q) pc = .ok (.lcmp, len)) (h2 : mm_ck2 (pc, .lcmp, len, aux, val) = true) (hv : mm_vl ls st h) (hs : mm_st (pc, .lcmp, len, aux, val) ls st h = some (.inr (.inl s'))) (K : mm_G p l e d s m args below meth c g D cy Q s'.1 s'.2.1 s'.2.2.1 s'.2.2.2) : mm_G p l e d s m args below meth c g D cy Q pc ls st h := by
  simp only [mm_st, mm_F] at hs
  obtain ⟨hx, hb, -⟩ := X
  intro H locs L hP hS hL
  have e0 : len = 1 := by simpa [mm_ck2, mm_ln] using h2
  subst e0
  obtain ⟨y, r, rfl, ht⟩ := mm_t1_some hs; clear hs; have hs := ht; clear ht
  obtain ⟨x, r, rfl, ht⟩ := mm_t1_some hs; clear hs; have hs := ht; clear ht
  cases hs
  refine W.lcmp hx hb hd ?_
  have hy : mm_i64 y := hv.pop.1
  have hx' : mm_i64 x := hv.pop.2.pop.1
  have e1 : lg_cmp (Int64.ofInt x) (Int64.ofInt y) = Int32.ofInt (mm_lcmp x y) := by
    unfold lg_cmp mm_lcmp
    by_cases h1 : x < y
    · have a : ¬ Int64.ofInt x > Int64.ofInt y := fun w => by have := (mm_ltL hy hx').mp w; omega
      have b : ¬ Int64.ofInt x = Int64.ofInt y := fun w => by have := (mm_eqL hx' hy).mp w; omega
      rw [if_neg a, if_neg b, if_pos h1]
      rfl
    · by_cases h3 : x = y
      · have a : ¬ Int64.ofInt x > Int64.ofInt y := fun w => by have := (mm_ltL hy hx').mp w; omega
        rw [if_neg a, if_pos ((mm_eqL hx' hy).mpr h3), if_neg h1, if_pos h3]
        rfl
      · rw [if_pos ((mm_ltL hy hx').mpr (by omega)), if_neg h1, if_neg h3]
        rfl
  rw [e1]
  exact K H locs L hP hS hL
theorem mm_sd_i2l (X : mm_cx p s m args meth c g D cy q) (hd : decode (mm_b q) pc = .ok (.i2l, len)) (h2 : mm_ck2 (pc, .i2l, len, aux, val) = true) (hv : mm_vl ls st h) (hs : mm_st (pc, .i2l, len, aux, val) ls st h = some (.inr (.inl s'))) (K : mm_G p l e d s m args below meth c g D cy Q s'.1 s'.2.1 s'.2.2.1 s'.2.2.2) : mm_G p l e d s m args below meth c g D cy Q pc ls st h := by
  simp only [mm_st, mm_F] at hs
  obtain ⟨hx, hb, -⟩ := X
  intro H locs L hP hS hL
  have e0 : len = 1 := by simpa [mm_ck2, mm_ln] using h2
  subst e0
  obtain ⟨x, r, rfl, ht⟩ := mm_t1_some hs; clear hs; have hs := ht; clear ht
  cases hs
  refine lv_i2l hx hb hd (v := Int64.ofInt x) ?_ (K H locs L hP hS hL)
  apply Int64.toInt_inj.mp
  rw [Int32.toInt_toInt64, mm_toI (show mm_i32 x from hv.pop.1), mm_toL (mm_ofi hv.pop.1)]
theorem mm_sd_l2i (X : mm_cx p s m args meth c g D cy q) (hd : decode (mm_b q) pc = .ok (.l2i, len)) (h2 : mm_ck2 (pc, .l2i, len, aux, val) = true) (hv : mm_vl ls st h) (hs : mm_st (pc, .l2i, len, aux, val) ls st h = some (.inr (.inl s'))) (K : mm_G p l e d s m args below meth c g D cy Q s'.1 s'.2.1 s'.2.2.1 s'.2.2.2) : mm_G p l e d s m args below meth c g D cy Q pc ls st h := by
  simp only [mm_st, mm_F] at hs
  obtain ⟨hx, hb, -⟩ := X
  intro H locs L hP hS hL
  have e0 : len = 1 := by simpa [mm_ck2, mm_ln] using h2
  subst e0
  obtain ⟨x, r, rfl, ht⟩ := mm_t1_some hs; clear hs; have hs := ht; clear ht
  cases hs
  refine lv_l2i hx hb hd (v := Int32.ofInt (mm_w x)) ?_ (K H locs L hP hS hL)
  rw [mm_ofw]
  apply Int32.toInt_inj.mp
  rw [Int64.toInt_toInt32, mm_toL (show mm_i64 x from hv.pop.1), Int32.toInt_ofInt]
theorem mm_sd_i2b (X : mm_cx p s m args meth c g D cy q) (hd : decode (mm_b q) pc = .ok (.i2b, len)) (h2 : mm_ck2 (pc, .i2b, len, aux, val) = true) (hv : mm_vl ls st h) (hs : mm_st (pc, .i2b, len, aux, val) ls st h = some (.inr (.inl s'))) (K : mm_G p l e d s m args below meth c g D cy Q s'.1 s'.2.1 s'.2.2.1 s'.2.2.2) : mm_G p l e d s m args below meth c g D cy Q pc ls st h := by
  simp only [mm_st, mm_F] at hs
  obtain ⟨hx, hb, -⟩ := X
  intro H locs L hP hS hL
  have e0 : len = 1 := by simpa [mm_ck2, mm_ln] using h2
  subst e0
  obtain ⟨x, r, rfl, ht⟩ := mm_t1_some hs; clear hs; have hs := ht; clear ht
  cases hs
  refine lv_i2b hx hb hd (v := Int32.ofInt (mm_w8 x)) ?_ (K H locs L hP hS hL)
  apply Int32.toInt_inj.mp
  have w := mm_w8_ok x
  rw [Int8.toInt_toInt32, Int32.toInt_toInt8, mm_toI (show mm_i32 x from hv.pop.1), mm_toI (mm_sm w.1 w.2 (by decide) (by decide))]
  rfl
theorem mm_sd_dup (X : mm_cx p s m args meth c g D cy q) (hd : decode (mm_b q) pc = .ok (.dup, len)) (h2 : mm_ck2 (pc, .dup, len, aux, val) = true) (hv : mm_vl ls st h) (hs : mm_st (pc, .dup, len, aux, val) ls st h = some (.inr (.inl s'))) (K : mm_G p l e d s m args below meth c g D cy Q s'.1 s'.2.1 s'.2.2.1 s'.2.2.2) : mm_G p l e d s m args below meth c g D cy Q pc ls st h := by
  simp only [mm_st, mm_F] at hs
  obtain ⟨hx, hb, -⟩ := X
  intro H locs L hP hS hL
  have e0 : len = 1 := by simpa [mm_ck2, mm_ln] using h2
  subst e0
  obtain ⟨v, r, rfl, n1, n9, ht⟩ := mm_an_some hs; clear hs; have hs := ht; clear ht
  cases hs
  exact lv_dup hx hb hd (by rw [mm_cat, if_neg n1]) (K H locs L hP hS hL)
theorem mm_sd_dup2 (X : mm_cx p s m args meth c g D cy q) (hd : decode (mm_b q) pc = .ok (.dup2, len)) (h2 : mm_ck2 (pc, .dup2, len, aux, val) = true) (hv : mm_vl ls st h) (hs : mm_st (pc, .dup2, len, aux, val) ls st h = some (.inr (.inl s'))) (K : mm_G p l e d s m args below meth c g D cy Q s'.1 s'.2.1 s'.2.2.1 s'.2.2.2) : mm_G p l e d s m args below meth c g D cy Q pc ls st h := by
  simp only [mm_st, mm_F] at hs
  obtain ⟨hx, hb, -⟩ := X
  intro H locs L hP hS hL
  have e0 : len = 1 := by simpa [mm_ck2, mm_ln] using h2
  subst e0
  obtain ⟨v, r, rfl, n1, n9, ht⟩ := mm_an_some hs; clear hs; have hs := ht; clear ht
  obtain ⟨u, r, rfl, k1, k9, ht⟩ := mm_an_some hs; clear hs; have hs := ht; clear ht
  cases hs
  exact lv_dup2_11 hx hb hd (by rw [mm_cat, if_neg n1]) (by rw [mm_cat, if_neg k1]) (K H locs L hP hS hL)
theorem mm_sd_pop (X : mm_cx p s m args meth c g D cy q) (hd : decode (mm_b q) pc = .ok (.pop, len)) (h2 : mm_ck2 (pc, .pop, len, aux, val) = true) (hv : mm_vl ls st h) (hs : mm_st (pc, .pop, len, aux, val) ls st h = some (.inr (.inl s'))) (K : mm_G p l e d s m args below meth c g D cy Q s'.1 s'.2.1 s'.2.2.1 s'.2.2.2) : mm_G p l e d s m args below meth c g D cy Q pc ls st h := by
  simp only [mm_st, mm_F] at hs
  obtain ⟨hx, hb, -⟩ := X
  intro H locs L hP hS hL
  have e0 : len = 1 := by simpa [mm_ck2, mm_ln] using h2
  subst e0
  obtain ⟨v, r, rfl, n1, n9, ht⟩ := mm_an_some hs; clear hs; have hs := ht; clear ht
  cases hs
  exact lv_pop hx hb hd (by rw [mm_cat, if_neg n1]) (K H locs L hP hS hL)
theorem mm_sd_goto (X : mm_cx p s m args meth c g D cy q) {o : Int} (hd : decode (mm_b q) pc = .ok (.goto o, len)) (h2 : mm_ck2 (pc, .goto o, len, aux, val) = true) (hv : mm_vl ls st h) (hs : mm_st (pc, .goto o, len, aux, val) ls st h = some (.inr (.inl s'))) (K : mm_G p l e d s m args below meth c g D cy Q s'.1 s'.2.1 s'.2.2.1 s'.2.2.2) : mm_G p l e d s m args below meth c g D cy Q pc ls st h := by
  simp only [mm_st, mm_F] at hs
  obtain ⟨hx, hb, -⟩ := X
  intro H locs L hP hS hL
  simp only [mm_ck2, Bool.and_eq_true, beq_iff_eq, decide_eq_true_eq] at h2
  obtain ⟨rfl, hn⟩ := h2
  cases hs
  exact lv_goto hx hb hd (mm_tgt hn) (K H locs L hP hS hL)
theorem mm_vr10 {g : Nat → Nat → Nat} {v : mm_V} (h1 : Nat.ble 10 v.1 = true) : mm_val g v = .ref (g 0 v.2.toNat) := by
  have h1 := Nat.le_of_ble_eq_true h1
  obtain ⟨t, x⟩ := v
  unfold mm_val
  split <;> first | rfl | (simp only at h1; omega)
theorem mm_vr6 {g : Nat → Nat → Nat} {v : mm_V} (h1 : (v.1 == 6) = true) : mm_val g v = .null := by
  have h1 : v.1 = 6 := by simpa using h1
  obtain ⟨t, x⟩ := v
  simp only at h1
  subst h1
  rfl
theorem mm_sd_aconst_null (X : mm_cx p s m args meth c g D cy q) (hd : decode (mm_b q) pc = .ok (.aconst_null, len)) (h2 : mm_ck2 (pc, .aconst_null, len, aux, val) = true) (hv : mm_vl ls st h) (hs : mm_st (pc, .aconst_null, len, aux, val) ls st h = some (.inr (.inl s'))) (K : mm_G p l e d s m args below meth c g D cy Q s'.1 s'.2.1 s'.2.2.1 s'.2.2.2) : mm_G p l e d s m args below meth c g D cy Q pc ls st h := by
  simp only [mm_st, mm_F] at hs
  obtain ⟨hx, hb, -⟩ := X
  intro H locs L hP hS hL
  have e0 : len = 1 := by simpa [mm_ck2, mm_ln] using h2
  subst e0
  cases hs
  exact lv_null hx hb hd (K H locs L hP hS hL)
theorem mm_sd_ifnull (X : mm_cx p s m args meth c g D cy q) {o : Int} (hd : decode (mm_b q) pc = .ok (.ifnull o, len)) (h2 : mm_ck2 (pc, .ifnull o, len, aux, val) = true) (hv : mm_vl ls st h) (hs : mm_st (pc, .ifnull o, len, aux, val) ls st h = some (.inr (.inl s'))) (K : mm_G p l e d s m args below meth c g D cy Q s'.1 s'.2.1 s'.2.2.1 s'.2.2.2) : mm_G p l e d s m args below meth c g D cy Q pc ls st h := by
  simp only [mm_st, mm_F] at hs
  obtain ⟨hx, hb, -⟩ := X
  intro H locs L hP hS hL
  simp only [mm_ck2, Bool.and_eq_true, beq_iff_eq, decide_eq_true_eq] at h2
  obtain ⟨rfl, hn⟩ := h2
  obtain ⟨v, r, rfl, -, -, ht⟩ := mm_an_some hs; clear hs; have hs := ht; clear ht
  cases e6 : v.1 == 6 with
  | true =>
    rw [e6] at hs
    cases hs
    have k := K H locs L hP hS hL
    rw [List.map_cons, mm_vr6 e6]
    exact lv_ifnullN hx hb hd (mm_tgt hn) k
  | false =>
    rw [e6] at hs
    obtain ⟨e7, hs⟩ := mm_bf_some hs
    cases hs
    have k := K H locs L hP hS hL
    rw [List.map_cons, mm_vr10 e7]
    exact lv_ifnull hx hb hd k
theorem mm_sd_ifnonnull (X : mm_cx p s m args meth c g D cy q) {o : Int} (hd : decode (mm_b q) pc = .ok (.ifnonnull o, len)) (h2 : mm_ck2 (pc, .ifnonnull o, len, aux, val) = true) (hv : mm_vl ls st h) (hs : mm_st (pc, .ifnonnull o, len, aux, val) ls st h = some (.inr (.inl s'))) (K : mm_G p l e d s m args below meth c g D cy Q s'.1 s'.2.1 s'.2.2.1 s'.2.2.2) : mm_G p l e d s m args below meth c g D cy Q pc ls st h := by
  simp only [mm_st, mm_F] at hs
  obtain ⟨hx, hb, -⟩ := X
  intro H locs L hP hS hL
  simp only [mm_ck2, Bool.and_eq_true, beq_iff_eq, decide_eq_true_eq] at h2
  obtain ⟨rfl, hn⟩ := h2
  obtain ⟨v, r, rfl, -, -, ht⟩ := mm_an_some hs; clear hs; have hs := ht; clear ht
  cases e6 : v.1 == 6 with
  | true =>
    rw [e6] at hs
    cases hs
    have k := K H locs L hP hS hL
    rw [List.map_cons, mm_vr6 e6]
    exact lv_ifnonnullN hx hb hd k
  | false =>
    rw [e6] at hs
    obtain ⟨e7, hs⟩ := mm_bf_some hs
    cases hs
    have k := K H locs L hP hS hL
    rw [List.map_cons, mm_vr10 e7]
    exact lv_ifnonnull hx hb hd (mm_tgt hn) k
theorem mm_sd_if_eq (X : mm_cx p s m args meth c g D cy q) {o : Int} (hd : decode (mm_b q) pc = .ok (.ifCond .eq o, len)) (h2 : mm_ck2 (pc, .ifCond .eq o, len, aux, val) = true) (hv : mm_vl ls st h) (hs : mm_st (pc, .ifCond .eq o, len, aux, val) ls st h = some (.inr (.inl s'))) (K : mm_G p l e d s m args below meth c g D cy Q s'.1 s'.2.1 s'.2.2.1 s'.2.2.2) : mm_G p l e d s m args below meth c g D cy Q pc ls st h := by
  simp only [mm_st, mm_F] at hs
  obtain ⟨hx, hb, -⟩ := X
  intro H locs L hP hS hL
  simp only [mm_ck2, Bool.and_eq_true, beq_iff_eq, decide_eq_true_eq] at h2
  obtain ⟨rfl, hn⟩ := h2
  obtain ⟨x, r, rfl, ht⟩ := mm_t1_some hs; clear hs; have hs := ht; clear ht
  have hx0 : mm_i32 x := hv.pop.1
  have cv := (mm_eq hx0 mm_z0)
  rw [mm_of0] at cv
  by_cases hc : x = 0
  · rw [if_pos hc] at hs
    cases hs
    have k := K H locs L hP hS hL
    exact lv_if_eq hx hb hd (mm_tgt hn) (fun w => by first | exact k | exact absurd (cv.mp w) (by omega) | exact absurd (cv.mpr (by omega)) w) (fun w => by first | exact k | exact absurd (cv.mpr (by omega)) w | exact absurd (cv.mpr (by omega)) w | exact absurd w (fun z => by have := cv.mp z; omega))
  · rw [if_neg hc] at hs
    cases hs
    have k := K H locs L hP hS hL
    exact lv_if_eq hx hb hd (mm_tgt hn) (fun w => by first | exact k | exact absurd (cv.mp w) (by omega) | exact absurd (cv.mpr (by omega)) w) (fun w => by first | exact k | exact absurd (cv.mpr (by omega)) w | exact absurd w (fun z => by have := cv.mp z; omega))
theorem mm_sd_if_ne (X : mm_cx p s m args meth c g D cy q) {o : Int} (hd : decode (mm_b q) pc = .ok (.ifCond .ne o, len)) (h2 : mm_ck2 (pc, .ifCond .ne o, len, aux, val) = true) (hv : mm_vl ls st h) (hs : mm_st (pc, .ifCond .ne o, len, aux, val) ls st h = some (.inr (.inl s'))) (K : mm_G p l e d s m args below meth c g D cy Q s'.1 s'.2.1 s'.2.2.1 s'.2.2.2) : mm_G p l e d s m args below meth c g D cy Q pc ls st h := by
  simp only [mm_st, mm_F] at hs
  obtain ⟨hx, hb, -⟩ := X
  intro H locs L hP hS hL
  simp only [mm_ck2, Bool.and_eq_true, beq_iff_eq, decide_eq_true_eq] at h2
  obtain ⟨rfl, hn⟩ := h2
  obtain ⟨x, r, rfl, ht⟩ := mm_t1_some hs; clear hs; have hs := ht; clear ht
  have hx0 : mm_i32 x := hv.pop.1
  have cv := (mm_eq hx0 mm_z0)
  rw [mm_of0] at cv
  by_cases hc : x = 0
  · rw [if_pos hc] at hs
    cases hs
    have k := K H locs L hP hS hL
    exact lv_if_ne hx hb hd (mm_tgt hn) (fun w => by first | exact k | exact absurd (cv.mp w) (by omega) | exact absurd (cv.mpr (by omega)) w) (fun w => by first | exact k | exact absurd (cv.mpr (by omega)) w | exact absurd (cv.mpr (by omega)) w | exact absurd w (fun z => by have := cv.mp z; omega))
  · rw [if_neg hc] at hs
    cases hs
    have k := K H locs L hP hS hL
    exact lv_if_ne hx hb hd (mm_tgt hn) (fun w => by first | exact k | exact absurd (cv.mp w) (by omega) | exact absurd (cv.mpr (by omega)) w) (fun w => by first | exact k | exact absurd (cv.mpr (by omega)) w | exact absurd w (fun z => by have := cv.mp z; omega))
theorem mm_sd_if_lt (X : mm_cx p s m args meth c g D cy q) {o : Int} (hd : decode (mm_b q) pc = .ok (.ifCond .lt o, len)) (h2 : mm_ck2 (pc, .ifCond .lt o, len, aux, val) = true) (hv : mm_vl ls st h) (hs : mm_st (pc, .ifCond .lt o, len, aux, val) ls st h = some (.inr (.inl s'))) (K : mm_G p l e d s m args below meth c g D cy Q s'.1 s'.2.1 s'.2.2.1 s'.2.2.2) : mm_G p l e d s m args below meth c g D cy Q pc ls st h := by
  simp only [mm_st, mm_F] at hs
  obtain ⟨hx, hb, -⟩ := X
  intro H locs L hP hS hL
  simp only [mm_ck2, Bool.and_eq_true, beq_iff_eq, decide_eq_true_eq] at h2
  obtain ⟨rfl, hn⟩ := h2
  obtain ⟨x, r, rfl, ht⟩ := mm_t1_some hs; clear hs; have hs := ht; clear ht
  have hx0 : mm_i32 x := hv.pop.1
  have cv := (mm_lt hx0 mm_z0)
  rw [mm_of0] at cv
  by_cases hc : x < 0
  · rw [if_pos hc] at hs
    cases hs
    have k := K H locs L hP hS hL
    exact lv_if_lt hx hb hd (mm_tgt hn) (fun w => by first | exact k | exact absurd (cv.mp w) (by omega) | exact absurd (cv.mpr (by omega)) w) (fun w => by first | exact k | exact absurd (cv.mpr (by omega)) w | exact absurd (cv.mpr (by omega)) w | exact absurd w (fun z => by have := cv.mp z; omega))
  · rw [if_neg hc] at hs
    cases hs
    have k := K H locs L hP hS hL
    exact lv_if_lt hx hb hd (mm_tgt hn) (fun w => by first | exact k | exact absurd (cv.mp w) (by omega) | exact absurd (cv.mpr (by omega)) w) (fun w => by first | exact k | exact absurd (cv.mpr (by omega)) w | exact absurd w (fun z => by have := cv.mp z; omega))
theorem mm_sd_if_ge (X : mm_cx p s m args meth c g D cy q) {o : Int} (hd : decode (mm_b q) pc = .ok (.ifCond .ge o, len)) (h2 : mm_ck2 (pc, .ifCond .ge o, len, aux, val) = true) (hv : mm_vl ls st h) (hs : mm_st (pc, .ifCond .ge o, len, aux, val) ls st h = some (.inr (.inl s'))) (K : mm_G p l e d s m args below meth c g D cy Q s'.1 s'.2.1 s'.2.2.1 s'.2.2.2) : mm_G p l e d s m args below meth c g D cy Q pc ls st h := by
  simp only [mm_st, mm_F] at hs
  obtain ⟨hx, hb, -⟩ := X
  intro H locs L hP hS hL
  simp only [mm_ck2, Bool.and_eq_true, beq_iff_eq, decide_eq_true_eq] at h2
  obtain ⟨rfl, hn⟩ := h2
  obtain ⟨x, r, rfl, ht⟩ := mm_t1_some hs; clear hs; have hs := ht; clear ht
  have hx0 : mm_i32 x := hv.pop.1
  have cv := (mm_le mm_z0 hx0)
  rw [mm_of0] at cv
  by_cases hc : x < 0
  · rw [if_pos hc] at hs
    cases hs
    have k := K H locs L hP hS hL
    exact lv_if_ge hx hb hd (mm_tgt hn) (fun w => by first | exact k | exact absurd (cv.mp w) (by omega) | exact absurd (cv.mpr (by omega)) w) (fun w => by first | exact k | exact absurd (cv.mpr (by omega)) w | exact absurd (cv.mpr (by omega)) w | exact absurd w (fun z => by have := cv.mp z; omega))
  · rw [if_neg hc] at hs
    cases hs
    have k := K H locs L hP hS hL
    exact lv_if_ge hx hb hd (mm_tgt hn) (fun w => by first | exact k | exact absurd (cv.mp w) (by omega) | exact absurd (cv.mpr (by omega)) w) (fun w => by first | exact k | exact absurd (cv.mpr (by omega)) w | exact absurd w (fun z => by have := cv.mp z; omega))
theorem mm_sd_if_gt (X : mm_cx p s m args meth c g D cy q) {o : Int} (hd : decode (mm_b q) pc = .ok (.ifCond .gt o, len)) (h2 : mm_ck2 (pc, .ifCond .gt o, len, aux, val) = true) (hv : mm_vl ls st h) (hs : mm_st (pc, .ifCond .gt o, len, aux, val) ls st h = some (.inr (.inl s'))) (K : mm_G p l e d s m args below meth c g D cy Q s'.1 s'.2.1 s'.2.2.1 s'.2.2.2) : mm_G p l e d s m args below meth c g D cy Q pc ls st h := by
  simp only [mm_st, mm_F] at hs
  obtain ⟨hx, hb, -⟩ := X
  intro H locs L hP hS hL
  simp only [mm_ck2, Bool.and_eq_true, beq_iff_eq, decide_eq_true_eq] at h2
  obtain ⟨rfl, hn⟩ := h2
  obtain ⟨x, r, rfl, ht⟩ := mm_t1_some hs; clear hs; have hs := ht; clear ht
  have hx0 : mm_i32 x := hv.pop.1
  have cv := (mm_lt mm_z0 hx0)
  rw [mm_of0] at cv
  by_cases hc : 0 < x
  · rw [if_pos hc] at hs
    cases hs
    have k := K H locs L hP hS hL
    exact lv_if_gt hx hb hd (mm_tgt hn) (fun w => by first | exact k | exact absurd (cv.mp w) (by omega) | exact absurd (cv.mpr (by omega)) w) (fun w => by first | exact k | exact absurd (cv.mpr (by omega)) w | exact absurd (cv.mpr (by omega)) w | exact absurd w (fun z => by have := cv.mp z; omega))
  · rw [if_neg hc] at hs
    cases hs
    have k := K H locs L hP hS hL
    exact lv_if_gt hx hb hd (mm_tgt hn) (fun w => by first | exact k | exact absurd (cv.mp w) (by omega) | exact absurd (cv.mpr (by omega)) w) (fun w => by first | exact k | exact absurd (cv.mpr (by omega)) w | exact absurd w (fun z => by have := cv.mp z; omega))
theorem mm_sd_if_le (X : mm_cx p s m args meth c g D cy q) {o : Int} (hd : decode (mm_b q) pc = .ok (.ifCond .le o, len)) (h2 : mm_ck2 (pc, .ifCond .le o, len, aux, val) = true) (hv : mm_vl ls st h) (hs : mm_st (pc, .ifCond .le o, len, aux, val) ls st h = some (.inr (.inl s'))) (K : mm_G p l e d s m args below meth c g D cy Q s'.1 s'.2.1 s'.2.2.1 s'.2.2.2) : mm_G p l e d s m args below meth c g D cy Q pc ls st h := by
  simp only [mm_st, mm_F] at hs
  obtain ⟨hx, hb, -⟩ := X
  intro H locs L hP hS hL
  simp only [mm_ck2, Bool.and_eq_true, beq_iff_eq, decide_eq_true_eq] at h2
  obtain ⟨rfl, hn⟩ := h2
  obtain ⟨x, r, rfl, ht⟩ := mm_t1_some hs; clear hs; have hs := ht; clear ht
  have hx0 : mm_i32 x := hv.pop.1
  have cv := (mm_le hx0 mm_z0)
  rw [mm_of0] at cv
  by_cases hc : 0 < x
  · rw [if_pos hc] at hs
    cases hs
    have k := K H locs L hP hS hL
    exact lv_if_le hx hb hd (mm_tgt hn) (fun w => by first | exact k | exact absurd (cv.mp w) (by omega) | exact absurd (cv.mpr (by omega)) w) (fun w => by first | exact k | exact absurd (cv.mpr (by omega)) w | exact absurd (cv.mpr (by omega)) w | exact absurd w (fun z => by have := cv.mp z; omega))
  · rw [if_neg hc] at hs
    cases hs
    have k := K H locs L hP hS hL
    exact lv_if_le hx hb hd (mm_tgt hn) (fun w => by first | exact k | exact absurd (cv.mp w) (by omega) | exact absurd (cv.mpr (by omega)) w) (fun w => by first | exact k | exact absurd (cv.mpr (by omega)) w | exact absurd w (fun z => by have := cv.mp z; omega))
theorem mm_sd_icmp_eq (X : mm_cx p s m args meth c g D cy q) {o : Int} (hd : decode (mm_b q) pc = .ok (.if_icmp .eq o, len)) (h2 : mm_ck2 (pc, .if_icmp .eq o, len, aux, val) = true) (hv : mm_vl ls st h) (hs : mm_st (pc, .if_icmp .eq o, len, aux, val) ls st h = some (.inr (.inl s'))) (K : mm_G p l e d s m args below meth c g D cy Q s'.1 s'.2.1 s'.2.2.1 s'.2.2.2) : mm_G p l e d s m args below meth c g D cy Q pc ls st h := by
  simp only [mm_st, mm_F] at hs
  obtain ⟨hx, hb, -⟩ := X
  intro H locs L hP hS hL
  simp only [mm_ck2, Bool.and_eq_true, beq_iff_eq, decide_eq_true_eq] at h2
  obtain ⟨rfl, hn⟩ := h2
  obtain ⟨y, r, rfl, ht⟩ := mm_t1_some hs; clear hs; have hs := ht; clear ht
  obtain ⟨x, r, rfl, ht⟩ := mm_t1_some hs; clear hs; have hs := ht; clear ht
  have hy0 : mm_i32 y := hv.pop.1
  have hx0 : mm_i32 x := hv.pop.2.pop.1
  have cv := (mm_eq hx0 hy0)
  by_cases hc : x = y
  · rw [if_pos hc] at hs
    cases hs
    have k := K H locs L hP hS hL
    exact lv_icmp_eq hx hb hd (mm_tgt hn) (fun w => by first | exact k | exact absurd (cv.mp w) (by omega) | exact absurd (cv.mpr (by omega)) w) (fun w => by first | exact k | exact absurd (cv.mpr (by omega)) w | exact absurd w (fun z => by have := cv.mp z; omega))
  · rw [if_neg hc] at hs
    cases hs
    have k := K H locs L hP hS hL
    exact lv_icmp_eq hx hb hd (mm_tgt hn) (fun w => by first | exact k | exact absurd (cv.mp w) (by omega) | exact absurd (cv.mpr (by omega)) w) (fun w => by first | exact k | exact absurd (cv.mpr (by omega)) w | exact absurd w (fun z => by have := cv.mp z; omega))
theorem mm_sd_icmp_ne (X : mm_cx p s m args meth c g D cy q) {o : Int} (hd : decode (mm_b q) pc = .ok (.if_icmp .ne o, len)) (h2 : mm_ck2 (pc, .if_icmp .ne o, len, aux, val) = true) (hv : mm_vl ls st h) (hs : mm_st (pc, .if_icmp .ne o, len, aux, val) ls st h = some (.inr (.inl s'))) (K : mm_G p l e d s m args below meth c g D cy Q s'.1 s'.2.1 s'.2.2.1 s'.2.2.2) : mm_G p l e d s m args below meth c g D cy Q pc ls st h := by
  simp only [mm_st, mm_F] at hs
  obtain ⟨hx, hb, -⟩ := X
  intro H locs L hP hS hL
  simp only [mm_ck2, Bool.and_eq_true, beq_iff_eq, decide_eq_true_eq] at h2
  obtain ⟨rfl, hn⟩ := h2
  obtain ⟨y, r, rfl, ht⟩ := mm_t1_some hs; clear hs; have hs := ht; clear ht
  obtain ⟨x, r, rfl, ht⟩ := mm_t1_some hs; clear hs; have hs := ht; clear ht
  have hy0 : mm_i32 y := hv.pop.1
  have hx0 : mm_i32 x := hv.pop.2.pop.1
  have cv := (mm_eq hx0 hy0)
  by_cases hc : x = y
  · rw [if_pos hc] at hs
    cases hs
    have k := K H locs L hP hS hL
    exact lv_icmp_ne hx hb hd (mm_tgt hn) (fun w => by first | exact k | exact absurd (cv.mp w) (by omega) | exact absurd (cv.mpr (by omega)) w) (fun w => by first | exact k | exact absurd (cv.mpr (by omega)) w | exact absurd w (fun z => by have := cv.mp z; omega))
  · rw [if_neg hc] at hs
    cases hs
    have k := K H locs L hP hS hL
    exact lv_icmp_ne hx hb hd (mm_tgt hn) (fun w => by first | exact k | exact absurd (cv.mp w) (by omega) | exact absurd (cv.mpr (by omega)) w) (fun w => by first | exact k | exact absurd (cv.mpr (by omega)) w | exact absurd w (fun z => by have := cv.mp z; omega))
theorem mm_sd_icmp_lt (X : mm_cx p s m args meth c g D cy q) {o : Int} (hd : decode (mm_b q) pc = .ok (.if_icmp .lt o, len)) (h2 : mm_ck2 (pc, .if_icmp .lt o, len, aux, val) = true) (hv : mm_vl ls st h) (hs : mm_st (pc, .if_icmp .lt o, len, aux, val) ls st h = some (.inr (.inl s'))) (K : mm_G p l e d s m args below meth c g D cy Q s'.1 s'.2.1 s'.2.2.1 s'.2.2.2) : mm_G p l e d s m args below meth c g D cy Q pc ls st h := by
  simp only [mm_st, mm_F] at hs
  obtain ⟨hx, hb, -⟩ := X
  intro H locs L hP hS hL
  simp only [mm_ck2, Bool.and_eq_true, beq_iff_eq, decide_eq_true_eq] at h2
  obtain ⟨rfl, hn⟩ := h2
  obtain ⟨y, r, rfl, ht⟩ := mm_t1_some hs; clear hs; have hs := ht; clear ht
  obtain ⟨x, r, rfl, ht⟩ := mm_t1_some hs; clear hs; have hs := ht; clear ht
  have hy0 : mm_i32 y := hv.pop.1
  have hx0 : mm_i32 x := hv.pop.2.pop.1
  have cv := (mm_lt hx0 hy0)
  by_cases hc : x < y
  · rw [if_pos hc] at hs
    cases hs
    have k := K H locs L hP hS hL
    exact lv_icmp_lt hx hb hd (mm_tgt hn) (fun w => by first | exact k | exact absurd (cv.mp w) (by omega) | exact absurd (cv.mpr (by omega)) w) (fun w => by first | exact k | exact absurd (cv.mpr (by omega)) w | exact absurd w (fun z => by have := cv.mp z; omega))
  · rw [if_neg hc] at hs
    cases hs
    have k := K H locs L hP hS hL
    exact lv_icmp_lt hx hb hd (mm_tgt hn) (fun w => by first | exact k | exact absurd (cv.mp w) (by omega) | exact absurd (cv.mpr (by omega)) w) (fun w => by first | exact k | exact absurd (cv.mpr (by omega)) w | exact absurd w (fun z => by have := cv.mp z; omega))
theorem mm_sd_icmp_ge (X : mm_cx p s m args meth c g D cy q) {o : Int} (hd : decode (mm_b q) pc = .ok (.if_icmp .ge o, len)) (h2 : mm_ck2 (pc, .if_icmp .ge o, len, aux, val) = true) (hv : mm_vl ls st h) (hs : mm_st (pc, .if_icmp .ge o, len, aux, val) ls st h = some (.inr (.inl s'))) (K : mm_G p l e d s m args below meth c g D cy Q s'.1 s'.2.1 s'.2.2.1 s'.2.2.2) : mm_G p l e d s m args below meth c g D cy Q pc ls st h := by
  simp only [mm_st, mm_F] at hs
  obtain ⟨hx, hb, -⟩ := X
  intro H locs L hP hS hL
  simp only [mm_ck2, Bool.and_eq_true, beq_iff_eq, decide_eq_true_eq] at h2
  obtain ⟨rfl, hn⟩ := h2
  obtain ⟨y, r, rfl, ht⟩ := mm_t1_some hs; clear hs; have hs := ht; clear ht
  obtain ⟨x, r, rfl, ht⟩ := mm_t1_some hs; clear hs; have hs := ht; clear ht
  have hy0 : mm_i32 y := hv.pop.1
  have hx0 : mm_i32 x := hv.pop.2.pop.1
  have cv := (mm_le hy0 hx0)
  by_cases hc : x < y
  · rw [if_pos hc] at hs
    cases hs
    have k := K H locs L hP hS hL
    exact lv_icmp_ge hx hb hd (mm_tgt hn) (fun w => by first | exact k | exact absurd (cv.mp w) (by omega) | exact absurd (cv.mpr (by omega)) w) (fun w => by first | exact k | exact absurd (cv.mpr (by omega)) w | exact absurd w (fun z => by have := cv.mp z; omega))
  · rw [if_neg hc] at hs
    cases hs
    have k := K H locs L hP hS hL
    exact lv_icmp_ge hx hb hd (mm_tgt hn) (fun w => by first | exact k | exact absurd (cv.mp w) (by omega) | exact absurd (cv.mpr (by omega)) w) (fun w => by first | exact k | exact absurd (cv.mpr (by omega)) w | exact absurd w (fun z => by have := cv.mp z; omega))
theorem mm_sd_icmp_gt (X : mm_cx p s m args meth c g D cy q) {o : Int} (hd : decode (mm_b q) pc = .ok (.if_icmp .gt o, len)) (h2 : mm_ck2 (pc, .if_icmp .gt o, len, aux, val) = true) (hv : mm_vl ls st h) (hs : mm_st (pc, .if_icmp .gt o, len, aux, val) ls st h = some (.inr (.inl s'))) (K : mm_G p l e d s m args below meth c g D cy Q s'.1 s'.2.1 s'.2.2.1 s'.2.2.2) : mm_G p l e d s m args below meth c g D cy Q pc ls st h := by
  simp only [mm_st, mm_F] at hs
  obtain ⟨hx, hb, -⟩ := X
  intro H locs L hP hS hL
  simp only [mm_ck2, Bool.and_eq_true, beq_iff_eq, decide_eq_true_eq] at h2
  obtain ⟨rfl, hn⟩ := h2
  obtain ⟨y, r, rfl, ht⟩ := mm_t1_some hs; clear hs; have hs := ht; clear ht
  obtain ⟨x, r, rfl, ht⟩ := mm_t1_some hs; clear hs; have hs := ht; clear ht
  have hy0 : mm_i32 y := hv.pop.1
  have hx0 : mm_i32 x := hv.pop.2.pop.1
  have cv := (mm_lt hy0 hx0)
  by_cases hc : y < x
  · rw [if_pos hc] at hs
    cases hs
    have k := K H locs L hP hS hL
    exact lv_icmp_gt hx hb hd (mm_tgt hn) (fun w => by first | exact k | exact absurd (cv.mp w) (by omega) | exact absurd (cv.mpr (by omega)) w) (fun w => by first | exact k | exact absurd (cv.mpr (by omega)) w | exact absurd w (fun z => by have := cv.mp z; omega))
  · rw [if_neg hc] at hs
    cases hs
    have k := K H locs L hP hS hL
    exact lv_icmp_gt hx hb hd (mm_tgt hn) (fun w => by first | exact k | exact absurd (cv.mp w) (by omega) | exact absurd (cv.mpr (by omega)) w) (fun w => by first | exact k | exact absurd (cv.mpr (by omega)) w | exact absurd w (fun z => by have := cv.mp z; omega))
theorem mm_sd_icmp_le (X : mm_cx p s m args meth c g D cy q) {o : Int} (hd : decode (mm_b q) pc = .ok (.if_icmp .le o, len)) (h2 : mm_ck2 (pc, .if_icmp .le o, len, aux, val) = true) (hv : mm_vl ls st h) (hs : mm_st (pc, .if_icmp .le o, len, aux, val) ls st h = some (.inr (.inl s'))) (K : mm_G p l e d s m args below meth c g D cy Q s'.1 s'.2.1 s'.2.2.1 s'.2.2.2) : mm_G p l e d s m args below meth c g D cy Q pc ls st h := by
  simp only [mm_st, mm_F] at hs
  obtain ⟨hx, hb, -⟩ := X
  intro H locs L hP hS hL
  simp only [mm_ck2, Bool.and_eq_true, beq_iff_eq, decide_eq_true_eq] at h2
  obtain ⟨rfl, hn⟩ := h2
  obtain ⟨y, r, rfl, ht⟩ := mm_t1_some hs; clear hs; have hs := ht; clear ht
  obtain ⟨x, r, rfl, ht⟩ := mm_t1_some hs; clear hs; have hs := ht; clear ht
  have hy0 : mm_i32 y := hv.pop.1
  have hx0 : mm_i32 x := hv.pop.2.pop.1
  have cv := (mm_le hx0 hy0)
  by_cases hc : y < x
  · rw [if_pos hc] at hs
    cases hs
    have k := K H locs L hP hS hL
    exact lv_icmp_le hx hb hd (mm_tgt hn) (fun w => by first | exact k | exact absurd (cv.mp w) (by omega) | exact absurd (cv.mpr (by omega)) w) (fun w => by first | exact k | exact absurd (cv.mpr (by omega)) w | exact absurd w (fun z => by have := cv.mp z; omega))
  · rw [if_neg hc] at hs
    cases hs
    have k := K H locs L hP hS hL
    exact lv_icmp_le hx hb hd (mm_tgt hn) (fun w => by first | exact k | exact absurd (cv.mp w) (by omega) | exact absurd (cv.mpr (by omega)) w) (fun w => by first | exact k | exact absurd (cv.mpr (by omega)) w | exact absurd w (fun z => by have := cv.mp z; omega))
theorem mm_sd_acmp_eq (X : mm_cx p s m args meth c g D cy q) {o : Int} (hd : decode (mm_b q) pc = .ok (.if_acmp .eq o, len)) (h2 : mm_ck2 (pc, .if_acmp .eq o, len, aux, val) = true) (hv : mm_vl ls st h) (hs : mm_st (pc, .if_acmp .eq o, len, aux, val) ls st h = some (.inr (.inl s'))) (K : mm_G p l e d s m args below meth c g D cy Q s'.1 s'.2.1 s'.2.2.1 s'.2.2.2) : mm_G p l e d s m args below meth c g D cy Q pc ls st h := by
  simp only [mm_st, mm_F] at hs
  obtain ⟨hx, hb, -, -, -, -, -, -, -, -, hg⟩ := X
  intro H locs L hP hS hL
  simp only [mm_ck2, Bool.and_eq_true, beq_iff_eq, decide_eq_true_eq] at h2
  obtain ⟨rfl, hn⟩ := h2
  obtain ⟨y, r, rfl, ht⟩ := mm_t1_some hs; clear hs; have hs := ht; clear ht
  obtain ⟨x, r, rfl, ht⟩ := mm_t1_some hs; clear hs; have hs := ht; clear ht
  obtain ⟨hw, hs⟩ := mm_bf_some hs
  have hw : 0 ≤ y ∧ y < 36 := by simpa [mm_wr] using hw
  have cv : mm_wv g x = mm_wv g y ↔ x = y := by
    constructor
    · intro w
      unfold mm_wv at w
      rw [if_pos hw] at w
      split at w
      · rename_i hxr
        have := hg.2 _ _ (by omega) (by omega) (Option.some.inj w)
        omega
      · cases w
    · rintro rfl
      rfl
  by_cases hc : x = y
  · rw [if_pos hc] at hs
    cases hs
    have k := K H locs L hP hS hL
    exact lv_acmp_eq hx hb hd (mm_tgt hn) (fun w => by first | exact k | exact absurd (cv.mpr hc) w) (fun w => by first | exact k | exact absurd (cv.mpr hc) w)
  · rw [if_neg hc] at hs
    cases hs
    have k := K H locs L hP hS hL
    exact lv_acmp_eq hx hb hd (mm_tgt hn) (fun w => by first | exact k | exact absurd (cv.mp w) hc) (fun w => by first | exact k | exact absurd (cv.mp w) hc)
theorem mm_sd_acmp_ne (X : mm_cx p s m args meth c g D cy q) {o : Int} (hd : decode (mm_b q) pc = .ok (.if_acmp .ne o, len)) (h2 : mm_ck2 (pc, .if_acmp .ne o, len, aux, val) = true) (hv : mm_vl ls st h) (hs : mm_st (pc, .if_acmp .ne o, len, aux, val) ls st h = some (.inr (.inl s'))) (K : mm_G p l e d s m args below meth c g D cy Q s'.1 s'.2.1 s'.2.2.1 s'.2.2.2) : mm_G p l e d s m args below meth c g D cy Q pc ls st h := by
  simp only [mm_st, mm_F] at hs
  obtain ⟨hx, hb, -, -, -, -, -, -, -, -, hg⟩ := X
  intro H locs L hP hS hL
  simp only [mm_ck2, Bool.and_eq_true, beq_iff_eq, decide_eq_true_eq] at h2
  obtain ⟨rfl, hn⟩ := h2
  obtain ⟨y, r, rfl, ht⟩ := mm_t1_some hs; clear hs; have hs := ht; clear ht
  obtain ⟨x, r, rfl, ht⟩ := mm_t1_some hs; clear hs; have hs := ht; clear ht
  obtain ⟨hw, hs⟩ := mm_bf_some hs
  have hw : 0 ≤ y ∧ y < 36 := by simpa [mm_wr] using hw
  have cv : mm_wv g x = mm_wv g y ↔ x = y := by
    constructor
    · intro w
      unfold mm_wv at w
      rw [if_pos hw] at w
      split at w
      · rename_i hxr
        have := hg.2 _ _ (by omega) (by omega) (Option.some.inj w)
        omega
      · cases w
    · rintro rfl
      rfl
  by_cases hc : x = y
  · rw [if_pos hc] at hs
    cases hs
    have k := K H locs L hP hS hL
    exact lv_acmp_ne hx hb hd (mm_tgt hn) (fun w => by first | exact k | exact absurd (cv.mpr hc) w) (fun w => by first | exact k | exact absurd (cv.mpr hc) w)
  · rw [if_neg hc] at hs
    cases hs
    have k := K H locs L hP hS hL
    exact lv_acmp_ne hx hb hd (mm_tgt hn) (fun w => by first | exact k | exact absurd (cv.mp w) hc) (fun w => by first | exact k | exact absurd (cv.mp w) hc)
theorem mm_sd_tableswitch (X : mm_cx p s m args meth c g D cy q) {df lo hi : Int} {os : Array Int} (hd : decode (mm_b q) pc = .ok (.tableswitch df lo hi os, len)) (h2 : mm_ck2 (pc, .tableswitch df lo hi os, len, aux, val) = true) (hv : mm_vl ls st h) (hs : mm_st (pc, .tableswitch df lo hi os, len, aux, val) ls st h = some (.inr (.inl s'))) (K : mm_G p l e d s m args below meth c g D cy Q s'.1 s'.2.1 s'.2.2.1 s'.2.2.2) : mm_G p l e d s m args below meth c g D cy Q pc ls st h := by
  simp only [mm_st, mm_F] at hs
  obtain ⟨hx, hb, -⟩ := X
  intro H locs L hP hS hL
  simp only [mm_ck2, Bool.and_eq_true, List.all_eq_true, decide_eq_true_eq] at h2
  obtain ⟨⟨k1, k2⟩, k3⟩ := h2
  obtain ⟨x, r, rfl, ht⟩ := mm_t1_some hs; clear hs; have hs := ht; clear ht
  have hx0 : mm_i32 x := hv.pop.1
  rcases mm_sw_some hs with ⟨j, o, ho, hj, hs⟩ | ⟨hj, hs⟩
  · cases hs
    have hlt : j < os.toList.length := (List.getElem?_eq_some_iff.mp ho).1
    have hlt : j < os.size := by simpa using hlt
    refine lv_tableIn hx hb hd (off := o) (tgt := mm_tg pc o) (x := Int32.ofInt x) (by rw [mm_toI hx0]; omega) (by rw [mm_toI hx0]; omega) ?_ (mm_tgt (k2 o (List.mem_of_getElem? ho))) (K H locs L hP hS hL)
    rw [mm_toI hx0, show (x - lo).toNat = j by omega, ← Array.getElem?_toList]
    exact ho
  · cases hs
    refine lv_tableOut hx hb hd (tgt := mm_tg pc df) (x := Int32.ofInt x) ?_ (mm_tgt k1) (K H locs L hP hS hL)
    rw [mm_toI hx0]
    by_cases w : x < lo
    · exact Or.inl w
    · right
      by_cases w2 : x - lo < os.size
      · exact absurd (show x = lo + ((x - lo).toNat : Nat) by omega) (hj (x - lo).toNat (by simp; omega))
      · omega
theorem mm_sd_lookupswitch (X : mm_cx p s m args meth c g D cy q) {df : Int} {ps : Array (Int × Int)} (hd : decode (mm_b q) pc = .ok (.lookupswitch df ps, len)) (h2 : mm_ck2 (pc, .lookupswitch df ps, len, aux, val) = true) (hv : mm_vl ls st h) (hs : mm_st (pc, .lookupswitch df ps, len, aux, val) ls st h = some (.inr (.inl s'))) (K : mm_G p l e d s m args below meth c g D cy Q s'.1 s'.2.1 s'.2.2.1 s'.2.2.2) : mm_G p l e d s m args below meth c g D cy Q pc ls st h := by
  simp only [mm_st, mm_F] at hs
  obtain ⟨hx, hb, -⟩ := X
  intro H locs L hP hS hL
  simp only [mm_ck2, Bool.and_eq_true, decide_eq_true_eq] at h2
  obtain ⟨⟨k1, k2⟩, k3⟩ := h2
  obtain ⟨x, r, rfl, ht⟩ := mm_t1_some hs; clear hs; have hs := ht; clear ht
  have hx0 : mm_i32 x := hv.pop.1
  obtain ⟨hs, hq⟩ := mm_lk_some hs
  cases hs
  refine lv_lookup hx hb hd k3 (by rw [mm_toI hx0]) (mm_tgt ?_) (K H locs L hP hS hL)
  rcases hq with w | ⟨p9, hp9, w⟩
  · rw [w]
    exact k1
  · rw [w]
    have := List.all_eq_true.mp k2 p9 hp9
    simpa using this
end MS
