/-! A step of the small machine is a step of the machine: members of the JDK, calls, returns; then runs -/
theorem mm_wds {g : Nat → Nat → Nat} : ∀ r : List mm_V, ((r.map (mm_val g)).map fun v => v.category).sum = mm_wd r
  | [] => rfl
  | v :: r => by
    have ih := mm_wds (g := g) r
    unfold mm_wd at ih ⊢
    simp only [List.map_cons, List.sum_cons, mm_cat, ih]
theorem mm_min {x y : Int} (hx : mm_i32 x) (hy : mm_i32 y) : (if Int32.ofInt y < Int32.ofInt x then Int32.ofInt y else Int32.ofInt x) = Int32.ofInt (min x y) := by
  by_cases h : y < x
  · rw [if_pos ((mm_lt hy hx).mpr h), show min x y = y by omega]
  · rw [if_neg (fun w => h ((mm_lt hy hx).mp w)), show min x y = x by omega]
theorem mm_wqG {q : Nat} (hq : q < 286) : GoodIn mm_TW (mm_wq q) := by
  intro w hw
  have hm : w ∈ mm_TW := by
    rcases List.mem_cons.mp hw with e | h
    · rw [e]
      exact (mm_q_ok hq).2.1
    · exact h
  exact ⟨hm, good_of_word (List.mem_filter.mp hm).2⟩
theorem mm_pu_val {g : Nat → Nat → Nat} (t : Nat) (x : Int) (r : List mm_V) : (mm_rv g t x).toList ++ r.map (mm_val g) = (mm_pu t x r).map (mm_val g) := by
  unfold mm_rv mm_pu
  by_cases h : t = 8
  · have b : (t == 8) = true := by simpa using h
    rw [if_pos h, b]
    rfl
  · have b : (t == 8) = false := by simpa using h
    rw [if_neg h, b]
    rfl
section MCC
variable {p : Program} {l : Launch} {e : Env} {d : Nat} {s : State} {m : MethodId} {args : Array Value} {below : List Frame} {meth : Method} {c : Code} {g : Nat → Nat → Nat} {D : va_G} {cy : Nat → ClassId} {Q : State → Prop} {q pc len : Nat} {ls st : List mm_V} {h : mm_H} {aux : List Nat} {val : Int}
variable {s' : Nat × List mm_V × List mm_V × mm_H}
theorem mm_sd_jdk (X : mm_cx p s m args meth c g D cy q) (hlen : ls.length = (mm_prog q).2) {i : Nat} (hd : decode (mm_b q) pc = .ok (.invokestatic i, len)) (hc : mm_chk (mm_xq q) q (pc, .invokestatic i, len, aux, val) = true) (h2 : mm_ck2 (pc, .invokestatic i, len, aux, val) = true) (hv : mm_vl ls st h) (hs : mm_st (pc, .invokestatic i, len, aux, val) ls st h = some (.inr (.inl s'))) (K : mm_G p l e d s m args below meth c g D cy Q s'.1 s'.2.1 s'.2.2.1 s'.2.2.2) : mm_G p l e d s m args below meth c g D cy Q pc ls st h := by
  simp only [mm_st, mm_F] at hs
  obtain ⟨hx, hb, hml, hrt, hlk, hown, hts, hK, hZ, hN, hg⟩ := X
  intro H locs L hP hS hL
  have e0 : len = 3 := by simpa [mm_ck2, mm_ln] using h2
  subst e0
  have hmL : c.maxLocals = L.size := by rw [hml, hL.1, hlen]
  simp only [mm_chk] at hc
  split at hs
  · obtain ⟨-, hs⟩ := mm_bf_some hs
    cases hs
  · rename_i hcd
    rw [hcd] at hc
    obtain ⟨y, r, rfl, ht⟩ := mm_t1_some hs; clear hs; have hs := ht; clear ht
    obtain ⟨x, r, rfl, ht⟩ := mm_t1_some hs; clear hs; have hs := ht; clear ht
    obtain ⟨hw, hs⟩ := mm_ck_some hs
    cases hs
    have w := (mm_pi_ok _ (mm_elem hc)).1 rfl
    refine va_mmin hx hb hmL hown (hts _ w) (hts _ mm_mmin.1) (hts _ mm_mmin.2.1) (hts _ mm_mmin.2.2) (by show 1 ≤ d + 5; omega) (by rw [mm_wds]; show _ ≤ 60 * d + 120; omega) (Nat.le_refl 0) (Nat.le_refl 0) hd ?_
    rw [mm_min hv.pop.2.pop.1 hv.pop.1]
    exact K H locs L hP hS hL
  · rename_i hcd
    rw [hcd] at hc
    obtain ⟨y, r, rfl, ht⟩ := mm_t1_some hs; clear hs; have hs := ht; clear ht
    obtain ⟨x, r, rfl, ht⟩ := mm_t1_some hs; clear hs; have hs := ht; clear ht
    obtain ⟨hw, hs⟩ := mm_ck_some hs
    cases hs
    have w := (mm_pi_ok _ (mm_elem hc)).2.1 rfl
    refine va_mmax hx hb hmL hown (hts _ w) (hts _ mm_mmax.1) (hts _ mm_mmax.2.1) (hts _ mm_mmax.2.2) (by show 1 ≤ d + 5; omega) (by rw [mm_wds]; show _ ≤ 60 * d + 120; omega) (Nat.le_refl 0) (Nat.le_refl 0) hd ?_
    have hy : mm_i32 y := hv.pop.1
    have hx0 : mm_i32 x := hv.pop.2.pop.1
    have k := K H locs L hP hS hL
    refine Eq.mp ?_ k
    refine congrArg (fun z => W p l e (mm_rm d) s m args below meth c H locs 0 0 Q (F0 m (pc + 3) L (Value.int z :: List.map (mm_val g) r))) ?_
    by_cases w1 : x < y
    · have a : Int32.ofInt x < Int32.ofInt y := (mm_lt hx0 hy).mpr w1
      have b : ¬ Int32.ofInt y ≤ Int32.ofInt x := fun z => by have := (mm_le hy hx0).mp z; omega
      have b2 : ¬ Int32.ofInt y < Int32.ofInt x := fun z => by have := (mm_lt hy hx0).mp z; omega
      simp only [a, b, b2, if_true, if_false, show max x y = y by omega]
    · have a : ¬ Int32.ofInt x < Int32.ofInt y := fun z => w1 ((mm_lt hx0 hy).mp z)
      have b : Int32.ofInt y ≤ Int32.ofInt x := (mm_le hy hx0).mpr (by omega)
      by_cases w2 : x = y
      · subst w2
        simp
      · have b2 : Int32.ofInt y < Int32.ofInt x := (mm_lt hy hx0).mpr (by omega)
        simp only [a, b, b2, if_true, if_false, show max x y = x by omega]
  · rename_i hcd
    rw [hcd] at hc
    obtain ⟨x, r, rfl, ht⟩ := mm_t1_some hs; clear hs; have hs := ht; clear ht
    obtain ⟨hw, hs⟩ := mm_ck_some hs
    cases hs
    have w := (mm_pi_ok _ (mm_elem hc)).2.2.1 rfl
    refine va_mabs hx hb hmL hown (hts _ w) (hts _ mm_mabs.1) (hts _ mm_mabs.2.1) (hts _ mm_mabs.2.2) (by show 1 ≤ d + 5; omega) (by rw [mm_wds]; show _ ≤ 60 * d + 120; omega) (Nat.le_refl 0) (Nat.le_refl 0) hd ?_
    have hx0 : mm_i32 x := hv.pop.1
    have k := K H locs L hP hS hL
    refine Eq.mp ?_ k
    refine congrArg (fun z => W p l e (mm_rm d) s m args below meth c H locs 0 0 Q (F0 m (pc + 3) L (Value.int z :: List.map (mm_val g) r))) ?_
    have cv := mm_le mm_z0 hx0
    rw [mm_of0] at cv
    by_cases w1 : x < 0
    · rw [if_pos w1, if_neg (fun z => by have := cv.mp z; omega), mm_ofw, Int32.ofInt_neg]
      simp
    · rw [if_neg w1, if_pos (cv.mpr (by omega)), mm_ofw]
  · rename_i hcd
    rw [hcd] at hc
    obtain ⟨n, r, rfl, ht⟩ := mm_t1_some hs; clear hs; have hs := ht; clear ht
    obtain ⟨j, r, rfl, ht⟩ := mm_t1_some hs; clear hs; have hs := ht; clear ht
    obtain ⟨b, r, rfl, -, -, ht⟩ := mm_an_some hs; clear hs; have hs := ht; clear ht
    obtain ⟨i2, r, rfl, ht⟩ := mm_t1_some hs; clear hs; have hs := ht; clear ht
    obtain ⟨a, r, rfl, -, -, ht⟩ := mm_an_some hs; clear hs; have hs := ht; clear ht
    obtain ⟨hw, hs⟩ := mm_ck_some hs
    obtain ⟨e1, hs⟩ := mm_bf_some hs
    simp only [Bool.and_eq_true, Bool.or_eq_true, beq_iff_eq, decide_eq_true_eq] at e1
    obtain ⟨⟨e1, e2⟩, e3, e4, e5, e6, e7⟩ := e1
    cases hs
    have w := (mm_pi_ok _ (mm_elem hc)).2.2.2.1 rfl
    have ta : ¬ a.1 < 22 := by rcases e1 with q | q <;> exact mm_ak_ge q (by decide)
    have tb : ¬ b.1 < 22 := by rcases e1 with q | q <;> exact mm_ak_ge (e2.trans q) (by decide)
    have vb := hv.pop.2.pop.2.pop.1
    have va := hv.pop.2.pop.2.pop.2.pop.2.pop.1
    have ra := mm_ref va (by omega)
    have rb := mm_ref vb (by omega)
    have la := (mm_ak_le a.1).1
    have lb := (mm_ak_le b.1).1
    have hata := mm_at_arr (g := g) (cy := cy) (h := h) va ta
    have hatb := mm_at_arr (g := g) (cy := cy) (h := h) vb tb
    simp only [List.map_cons, mm_val_ref (g := g) (v := a) (by omega), mm_val_ref (g := g) (v := b) (by omega)]
    have z0 : ∀ {u : Int}, 0 ≤ u → u < 2147483648 → ¬ Int32.ofInt u < 0 := fun {u} h1 h2 z => by
      have := (mm_lt (x := u) (y := 0) ⟨by omega, h2⟩ mm_z0).mp (by rw [mm_of0]; exact z)
      omega
    have hset : ∀ f, mm_ar g (mm_cp h a.2 i2 b.2 j n) b.2.toNat (mm_ak b.1).1 = f → (mm_ws g cy h).set b.2.toNat (g 0 b.2.toNat, .inl (cy (mm_ak b.1).1, (mm_ak b.1).2, f)) = mm_ws g cy (mm_cp h a.2 i2 b.2 j n) := by
      intro f hf
      refine mm_ws_set (by omega) ?_ (fun o' ho => mm_ce_congr (fun k => ?_))
      · rw [mm_ce_arr rb.2.2 tb, hf]
      · unfold mm_cp
        rw [if_neg (fun z => ho (by omega))]
    have cpy : ∀ k : Nat, mm_cp h a.2 i2 b.2 j n ((b.2.toNat : Nat) : Int) (k : Int) = if (Int32.ofInt j).toNatClampNeg ≤ k ∧ k < (Int32.ofInt j).toNatClampNeg + (Int32.ofInt n).toNatClampNeg then h ((a.2.toNat : Nat) : Int) (((Int32.ofInt i2).toNatClampNeg + (k - (Int32.ofInt j).toNatClampNeg) : Nat) : Int) else h ((b.2.toNat : Nat) : Int) (k : Int) := by
      intro k
      rw [mm_clamp e4 (by omega), mm_clamp e5 (by omega), mm_clamp e3 (by omega), mm_cast va (by omega), mm_cast vb (by omega)]
      unfold mm_cp
      by_cases z : j ≤ (k : Int) ∧ (k : Int) < j + n
      · rw [if_pos ⟨rfl, z⟩, if_pos (by omega), show (((i2.toNat + (k - j.toNat) : Nat)) : Int) = i2 + ((k : Int) - j) by omega]
      · rw [if_neg (fun q => z q.2), if_neg (fun q => z (by omega))]
    have nat : nativeFrameWords "java/lang/System" "arraycopy" 5 + 11 ≤ 60 := by decide
    rcases e1 with e1 | e1
    · rw [e1] at hata e2
      rw [e2] at hatb hset
      refine va_copyi hx hb hmL hown (hts _ w) (hts _ mm_mcp.1) (hts _ mm_mcp.2.1) (hts _ mm_mcp.2.2) hK hP (mm_D hg cy h) hS a.2.toNat b.2.toNat 0 0 hata hatb (mm_tys_get (by decide)) (mm_tys_get (by decide)) rfl (sp := Int32.ofInt i2) (dp := Int32.ofInt j) (n := Int32.ofInt n) (z0 e3 (by omega)) (z0 e4 (by omega)) (z0 e5 (by omega)) (by rw [mm_clamp e3 (by omega), mm_clamp e5 (by omega)]; omega) (by rw [mm_clamp e4 (by omega), mm_clamp e5 (by omega)]; omega) (fun _ _ => rfl) (by show 1 ≤ d + 5; omega) (by rw [mm_wds]; show _ ≤ 60 * d + 120; omega) hd (fun H1 locs1 hP1 _ hS1 => ?_)
      rw [hset _ ?_] at hP1
      · exact K H1 locs1 L hP1 hS1 hL
      · show Sum.inl _ = Sum.inl _
        refine congrArg Sum.inl ?_
        funext k
        unfold va_cpy
        rw [cpy k]
        split <;> rfl
    · rw [e1] at hata e2
      rw [e2] at hatb hset
      refine va_copyl hx hb hmL hown (hts _ w) (hts _ mm_mcp.1) (hts _ mm_mcp.2.1) (hts _ mm_mcp.2.2) hK hP (mm_D hg cy h) hS a.2.toNat b.2.toNat 1 1 hata hatb (mm_tys_get (by decide)) (mm_tys_get (by decide)) rfl (sp := Int32.ofInt i2) (dp := Int32.ofInt j) (n := Int32.ofInt n) (z0 e3 (by omega)) (z0 e4 (by omega)) (z0 e5 (by omega)) (by rw [mm_clamp e3 (by omega), mm_clamp e5 (by omega)]; omega) (by rw [mm_clamp e4 (by omega), mm_clamp e5 (by omega)]; omega) (fun _ _ => rfl) (by show 1 ≤ d + 5; omega) (by rw [mm_wds]; show _ ≤ 60 * d + 120; omega) hd (fun H1 locs1 hP1 _ hS1 => ?_)
      rw [hset _ ?_] at hP1
      · exact K H1 locs1 L hP1 hS1 hL
      · show Sum.inr _ = Sum.inr _
        refine congrArg (fun z => Sum.inr (Sum.inl z)) ?_
        funext k
        unfold va_cpy
        rw [cpy k]
        split <;> rfl
  · cases hs
/-- what comes behind a step -/
def mm_Kz (p : Program) (l : Launch) (e : Env) (d : Nat) (s : State) (m : MethodId) (args : Array Value) (below : List Frame) (meth : Method) (c : Code) (g : Nat → Nat → Nat) (D : va_G) (cy : Nat → ClassId) (q : Nat) (oo : mm_O) (z : mm_O ⊕ ((Nat × List mm_V × List mm_V × mm_H) ⊕ (Nat × List mm_V × Nat × Nat × List mm_V × List mm_V × mm_H))) : Prop := match z with
  | .inl o => o = oo
  | .inr (.inl s') => mm_G p l e d s m args below meth c g D cy (MQ below (mm_Q g D cy (mm_rt q) oo) args s 0 0 (mm_A g)) s'.1 s'.2.1 s'.2.2.1 s'.2.2.2
  | .inr (.inr z) => ∃ d' o, d = d' + 1 ∧ Met l (mm_y z.1) (mm_wq z.1) (mm_rm d') (va_Pc (z.2.1.map (mm_val g)) (mm_U g D cy z.2.2.2.2.2.2)) (mm_Q g D cy (mm_rt z.1) o) 0 0 (mm_A g) ∧ mm_G p l e d s m args below meth c g D cy (MQ below (mm_Q g D cy (mm_rt q) oo) args s 0 0 (mm_A g)) z.2.2.2.1 z.2.2.2.2.1 (mm_pu z.2.2.1 o.1 z.2.2.2.2.2.1) o.2
def mm_nx : Instr → Bool
  | .ireturn => false
  | .lreturn => false
  | .areturn => false
  | .return_ => false
  | .invokevirtual _ => false
  | .invokestatic _ => false
  | _ => true
set_option maxHeartbeats 4000000 in
set_option maxRecDepth 100000 in
theorem mm_isnext {ins : Instr} (hn : mm_nx ins = true) {z : mm_O ⊕ ((Nat × List mm_V × List mm_V × mm_H) ⊕ (Nat × List mm_V × Nat × Nat × List mm_V × List mm_V × mm_H))} (hs : mm_st (pc, ins, len, aux, val) ls st h = some z) : ∃ s', z = .inr (.inl s') := by
  have key : mm_st (pc, ins, len, aux, val) ls st h = (mm_F none (fun _ _ => none) (fun pc ls st h => some (pc, ls, st, h)) (fun _ _ _ _ _ _ _ => none) (pc, ins, len, aux, val) ls st h).map fun s => .inr (.inl s) := by
    rw [mm_F_nat (Option.map fun s => Sum.inr (Sum.inl s))]
    cases ins <;> first | rfl | (rename_i c o; cases c <;> rfl) | (simp [mm_nx] at hn)
  rw [key, Option.map_eq_some_iff] at hs
  obtain ⟨a, -, ha⟩ := hs
  exact ⟨a, ha.symm⟩
theorem mm_retQ {H : Heap} {locs : List Loc} {o : mm_O} {v : Option Value} (hv : v = mm_rv g (mm_rt q) o.1) (hP : va_P D vwCl (mm_ws g cy o.2) H) (hS : va_S (mm_A g) s.heap H locs) : ∀ t : State, t.heap = H → s.WarmedH t.vm → mm_Q g D cy (mm_rt q) o args s (.returned v) t := fun t ht _ => ⟨by rw [hv], by rw [ht]; exact hP, hS.F ht⟩
theorem mm_sd_ireturn (X : mm_cx p s m args meth c g D cy q) {oo : mm_O} (hd : decode (mm_b q) pc = .ok (.ireturn, len)) (hc : mm_chk (mm_xq q) q (pc, .ireturn, len, aux, val) = true) (h2 : mm_ck2 (pc, .ireturn, len, aux, val) = true) {z : mm_O ⊕ ((Nat × List mm_V × List mm_V × mm_H) ⊕ (Nat × List mm_V × Nat × Nat × List mm_V × List mm_V × mm_H))} (hs : mm_st (pc, .ireturn, len, aux, val) ls st h = some z) (K : mm_Kz p l e d s m args below meth c g D cy q oo z) : mm_G p l e d s m args below meth c g D cy (MQ below (mm_Q g D cy (mm_rt q) oo) args s 0 0 (mm_A g)) pc ls st h := by
  simp only [mm_st, mm_F] at hs
  obtain ⟨hx, hb, hml, hrt, hlk, -⟩ := X
  intro H locs L hP hS hL
  have e0 : len = 1 := by simpa [mm_ck2, mm_ln] using h2
  subst e0
  obtain ⟨x, r, rfl, ht⟩ := mm_t1_some hs; clear hs; have hs := ht; clear ht
  obtain ⟨rfl, ht⟩ := mm_nl_some hs; clear hs; have hs := ht; clear ht
  simp only [mm_chk] at hc
  cases hr : mm_r q with
  | none => rw [hr] at hc; cases hc
  | some ty =>
    rw [hr] at hc hrt
    cases ty with
    | int =>
      have b : (aux.headD 0 == 5) = false := by simpa using hc
      rw [b] at hs
      cases hs
      have K : (x, h) = oo := K
      subst K
      have et : mm_rt q = 0 := by unfold mm_rt; rw [hr]
      exact W.iret hx hb hrt (mm_retQ (o := (x, h)) (by rw [et]; rfl) hP hS) hS.2.2 hd hlk
    | boolean =>
      have b : (aux.headD 0 == 5) = true := by simpa using hc
      rw [b] at hs
      obtain ⟨e9, hs⟩ := mm_if_some hs
      cases hs
      have K : (x, h) = oo := K
      subst K
      have et : mm_rt q = 0 := by unfold mm_rt; rw [hr]
      exact W.zret hx hb hrt (by rcases e9 with rfl | rfl <;> rfl) (mm_retQ (o := (x, h)) (by rw [et]; rfl) hP hS) hS.2.2 hd hlk
    | _ => cases hc
theorem mm_sd_lreturn (X : mm_cx p s m args meth c g D cy q) {oo : mm_O} (hd : decode (mm_b q) pc = .ok (.lreturn, len)) (hc : mm_chk (mm_xq q) q (pc, .lreturn, len, aux, val) = true) (h2 : mm_ck2 (pc, .lreturn, len, aux, val) = true) {z : mm_O ⊕ ((Nat × List mm_V × List mm_V × mm_H) ⊕ (Nat × List mm_V × Nat × Nat × List mm_V × List mm_V × mm_H))} (hs : mm_st (pc, .lreturn, len, aux, val) ls st h = some z) (K : mm_Kz p l e d s m args below meth c g D cy q oo z) : mm_G p l e d s m args below meth c g D cy (MQ below (mm_Q g D cy (mm_rt q) oo) args s 0 0 (mm_A g)) pc ls st h := by
  simp only [mm_st, mm_F] at hs
  obtain ⟨hx, hb, hml, hrt, hlk, -⟩ := X
  intro H locs L hP hS hL
  have e0 : len = 1 := by simpa [mm_ck2, mm_ln] using h2
  subst e0
  obtain ⟨x, r, rfl, ht⟩ := mm_t1_some hs; clear hs; have hs := ht; clear ht
  obtain ⟨rfl, ht⟩ := mm_nl_some hs; clear hs; have hs := ht; clear ht
  have et : mm_rt q = 1 := by simpa [mm_chk] using hc
  cases hs
  have K : (x, h) = oo := K
  subst K
  have er : mm_r q = some .long := by
    unfold mm_rt at et
    split at et <;> first | assumption | (cases et) | (exfalso; revert et; cases (q == 87) <;> decide)
  rw [er] at hrt
  exact W.lret hx hb hrt (mm_retQ (o := (x, h)) (by rw [et]; rfl) hP hS) hS.2.2 hd hlk
theorem mm_sd_areturn (X : mm_cx p s m args meth c g D cy q) {oo : mm_O} (hd : decode (mm_b q) pc = .ok (.areturn, len)) (hc : mm_chk (mm_xq q) q (pc, .areturn, len, aux, val) = true) (h2 : mm_ck2 (pc, .areturn, len, aux, val) = true) (hv : mm_vl ls st h) {z : mm_O ⊕ ((Nat × List mm_V × List mm_V × mm_H) ⊕ (Nat × List mm_V × Nat × Nat × List mm_V × List mm_V × mm_H))} (hs : mm_st (pc, .areturn, len, aux, val) ls st h = some z) (K : mm_Kz p l e d s m args below meth c g D cy q oo z) : mm_G p l e d s m args below meth c g D cy (MQ below (mm_Q g D cy (mm_rt q) oo) args s 0 0 (mm_A g)) pc ls st h := by
  simp only [mm_st, mm_F] at hs
  obtain ⟨hx, hb, hml, hrt, hlk, -⟩ := X
  intro H locs L hP hS hL
  have e0 : len = 1 := by simpa [mm_ck2, mm_ln] using h2
  subst e0
  simp only [mm_chk] at hc
  cases e9 : aux.headD 0 == 6 with
  | true =>
    rw [e9] at hs hc
    simp only [cond_true, Bool.and_eq_true, beq_iff_eq, decide_eq_true_eq] at hs hc
    obtain ⟨v, r, rfl, -, -, ht⟩ := mm_an_some hs; clear hs; have hs := ht; clear ht
    obtain ⟨rfl, ht⟩ := mm_nl_some hs; clear hs; have hs := ht; clear ht
    obtain ⟨er, et⟩ := hc
    rw [er] at hrt
    cases e6 : v.1 == 6 with
    | true =>
      rw [e6] at hs
      cases hs
      have K : (-1, h) = oo := K
      subst K
      simp only [List.map_cons, List.map_nil, mm_vr6 (g := g) e6]
      exact W.aret hx hb hrt (Or.inl ⟨_, rfl⟩) (Or.inl rfl) (mm_retQ (o := (-1, h)) (by rw [et]; rfl) hP hS) hS.2.2 hd hlk
    | false =>
      rw [e6] at hs
      obtain ⟨e7, hs⟩ := mm_bf_some hs
      have e7 : v.1 = 16 := by simpa using e7
      have hr := mm_ref hv.pop.1 (by omega)
      cases hs
      have K : (v.2, h) = oo := K
      subst K
      have e8 : mm_tv (mm_rt q) v.2 = v := by
        rw [et]
        show (if v.2 < 0 then ((6, 0) : mm_V) else (16, v.2)) = v
        rw [if_neg (by omega), ← e7]
      have e10 : mm_rv g (mm_rt q) v.2 = some (mm_val g v) := by
        unfold mm_rv
        rw [e8, if_neg (by rw [et]; decide)]
      exact W.aret hx hb hrt (Or.inl ⟨_, rfl⟩) (Or.inr ⟨_, mm_vr10 (by rw [e7]; rfl)⟩) (mm_retQ (o := (v.2, h)) e10.symm hP hS) hS.2.2 hd hlk
  | false =>
    rw [e9] at hs hc
    simp only [cond_false, Bool.and_eq_true, beq_iff_eq, decide_eq_true_eq] at hs hc
    obtain ⟨x, r, rfl, ht⟩ := mm_t1_some hs; clear hs; have hs := ht; clear ht
    obtain ⟨rfl, ht⟩ := mm_nl_some hs; clear hs; have hs := ht; clear ht
    obtain ⟨er, et⟩ := hc
    cases hs
    have K : (x, h) = oo := K
    subst K
    rw [er] at hrt
    refine W.aret hx hb hrt (Or.inl ⟨_, rfl⟩) ?_ (mm_retQ (o := (x, h)) (by rw [et]; rfl) hP hS) hS.2.2 hd hlk
    show va_rf (mm_wv g x) = .null ∨ ∃ a, va_rf (mm_wv g x) = .ref a
    cases mm_wv g x with
    | none => exact Or.inl rfl
    | some a => exact Or.inr ⟨a, rfl⟩
theorem mm_sd_return (X : mm_cx p s m args meth c g D cy q) {oo : mm_O} (hd : decode (mm_b q) pc = .ok (.return_, len)) (hc : mm_chk (mm_xq q) q (pc, .return_, len, aux, val) = true) (h2 : mm_ck2 (pc, .return_, len, aux, val) = true) {z : mm_O ⊕ ((Nat × List mm_V × List mm_V × mm_H) ⊕ (Nat × List mm_V × Nat × Nat × List mm_V × List mm_V × mm_H))} (hs : mm_st (pc, .return_, len, aux, val) ls st h = some z) (K : mm_Kz p l e d s m args below meth c g D cy q oo z) : mm_G p l e d s m args below meth c g D cy (MQ below (mm_Q g D cy (mm_rt q) oo) args s 0 0 (mm_A g)) pc ls st h := by
  simp only [mm_st, mm_F] at hs
  obtain ⟨hx, hb, hml, hrt, hlk, -⟩ := X
  intro H locs L hP hS hL
  have e0 : len = 1 := by simpa [mm_ck2, mm_ln] using h2
  subst e0
  obtain ⟨rfl, ht⟩ := mm_nl_some hs; clear hs; have hs := ht; clear ht
  have et : mm_rt q = 8 := by simpa [mm_chk] using hc
  cases hs
  have K : (0, h) = oo := K
  subst K
  have er : mm_r q = none := by
    unfold mm_rt at et
    split at et <;> first | assumption | (cases et) | (exfalso; revert et; cases (q == 87) <;> decide)
  rw [er] at hrt
  exact W.vret hx hb hrt (mm_retQ (o := (0, h)) (by rw [et]; rfl) hP hS) hS.2.2 hd hlk
/-- the state of a callee's entry -/
theorem mm_Uof {H : Heap} {locs : List Loc} {as : List Value} (hP : va_P D vwCl (mm_ws g cy h) H) (hK : va_K D vwCl (mm_tys cy) s) (hZ : mm_Z g (mm_A g) s s.heap) (hN : mm_nw g s) (hr : mm_rg h) (hS : va_S (mm_A g) s.heap H locs) : ∀ U : State, U.heap = H → s.WarmedH U.vm → va_Pc as (mm_U g D cy h) as.toArray U := by
  intro U hU hW
  refine ⟨rfl, by rw [hU]; exact hP, va_K.moved hW.alike hK, ?_, mm_nw.warm hW hN, hr⟩
  rw [hU]
  exact (hZ.moved hW.alike).kept (fun a h1 h2 => hS.2.1 a h1 h2)
theorem mm_cut {n : Nat} (hn : n ≤ st.length) : st = ((st.take n).reverse).reverse ++ st.drop n := by
  rw [List.reverse_reverse, List.take_append_drop]
theorem mm_sd_static (X : mm_cx p s m args meth c g D cy q) (hlen : ls.length = (mm_prog q).2) {i : Nat} (hd : decode (mm_b q) pc = .ok (.invokestatic i, len)) (hc : mm_chk (mm_xq q) q (pc, .invokestatic i, len, aux, val) = true) (h2 : mm_ck2 (pc, .invokestatic i, len, aux, val) = true) (hv : mm_vl ls st h) {z : Nat × List mm_V × Nat × Nat × List mm_V × List mm_V × mm_H} (hs : mm_st (pc, .invokestatic i, len, aux, val) ls st h = some (.inr (.inr z))) {o : mm_O}
    (hM : Met l (mm_y z.1) (mm_wq z.1) (mm_rm d) (va_Pc (z.2.1.map (mm_val g)) (mm_U g D cy z.2.2.2.2.2.2)) (mm_Q g D cy (mm_rt z.1) o) 0 0 (mm_A g))
    (K : mm_G p l e (d + 1) s m args below meth c g D cy Q z.2.2.2.1 z.2.2.2.2.1 (mm_pu z.2.2.1 o.1 z.2.2.2.2.2.1) o.2) : mm_G p l e (d + 1) s m args below meth c g D cy Q pc ls st h := by
  simp only [mm_st, mm_F] at hs
  obtain ⟨hx, hb, hml, hrt, hlk, hown, hts, hK, hZ, hN, hg⟩ := X
  intro H locs L hP hS hL
  have e0 : len = 3 := by simpa [mm_ck2, mm_ln] using h2
  subst e0
  simp only [mm_chk] at hc
  split at hs
  · rename_i hcd
    rw [hcd] at hc
    simp only [Bool.and_eq_true, Bool.or_eq_true, beq_iff_eq] at hc
    obtain ⟨e1, hs⟩ := mm_bf_some hs
    simp only [Bool.and_eq_true, decide_eq_true_eq] at e1
    cases hs
    simp only at hM K
    generalize aux.getD 1 0 = q' at hc hM K ⊢
    obtain ⟨⟨hpm, hna⟩, hrt9⟩ := hc
    rw [hrt9] at K
    have hq' : q' < 286 := by rcases hpm with w | w <;> exact (mm_pm_ok _ (mm_elem w)).1
    obtain ⟨-, hcode, hini, hsta, -, -, hmx, -, hn1, hn2, hpar⟩ := mm_q_ok hq'
    have hsq : mm_sq q' = 1 := by
      rcases hpm with w | w
      · exact (mm_pm_ok _ (mm_elem w)).2.2.2.2 (show ¬ (1 : Nat) = 0 by decide)
      · exact (mm_pm_ok _ (mm_elem w)).2.2.2.2 (show ¬ (2 : Nat) = 0 by decide)
    have hst : (st.map (mm_val g)) = (((st.take (aux.getD 2 0)).reverse).map (mm_val g)).reverse ++ (st.drop (aux.getD 2 0)).map (mm_val g) := by
      rw [← List.map_reverse, ← List.map_append, ← mm_cut e1.1]
    have hlA : (((st.take (aux.getD 2 0)).reverse).map (mm_val g)).length = mm_na q' := by
      rw [List.length_map, List.length_reverse, List.length_take, hna]
      omega
    have hR : (mm_rm d).frames + 1 ≤ (mm_rm (d + 1)).frames ∧ 8 + ((mm_prog q').2 + 11) + (mm_rm d).locals ≤ (mm_rm (d + 1)).locals := ⟨by show d + 5 + 1 ≤ d + 1 + 5; omega, by show 8 + ((mm_prog q').2 + 11) + (60 * d + 120) ≤ 60 * (d + 1) + 120; omega⟩
    have hsz : L.size = (mm_prog q).2 := by rw [hL.1, hlen]
    have hpre : PreS s H (va_Pc (((st.take (aux.getD 2 0)).reverse).map (mm_val g)) (mm_U g D cy h)) (((st.take (aux.getD 2 0)).reverse).map (mm_val g)) := ⟨mm_FB, mm_Uof hP hK hZ hN hv.2.2 hS⟩
    have hroom : (((st.drop (aux.getD 2 0)).map (mm_val g)).map fun v => v.category).sum ≤ 8 := by rw [mm_wds]; exact e1.2
    have fin : ∀ (H1 : Heap) (locs1 : List Loc), va_P D vwCl (mm_ws g cy o.2) H1 → va_S (mm_A g) s.heap H1 locs1 → W p l e (mm_rm (d + 1)) s m args below meth c H1 locs1 0 0 Q (F0 m (pc + 3) L ((mm_rv g (mm_rt q') o.1).toList ++ (st.drop (aux.getD 2 0)).map (mm_val g))) := by
      intro H1 locs1 hP1 hS1
      rw [mm_pu_val]
      exact K H1 locs1 L hP1 hS1 hL
    rcases hpm with w | w
    · have w0 := mm_pm_ok _ (mm_elem w)
      have cw := callB_of (R := mm_rm (d + 1)) (own := mm_xn (mm_xq q)) (index := i) (mm_na q') hts (mm_wqG hq') rfl (rm := mm_rm d) rfl rfl (hts _ hini) (hts _ (w0.2.1 (show (1 : Nat) < 2 by decide))) ⟨hn1, hn2, hpar⟩ hR
      exact mm_call (aa := _) (va_runS (rest := (st.drop (aux.getD 2 0)).map (mm_val g)) ⟨hx, hb, hml, hown, hts⟩ hM ⟨cw, hts _ (hsta hsq)⟩ hpre rfl hlA hsz hst (lv_room hroom) hd ⟨Nat.le_refl 0, Nat.le_refl 0⟩) hS fin
    · have w0 := mm_pm_ok _ (mm_elem w)
      obtain ⟨host, hw9⟩ := w0.2.2.1 rfl
      have cw := va_cnB (R := mm_rm (d + 1)) (own := mm_xn (mm_xq q)) (index := i) (host := host) (mm_na q') hts (mm_wqG hq') rfl (rm := mm_rm d) rfl rfl (hN.1 _ hw9) (hts _ hini) ⟨hn1, hn2, hpar⟩ hR
      exact mm_call (aa := _) (va_runSN (rest := (st.drop (aux.getD 2 0)).map (mm_val g)) ⟨hx, hb, hml, hown, hts⟩ hM ⟨cw, hts _ (hsta hsq), trivial⟩ hpre rfl hlA hsz hst (lv_room hroom) hd ⟨Nat.le_refl 0, Nat.le_refl 0⟩) hS fin
  · obtain ⟨y, r, rfl, ht⟩ := mm_t1_some hs; clear hs; have hs := ht; clear ht
    obtain ⟨x, r, rfl, ht⟩ := mm_t1_some hs; clear hs; have hs := ht; clear ht
    obtain ⟨-, hs⟩ := mm_ck_some hs
    cases hs
  · obtain ⟨y, r, rfl, ht⟩ := mm_t1_some hs; clear hs; have hs := ht; clear ht
    obtain ⟨x, r, rfl, ht⟩ := mm_t1_some hs; clear hs; have hs := ht; clear ht
    obtain ⟨-, hs⟩ := mm_ck_some hs
    cases hs
  · obtain ⟨y, r, rfl, ht⟩ := mm_t1_some hs; clear hs; have hs := ht; clear ht
    obtain ⟨-, hs⟩ := mm_ck_some hs
    cases hs
  · obtain ⟨n, r, rfl, ht⟩ := mm_t1_some hs; clear hs; have hs := ht; clear ht
    obtain ⟨j, r, rfl, ht⟩ := mm_t1_some hs; clear hs; have hs := ht; clear ht
    obtain ⟨b, r, rfl, -, -, ht⟩ := mm_an_some hs; clear hs; have hs := ht; clear ht
    obtain ⟨i2, r, rfl, ht⟩ := mm_t1_some hs; clear hs; have hs := ht; clear ht
    obtain ⟨a, r, rfl, -, -, ht⟩ := mm_an_some hs; clear hs; have hs := ht; clear ht
    obtain ⟨hw, hs⟩ := mm_ck_some hs
    obtain ⟨e1, hs⟩ := mm_bf_some hs
    cases hs
  · cases hs
theorem mm_sd_virtual (X : mm_cx p s m args meth c g D cy q) (hlen : ls.length = (mm_prog q).2) {i : Nat} (hd : decode (mm_b q) pc = .ok (.invokevirtual i, len)) (hc : mm_chk (mm_xq q) q (pc, .invokevirtual i, len, aux, val) = true) (h2 : mm_ck2 (pc, .invokevirtual i, len, aux, val) = true) (hv : mm_vl ls st h) {z : Nat × List mm_V × Nat × Nat × List mm_V × List mm_V × mm_H} (hs : mm_st (pc, .invokevirtual i, len, aux, val) ls st h = some (.inr (.inr z))) {o : mm_O}
    (hM : Met l (mm_y z.1) (mm_wq z.1) (mm_rm d) (va_Pc (z.2.1.map (mm_val g)) (mm_U g D cy z.2.2.2.2.2.2)) (mm_Q g D cy (mm_rt z.1) o) 0 0 (mm_A g))
    (K : mm_G p l e (d + 1) s m args below meth c g D cy Q z.2.2.2.1 z.2.2.2.2.1 (mm_pu z.2.2.1 o.1 z.2.2.2.2.2.1) o.2) : mm_G p l e (d + 1) s m args below meth c g D cy Q pc ls st h := by
  simp only [mm_st, mm_F] at hs
  obtain ⟨hx, hb, hml, hrt, hlk, hown, hts, hK, hZ, hN, hg⟩ := X
  intro H locs L hP hS hL
  have e0 : len = 3 := by simpa [mm_ck2, mm_ln] using h2
  subst e0
  simp only [mm_chk] at hc
  split at hs
  · rename_i hcd
    rw [hcd] at hc
    simp only [Bool.and_eq_true, beq_iff_eq] at hc
    obtain ⟨e1, hs⟩ := mm_bf_some hs
    simp only [Bool.and_eq_true, decide_eq_true_eq] at e1
    cases hs
    simp only at hM K
    obtain ⟨⟨e1, e2⟩, e3⟩ := e1
    obtain ⟨⟨⟨hpm, hna⟩, hrt9⟩, htag⟩ := hc
    generalize aux.getD 1 0 = q' at hpm hna hrt9 htag hM K
    rw [hrt9] at K
    rw [htag] at e3
    have w0 := mm_pm_ok _ (mm_elem hpm)
    have hq' : q' < 286 := w0.1
    obtain ⟨-, hcode, hini, -, hinst, -, hmx, -, hn1, hn2, hpar⟩ := mm_q_ok hq'
    obtain ⟨hi1, hi2, r0, hr0, hrc, g1, g2⟩ := hinst (w0.2.2.2.1 rfl)
    obtain ⟨v, A0, hA⟩ : ∃ v A0, (st.take (aux.getD 2 0)).reverse = v :: A0 ∧ v.1 = mm_xt (mm_xq q') := by
      cases hr : (st.take (aux.getD 2 0)).reverse with
      | nil =>
        have := congrArg List.length hr
        rw [List.length_reverse, List.length_take, hna] at this
        simp only [List.length_nil] at this
        have e1' : mm_na q' + 1 ≤ st.length := by rw [← hna]; exact e1
        omega
      | cons v A0 =>
        have hl : (st.take (aux.getD 2 0)).getLast? = some v := by
          rw [← List.head?_reverse, hr]
          rfl
        rw [hl] at e3
        exact ⟨v, A0, rfl, by simpa using e3⟩
    obtain ⟨hA, hvt⟩ := hA
    have hvm : v ∈ st := List.mem_of_mem_take (List.mem_reverse.mp (by rw [hA]; exact List.mem_cons_self))
    have vv := hv.2.1 v hvm
    have hat := mm_at_obj (g := g) (cy := cy) (h := h) vv (by rw [hvt]; exact g1) (by rw [hvt]; exact g2)
    have hst : (st.map (mm_val g)) = (A0.map (mm_val g)).reverse ++ Value.ref (g 0 v.2.toNat) :: (st.drop (aux.getD 2 0)).map (mm_val g) := by
      have e9 : st.map (mm_val g) = (((st.take (aux.getD 2 0)).reverse).map (mm_val g)).reverse ++ (st.drop (aux.getD 2 0)).map (mm_val g) := by
        rw [← List.map_reverse, ← List.map_append, ← mm_cut e1]
      rw [e9, hA, List.map_cons, List.reverse_cons, List.append_assoc, mm_val_ref (by rw [hvt]; exact g1)]
      rfl
    have hlA : (A0.map (mm_val g)).length = mm_na q' := by
      have := congrArg List.length hA
      rw [List.length_reverse, List.length_take, hna] at this
      rw [List.length_map]
      simp only [List.length_cons] at this
      have e1' : mm_na q' + 1 ≤ st.length := by rw [← hna]; exact e1
      omega
    have hR : (mm_rm d).frames + 1 ≤ (mm_rm (d + 1)).frames ∧ 8 + ((mm_prog q').2 + 11) + (mm_rm d).locals ≤ (mm_rm (d + 1)).locals := ⟨by show d + 5 + 1 ≤ d + 1 + 5; omega, by show 8 + ((mm_prog q').2 + 11) + (60 * d + 120) ≤ 60 * (d + 1) + 120; omega⟩
    have hsz : L.size = (mm_prog q).2 := by rw [hL.1, hlen]
    have hroom : (((st.drop (aux.getD 2 0)).map (mm_val g)).map fun v => v.category).sum ≤ 8 := by rw [mm_wds]; exact e2
    have fin : ∀ (H1 : Heap) (locs1 : List Loc), va_P D vwCl (mm_ws g cy o.2) H1 → va_S (mm_A g) s.heap H1 locs1 → W p l e (mm_rm (d + 1)) s m args below meth c H1 locs1 0 0 Q (F0 m (pc + 3) L ((mm_rv g (mm_rt q') o.1).toList ++ (st.drop (aux.getD 2 0)).map (mm_val g))) := by
      intro H1 locs1 hP1 hS1
      rw [mm_pu_val]
      exact K H1 locs1 L hP1 hS1 hL
    rw [hA, List.map_cons, mm_val_ref (by rw [hvt]; exact g1)] at hM
    have hpre : PreV s H (mm_y q').cls (g 0 v.2.toNat) (va_Pc (Value.ref (g 0 v.2.toNat) :: A0.map (mm_val g)) (mm_U g D cy h)) (A0.map (mm_val g)) := by
      refine ⟨mm_FB, ?_, mm_Uof hP hK hZ hN hv.2.2 hS⟩
      obtain ⟨r9, h9, cell, q1, q2, q3, q4⟩ := hP v.2.toNat _ hat
      simp only at h9
      rw [hvt] at h9
      have er : r9 = r0 := Option.some.inj (h9.symm.trans hr0)
      subst er
      have hcls := (hK.1 _ _ h9).2
      refine ⟨cell, q1, by rw [q3]; rfl, ?_⟩
      rw [← hrc, q2, hvt]
      exact hcls.1
    have cw := callB_of (R := mm_rm (d + 1)) (own := mm_xn (mm_xq q)) (index := i) (mm_na q') hts (mm_wqG hq') rfl (rm := mm_rm d) rfl rfl (hts _ hini) (hts _ (w0.2.1 (show (0 : Nat) < 2 by decide))) ⟨hn1, hn2, hpar⟩ hR
    exact mm_call (aa := _) (va_runV (C := (mm_y q').cls) (rest := (st.drop (aux.getD 2 0)).map (mm_val g)) ⟨hx, hb, hml, hown, hts⟩ hM ⟨cw, hts _ hi1, hts _ hi2⟩ hpre rfl hlA hsz hst (lv_room hroom) hd ⟨Nat.le_refl 0, Nat.le_refl 0⟩) hS fin
  · obtain ⟨y, r, rfl, ht⟩ := mm_t1_some hs; clear hs; have hs := ht; clear ht
    obtain ⟨-, hs⟩ := mm_ck_some hs
    cases hs
  · obtain ⟨y, r, rfl, ht⟩ := mm_t1_some hs; clear hs; have hs := ht; clear ht
    obtain ⟨x, r, rfl, ht⟩ := mm_t1_some hs; clear hs; have hs := ht; clear ht
    obtain ⟨-, hs⟩ := mm_ck_some hs
    obtain ⟨-, hs⟩ := mm_if_some hs
    cases hs
  · cases hs
end MCC
