/-! A run of the small machine is a run of the machine -/
section MR
variable {p : Program} {l : Launch} {e : Env} {d : Nat} {s : State} {m : MethodId} {args : Array Value} {below : List Frame} {meth : Method} {c : Code} {g : Nat → Nat → Nat} {D : va_G} {cy : Nat → ClassId} {q pc len : Nat} {ls st : List mm_V} {h : mm_H} {aux : List Nat} {val : Int}
/-- the text constants and the two members of String that the class asks: owed -/
def mm_str (l : Launch) : Prop := ∀ {p : Program} {e : Env} {d : Nat} {s : State} {m : MethodId} {args : Array Value} {below : List Frame} {meth : Method} {c : Code} {g : Nat → Nat → Nat} {D : va_G} {cy : Nat → ClassId} {Q : State → Prop} {q pc len : Nat} {ls st : List mm_V} {h : mm_H} {aux : List Nat} {val : Int} {ins : Instr} {s' : Nat × List mm_V × List mm_V × mm_H} (_ : mm_cx p s m args meth c g D cy q) (_ : ls.length = (mm_prog q).2) (_ : (∃ i, ins = .ldc_w i ∧ aux.headD 0 = 3) ∨ (∃ i, ins = .invokevirtual i ∧ ¬ aux.getD 0 9 = 0)) (_ : decode (mm_b q) pc = .ok (ins, len)) (_ : mm_chk (mm_xq q) q (pc, ins, len, aux, val) = true) (_ : mm_ck2 (pc, ins, len, aux, val) = true) (_ : mm_vl ls st h) (_ : mm_st (pc, ins, len, aux, val) ls st h = some (.inr (.inl s'))) (_ : mm_G p l e d s m args below meth c g D cy Q s'.1 s'.2.1 s'.2.2.1 s'.2.2.2), mm_G p l e d s m args below meth c g D cy Q pc ls st h
set_option maxHeartbeats 8000000 in
set_option maxRecDepth 100000 in
theorem mm_step (hstr : mm_str l) {ins : Instr} {oo : mm_O} (X : mm_cx p s m args meth c g D cy q) (hlen : ls.length = (mm_prog q).2) (hd : decode (mm_b q) pc = .ok (ins, len)) (hc : mm_chk (mm_xq q) q (pc, ins, len, aux, val) = true) (h2 : mm_ck2 (pc, ins, len, aux, val) = true) (hv : mm_vl ls st h) {z : mm_O ⊕ ((Nat × List mm_V × List mm_V × mm_H) ⊕ (Nat × List mm_V × Nat × Nat × List mm_V × List mm_V × mm_H))} (hs : mm_st (pc, ins, len, aux, val) ls st h = some z) (K : mm_Kz p l e d s m args below meth c g D cy q oo z) :
    mm_G p l e d s m args below meth c g D cy (MQ below (mm_Q g D cy (mm_rt q) oo) args s 0 0 (mm_A g)) pc ls st h := by
  cases ins
  case iconst n =>
    obtain ⟨s', rfl⟩ := mm_isnext rfl hs
    exact mm_sd_iconst X hd h2 hv hs K
  case bipush n =>
    obtain ⟨s', rfl⟩ := mm_isnext rfl hs
    exact mm_sd_bipush X hd h2 hv hs K
  case sipush n =>
    obtain ⟨s', rfl⟩ := mm_isnext rfl hs
    exact mm_sd_sipush X hd h2 hv hs K
  case lconst n =>
    obtain ⟨s', rfl⟩ := mm_isnext rfl hs
    exact mm_sd_lconst X hd h2 hv hs K
  case iload_n i =>
    obtain ⟨s', rfl⟩ := mm_isnext rfl hs
    exact mm_sd_iload_n X hd h2 hv hs K
  case iload i =>
    obtain ⟨s', rfl⟩ := mm_isnext rfl hs
    exact mm_sd_iload X hd h2 hv hs K
  case lload_n i =>
    obtain ⟨s', rfl⟩ := mm_isnext rfl hs
    exact mm_sd_lload_n X hd h2 hv hs K
  case lload i =>
    obtain ⟨s', rfl⟩ := mm_isnext rfl hs
    exact mm_sd_lload X hd h2 hv hs K
  case aload_n i =>
    obtain ⟨s', rfl⟩ := mm_isnext rfl hs
    exact mm_sd_aload_n X hd h2 hv hs K
  case aload i =>
    obtain ⟨s', rfl⟩ := mm_isnext rfl hs
    exact mm_sd_aload X hd h2 hv hs K
  case istore_n i =>
    obtain ⟨s', rfl⟩ := mm_isnext rfl hs
    exact mm_sd_istore_n X hd h2 hv hs K
  case istore i =>
    obtain ⟨s', rfl⟩ := mm_isnext rfl hs
    exact mm_sd_istore X hd h2 hv hs K
  case lstore_n i =>
    obtain ⟨s', rfl⟩ := mm_isnext rfl hs
    exact mm_sd_lstore_n X hd h2 hv hs K
  case lstore i =>
    obtain ⟨s', rfl⟩ := mm_isnext rfl hs
    exact mm_sd_lstore X hd h2 hv hs K
  case astore_n i =>
    obtain ⟨s', rfl⟩ := mm_isnext rfl hs
    exact mm_sd_astore_n X hd h2 hv hs K
  case astore i =>
    obtain ⟨s', rfl⟩ := mm_isnext rfl hs
    exact mm_sd_astore X hd h2 hv hs K
  case iinc i n =>
    obtain ⟨s', rfl⟩ := mm_isnext rfl hs
    exact mm_sd_iinc X hd h2 hv hs K
  case iadd =>
    obtain ⟨s', rfl⟩ := mm_isnext rfl hs
    exact mm_sd_iadd X hd h2 hv hs K
  case isub =>
    obtain ⟨s', rfl⟩ := mm_isnext rfl hs
    exact mm_sd_isub X hd h2 hv hs K
  case imul =>
    obtain ⟨s', rfl⟩ := mm_isnext rfl hs
    exact mm_sd_imul X hd h2 hv hs K
  case idiv =>
    obtain ⟨s', rfl⟩ := mm_isnext rfl hs
    exact mm_sd_idiv X hd h2 hv hs K
  case irem =>
    obtain ⟨s', rfl⟩ := mm_isnext rfl hs
    exact mm_sd_irem X hd h2 hv hs K
  case ineg =>
    obtain ⟨s', rfl⟩ := mm_isnext rfl hs
    exact mm_sd_ineg X hd h2 hv hs K
  case iand =>
    obtain ⟨s', rfl⟩ := mm_isnext rfl hs
    exact mm_sd_iand X hd h2 hv hs K
  case ior =>
    obtain ⟨s', rfl⟩ := mm_isnext rfl hs
    exact mm_sd_ior X hd h2 hv hs K
  case ixor =>
    obtain ⟨s', rfl⟩ := mm_isnext rfl hs
    exact mm_sd_ixor X hd h2 hv hs K
  case ishl =>
    obtain ⟨s', rfl⟩ := mm_isnext rfl hs
    exact mm_sd_ishl X hd h2 hv hs K
  case ishr =>
    obtain ⟨s', rfl⟩ := mm_isnext rfl hs
    exact mm_sd_ishr X hd h2 hv hs K
  case iushr =>
    obtain ⟨s', rfl⟩ := mm_isnext rfl hs
    exact mm_sd_iushr X hd h2 hv hs K
  case ladd =>
    obtain ⟨s', rfl⟩ := mm_isnext rfl hs
    exact mm_sd_ladd X hd h2 hv hs K
  case lsub =>
    obtain ⟨s', rfl⟩ := mm_isnext rfl hs
    exact mm_sd_lsub X hd h2 hv hs K
  case lmul =>
    obtain ⟨s', rfl⟩ := mm_isnext rfl hs
    exact mm_sd_lmul X hd h2 hv hs K
  case ldiv =>
    obtain ⟨s', rfl⟩ := mm_isnext rfl hs
    exact mm_sd_ldiv X hd h2 hv hs K
  case lrem =>
    obtain ⟨s', rfl⟩ := mm_isnext rfl hs
    exact mm_sd_lrem X hd h2 hv hs K
  case lor =>
    obtain ⟨s', rfl⟩ := mm_isnext rfl hs
    exact mm_sd_lor X hd h2 hv hs K
  case lshl =>
    obtain ⟨s', rfl⟩ := mm_isnext rfl hs
    exact mm_sd_lshl X hd h2 hv hs K
  case lushr =>
    obtain ⟨s', rfl⟩ := mm_isnext rfl hs
    exact mm_sd_lushr X hd h2 hv hs K
  case lcmp =>
    obtain ⟨s', rfl⟩ := mm_isnext rfl hs
    exact mm_sd_lcmp X hd h2 hv hs K
  case i2l =>
    obtain ⟨s', rfl⟩ := mm_isnext rfl hs
    exact mm_sd_i2l X hd h2 hv hs K
  case l2i =>
    obtain ⟨s', rfl⟩ := mm_isnext rfl hs
    exact mm_sd_l2i X hd h2 hv hs K
  case i2b =>
    obtain ⟨s', rfl⟩ := mm_isnext rfl hs
    exact mm_sd_i2b X hd h2 hv hs K
  case dup =>
    obtain ⟨s', rfl⟩ := mm_isnext rfl hs
    exact mm_sd_dup X hd h2 hv hs K
  case dup2 =>
    obtain ⟨s', rfl⟩ := mm_isnext rfl hs
    exact mm_sd_dup2 X hd h2 hv hs K
  case pop =>
    obtain ⟨s', rfl⟩ := mm_isnext rfl hs
    exact mm_sd_pop X hd h2 hv hs K
  case goto o =>
    obtain ⟨s', rfl⟩ := mm_isnext rfl hs
    exact mm_sd_goto X hd h2 hv hs K
  case tableswitch a b c d =>
    obtain ⟨s', rfl⟩ := mm_isnext rfl hs
    exact mm_sd_tableswitch X hd h2 hv hs K
  case lookupswitch a b =>
    obtain ⟨s', rfl⟩ := mm_isnext rfl hs
    exact mm_sd_lookupswitch X hd h2 hv hs K
  case ldc i =>
    obtain ⟨s', rfl⟩ := mm_isnext rfl hs
    exact mm_sd_ldc X hd hc h2 hv hs K
  case ldc2_w i =>
    obtain ⟨s', rfl⟩ := mm_isnext rfl hs
    exact mm_sd_ldc2_w X hd hc h2 hv hs K
  case getstatic i =>
    obtain ⟨s', rfl⟩ := mm_isnext rfl hs
    exact mm_sd_getstatic X hd hc h2 hv hs K
  case getfield i =>
    obtain ⟨s', rfl⟩ := mm_isnext rfl hs
    exact mm_sd_getfield X hd hc h2 hv hs K
  case putfield i =>
    obtain ⟨s', rfl⟩ := mm_isnext rfl hs
    exact mm_sd_putfield X hd hc h2 hv hs K
  case aconst_null =>
    obtain ⟨s', rfl⟩ := mm_isnext rfl hs
    exact mm_sd_aconst_null X hd h2 hv hs K
  case ifnull o =>
    obtain ⟨s', rfl⟩ := mm_isnext rfl hs
    exact mm_sd_ifnull X hd h2 hv hs K
  case ifnonnull o =>
    obtain ⟨s', rfl⟩ := mm_isnext rfl hs
    exact mm_sd_ifnonnull X hd h2 hv hs K
  case arraylength =>
    obtain ⟨s', rfl⟩ := mm_isnext rfl hs
    exact mm_sd_arraylength X hd hc h2 hv hs K
  case iaload =>
    obtain ⟨s', rfl⟩ := mm_isnext rfl hs
    exact mm_sd_iaload X hd hc h2 hv hs K
  case laload =>
    obtain ⟨s', rfl⟩ := mm_isnext rfl hs
    exact mm_sd_laload X hd hc h2 hv hs K
  case baload =>
    obtain ⟨s', rfl⟩ := mm_isnext rfl hs
    exact mm_sd_baload X hd hc h2 hv hs K
  case aaload =>
    obtain ⟨s', rfl⟩ := mm_isnext rfl hs
    exact mm_sd_aaload X hd hc h2 hv hs K
  case iastore =>
    obtain ⟨s', rfl⟩ := mm_isnext rfl hs
    exact mm_sd_iastore X hd hc h2 hv hs K
  case lastore =>
    obtain ⟨s', rfl⟩ := mm_isnext rfl hs
    exact mm_sd_lastore X hd hc h2 hv hs K
  case bastore =>
    obtain ⟨s', rfl⟩ := mm_isnext rfl hs
    exact mm_sd_bastore X hd hc h2 hv hs K
  case aastore =>
    obtain ⟨s', rfl⟩ := mm_isnext rfl hs
    exact mm_sd_aastore X hd hc h2 hv hs K
  case ifCond cc o =>
    obtain ⟨s', rfl⟩ := mm_isnext rfl hs
    cases cc
    case eq => exact mm_sd_if_eq X hd h2 hv hs K
    case ne => exact mm_sd_if_ne X hd h2 hv hs K
    case lt => exact mm_sd_if_lt X hd h2 hv hs K
    case ge => exact mm_sd_if_ge X hd h2 hv hs K
    case gt => exact mm_sd_if_gt X hd h2 hv hs K
    case le => exact mm_sd_if_le X hd h2 hv hs K
  case if_icmp cc o =>
    obtain ⟨s', rfl⟩ := mm_isnext rfl hs
    cases cc
    case eq => exact mm_sd_icmp_eq X hd h2 hv hs K
    case ne => exact mm_sd_icmp_ne X hd h2 hv hs K
    case lt => exact mm_sd_icmp_lt X hd h2 hv hs K
    case ge => exact mm_sd_icmp_ge X hd h2 hv hs K
    case gt => exact mm_sd_icmp_gt X hd h2 hv hs K
    case le => exact mm_sd_icmp_le X hd h2 hv hs K
  case if_acmp cc o =>
    obtain ⟨s', rfl⟩ := mm_isnext rfl hs
    cases cc
    case eq => exact mm_sd_acmp_eq X hd h2 hv hs K
    case ne => exact mm_sd_acmp_ne X hd h2 hv hs K
  case ldc_w i =>
    obtain ⟨s', rfl⟩ := mm_isnext rfl hs
    have hc0 := hc
    simp only [mm_chk, Bool.and_eq_true, Bool.or_eq_true, beq_iff_eq] at hc
    rcases hc with ⟨e1, hm⟩ | ⟨e1, hm⟩
    · exact mm_sd_ldc_w X hd (fun _ => hm) e1 h2 hs K
    · exact hstr X hlen (Or.inl ⟨i, rfl, e1⟩) hd hc0 h2 hv hs K
  case ireturn => exact mm_sd_ireturn X hd hc h2 hs K
  case lreturn => exact mm_sd_lreturn X hd hc h2 hs K
  case areturn => exact mm_sd_areturn X hd hc h2 hv hs K
  case return_ => exact mm_sd_return X hd hc h2 hs K
  case invokestatic i =>
    rcases z with z | z | z
    · exfalso
      simp only [mm_st, mm_F] at hs
      split at hs
      · obtain ⟨-, hs⟩ := mm_bf_some hs
        cases hs
      · obtain ⟨y, r, rfl, ht⟩ := mm_t1_some hs
        obtain ⟨x, r, rfl, ht⟩ := mm_t1_some ht
        obtain ⟨-, ht⟩ := mm_ck_some ht
        cases ht
      · obtain ⟨y, r, rfl, ht⟩ := mm_t1_some hs
        obtain ⟨x, r, rfl, ht⟩ := mm_t1_some ht
        obtain ⟨-, ht⟩ := mm_ck_some ht
        cases ht
      · obtain ⟨y, r, rfl, ht⟩ := mm_t1_some hs
        obtain ⟨-, ht⟩ := mm_ck_some ht
        cases ht
      · obtain ⟨n, r, rfl, h1⟩ := mm_t1_some hs
        obtain ⟨j, r, rfl, h2⟩ := mm_t1_some h1
        obtain ⟨b, r, rfl, -, -, h3⟩ := mm_an_some h2
        obtain ⟨i2, r, rfl, h4⟩ := mm_t1_some h3
        obtain ⟨a, r, rfl, -, -, h5⟩ := mm_an_some h4
        obtain ⟨hw, h6⟩ := mm_ck_some h5
        obtain ⟨e1, h7⟩ := mm_bf_some h6
        cases h7
      · cases hs
    · exact mm_sd_jdk X hlen hd hc h2 hv hs K
    · obtain ⟨d', o, rfl, hM, K⟩ := K
      exact mm_sd_static X hlen hd hc h2 hv hs hM K
  case invokevirtual i =>
    rcases z with z | z | z
    · exfalso
      simp only [mm_st, mm_F] at hs
      split at hs
      · obtain ⟨-, hs⟩ := mm_bf_some hs
        cases hs
      · obtain ⟨y, r, rfl, ht⟩ := mm_t1_some hs
        obtain ⟨-, ht⟩ := mm_ck_some ht
        cases ht
      · obtain ⟨y, r, rfl, h1⟩ := mm_t1_some hs
        obtain ⟨x, r, rfl, h2⟩ := mm_t1_some h1
        obtain ⟨-, h3⟩ := mm_ck_some h2
        obtain ⟨-, h4⟩ := mm_if_some h3
        cases h4
      · cases hs
    · refine hstr X hlen (Or.inr ⟨i, rfl, fun w => ?_⟩) hd hc h2 hv hs K
      simp only [mm_st, mm_F] at hs
      rw [w] at hs
      obtain ⟨-, hs⟩ := mm_bf_some hs
      cases hs
    · obtain ⟨d', o, rfl, hM, K⟩ := K
      exact mm_sd_virtual X hlen hd hc h2 hv hs hM K
  all_goals (simp only [mm_st, mm_F] at hs; cases hs)
end MR
theorem mm_fr_len {n : Nat} {as : List mm_V} (hl : (mm_en as).length ≤ n) : (mm_fr n as).length = n := by
  unfold mm_fr
  rw [List.length_append, List.length_replicate]
  omega
theorem mm_vl_fr {n : Nat} {as : List mm_V} {h : mm_H} (hv : ∀ v ∈ as, mm_vok v) (hr : mm_rg h) : mm_vl (mm_fr n as) [] h := by
  refine ⟨fun i v hi h9 => ?_, fun v hv => absurd hv List.not_mem_nil, hr⟩
  unfold mm_fr at hi
  rw [List.getElem?_append] at hi
  split at hi
  · exact hv v (mm_en_in (g := fun _ _ => 0) as 0 i v hi h9).1
  · rw [List.getElem?_replicate] at hi
    split at hi
    · cases hi
      exact absurd rfl h9
    · cases hi
theorem mm_vl_pu {t : Nat} {o : mm_O} {ls st : List mm_V} {h : mm_H} (hv : mm_vl ls st h) (hr : mm_ro t o) : mm_vl ls (mm_pu t o.1 st) o.2 := by
  unfold mm_pu
  by_cases e : t = 8
  · have b : (t == 8) = true := by simpa using e
    rw [b]
    exact hv.heap hr.2
  · have b : (t == 8) = false := by simpa using e
    rw [b]
    exact (hv.heap hr.2).push (hr.1 e)
theorem mm_xro : ∀ (n d q pc : Nat) (ls st : List mm_V) (h : mm_H) (o : mm_O), q < 286 → mm_x mm_prog n d (mm_prog q).1 pc ls st h = some o → mm_vl ls st h → ls.length = (mm_prog q).2 → mm_ro (mm_rt q) o
  | 0, _, _, _, _, _, _, _, _, hr, _, _ => by simp [mm_x] at hr
  | n + 1, d, q, pc, ls, st, h, o, hq, hr, hv, hl => by
    rw [mm_x_S] at hr
    cases h1 : mm_at (mm_prog q).1 pc with
    | none => rw [h1] at hr; cases hr
    | some e9 =>
      rw [h1] at hr
      simp only at hr
      obtain ⟨r1, r2, r3, r4⟩ := mm_row hq h1
      cases h2 : mm_st e9 ls st h with
      | none => rw [h2] at hr; cases hr
      | some z =>
        rw [h2] at hr
        have hz := mm_pres r3 r4 hv h2
        rcases z with z | z | z
        · cases hr
          exact hz
        · exact mm_xro n d q _ _ _ _ o hq hr hz.1 (hz.2.trans hl)
        · simp only [mm_cl] at hr
          cases d with
          | zero => cases hr
          | succ d' =>
            simp only at hr
            cases e5 : decide ((mm_en z.2.1).length ≤ (mm_prog z.1).2) with
            | false => rw [e5] at hr; cases hr
            | true =>
              rw [e5] at hr
              simp only [cond_true, Option.bind_eq_some_iff] at hr
              obtain ⟨o1, q1, q2⟩ := hr
              obtain ⟨z1, z2, z3, z4, z5⟩ := hz
              have e5 : (mm_en z.2.1).length ≤ (mm_prog z.1).2 := by simpa using e5
              have ro := mm_xro n d' z.1 0 _ [] _ o1 z1 q1 (mm_vl_fr z2 z4.2.2) (mm_fr_len e5)
              refine mm_xro n (d' + 1) q _ _ _ _ o hq q2 ?_ (by rw [z5]; exact hl)
              rw [z3]
              exact mm_vl_pu z4 ro
theorem mm_met_of {l : Launch} {d q : Nat} {as : List mm_V} {h : mm_H} {o : mm_O} {g : Nat → Nat → Nat} {D : va_G} {cy : Nat → ClassId} (hq : q < 286) (hg : mm_inj g)
    (hrun : ∀ (p : Program) (e : Env) (s : State) (m : MethodId) (args : Array Value) (below : List Frame) (meth : Method) (c : Code), mm_cx p s m args meth c g D cy q → mm_vl (mm_fr (mm_prog q).2 as) [] h → mm_G p l e d s m args below meth c g D cy (MQ below (mm_Q g D cy (mm_rt q) o) args s 0 0 (mm_A g)) 0 (mm_fr (mm_prog q).2 as) [] h)
    (hv : ∀ v ∈ as, mm_vok v) (hl : (mm_en as).length ≤ (mm_prog q).2) : Met l (mm_y q) (mm_wq q) (mm_rm d) (va_Pc (as.map (mm_val g)) (mm_U g D cy h)) (mm_Q g D cy (mm_rt q) o) 0 0 (mm_A g) := by
  obtain ⟨-, -, -, -, -, hcls, -, hpl, -⟩ := mm_q_ok hq
  refine Met.ofW (cc := mm_b q) (maxL := (mm_prog q).2) (ret := mm_r q) hpl rfl ?_
  intro p e s m args below meth c s₁ B hml hPc
  obtain ⟨rfl, hP, hK, hZ, hN, hR⟩ := hPc
  have hts := atoms_spec (ws := mm_wq q) B.pre
  have hown : s.vm.findClass (mm_y q).cls = some m.cls := findClass_of_methodNamed B.named
  rw [hcls] at hown
  have X : mm_cx p s m (as.map (mm_val g)).toArray meth c g D cy q := ⟨B.exec, B.bytes, hml, B.returns, B.notSynchronized, hown, fun w hw => hts w (List.mem_cons_of_mem _ hw), hK, hZ, hN, hg⟩
  rw [lg_entry_eq]
  exact hrun p e s m _ below meth c X (mm_vl_fr hv hR) s.heap [] _ hP va_S.rf (mm_lr_entry hl hv)
theorem mm_run {l : Launch} (hstr : mm_str l) : ∀ (n d q pc : Nat) (ls st : List mm_V) (h : mm_H) (o : mm_O), q < 286 → mm_x mm_prog n d (mm_prog q).1 pc ls st h = some o → mm_vl ls st h → ls.length = (mm_prog q).2 → ∀ (p : Program) (e : Env) (s : State) (m : MethodId) (args : Array Value) (below : List Frame) (meth : Method) (c : Code) (g : Nat → Nat → Nat) (D : va_G) (cy : Nat → ClassId), mm_cx p s m args meth c g D cy q → mm_G p l e d s m args below meth c g D cy (MQ below (mm_Q g D cy (mm_rt q) o) args s 0 0 (mm_A g)) pc ls st h
  | 0, _, _, _, _, _, _, _, _, hr, _, _ => by simp [mm_x] at hr
  | n + 1, d, q, pc, ls, st, h, o, hq, hr, hv, hl => by
    intro p e s m args below meth c g D cy X
    rw [mm_x_S] at hr
    cases h1 : mm_at (mm_prog q).1 pc with
    | none => rw [h1] at hr; cases hr
    | some e9 =>
      rw [h1] at hr
      simp only at hr
      obtain ⟨r1, r2, r3, r4⟩ := mm_row hq h1
      cases h2 : mm_st e9 ls st h with
      | none => rw [h2] at hr; cases hr
      | some z =>
        rw [h2] at hr
        have hz := mm_pres r3 r4 hv h2
        obtain ⟨pc9, ins, len, aux, val⟩ := e9
        simp only at r1 r2
        subst r1
        refine mm_step hstr X hl r2 r3 r4 hv h2 ?_
        rcases z with z | z | z
        · cases hr
          exact rfl
        · exact mm_run hstr n d q _ _ _ _ o hq hr hz.1 (hz.2.trans hl) p e s m args below meth c g D cy X
        · simp only [mm_cl] at hr
          cases d with
          | zero => cases hr
          | succ d' =>
            simp only at hr
            cases e5 : decide ((mm_en z.2.1).length ≤ (mm_prog z.1).2) with
            | false => rw [e5] at hr; cases hr
            | true =>
              rw [e5] at hr
              simp only [cond_true, Option.bind_eq_some_iff] at hr
              obtain ⟨o1, q1, q2⟩ := hr
              obtain ⟨z1, z2, z3, z4, z5⟩ := hz
              have e5 : (mm_en z.2.1).length ≤ (mm_prog z.1).2 := by simpa using e5
              have ro := mm_xro n d' z.1 0 _ [] _ o1 z1 q1 (mm_vl_fr z2 z4.2.2) (mm_fr_len e5)
              refine ⟨d', o1, rfl, mm_met_of z1 X.2.2.2.2.2.2.2.2.2.2 (fun p e s m args below meth c X9 hv9 => mm_run hstr n d' z.1 0 _ [] _ o1 z1 q1 hv9 (mm_fr_len e5) p e s m args below meth c g D cy X9) z2 e5, ?_⟩
              refine mm_run hstr n (d' + 1) q _ _ _ _ o hq q2 ?_ (by rw [z5]; exact hl) p e s m args below meth c g D cy X
              rw [z3]
              exact mm_vl_pu z4 ro
/-- a method's contract out of its run in the small machine -/
theorem mm_met {l : Launch} (hstr : mm_str l) {d q : Nat} {as : List mm_V} {h : mm_H} {o : mm_O} {g : Nat → Nat → Nat} {D : va_G} {cy : Nat → ClassId} (hq : q < 286) (hg : mm_inj g) (hr : mm_M mm_prog (d + 1) q as h = some o) (hv : ∀ v ∈ as, mm_vok v) : Met l (mm_y q) (mm_wq q) (mm_rm d) (va_Pc (as.map (mm_val g)) (mm_U g D cy h)) (mm_Q g D cy (mm_rt q) o) 0 0 (mm_A g) := by
  simp only [mm_M] at hr
  cases e5 : decide ((mm_en as).length ≤ (mm_prog q).2) with
  | false => rw [e5] at hr; cases hr
  | true =>
    rw [e5] at hr
    have e5 : (mm_en as).length ≤ (mm_prog q).2 := by simpa using e5
    obtain ⟨n, hn⟩ := (mm_R_iff _ _ _ _ _ _ _ _).mp hr
    exact mm_met_of hq hg (fun p e s m args below meth c X9 hv9 => mm_run hstr n d q 0 _ [] _ o hq hn hv9 (mm_fr_len e5) p e s m args below meth c g D cy X9) hv e5
theorem mm_met_ro {d q : Nat} {as : List mm_V} {h : mm_H} {o : mm_O} (hq : q < 286) (hr : mm_M mm_prog (d + 1) q as h = some o) (hv : ∀ v ∈ as, mm_vok v) (hh : mm_rg h) : mm_ro (mm_rt q) o := by
  simp only [mm_M] at hr
  cases e5 : decide ((mm_en as).length ≤ (mm_prog q).2) with
  | false => rw [e5] at hr; cases hr
  | true =>
    rw [e5] at hr
    have e5 : (mm_en as).length ≤ (mm_prog q).2 := by simpa using e5
    obtain ⟨n, hn⟩ := (mm_R_iff _ _ _ _ _ _ _ _).mp hr
    exact mm_xro n d q 0 _ [] _ o hq hn (mm_vl_fr hv hh) (mm_fr_len e5)
