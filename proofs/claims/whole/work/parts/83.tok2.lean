/-! Letters and digits joined; the reference's token -/
def chs (B : Int → Int) (p : Int) (k : Nat) : List Int := (List.range k).map (fun i => B (p + (i : Nat)))
theorem chs_S (B : Int → Int) (p : Int) (k : Nat) : chs B p (k + 1) = chs B p k ++ [B (p + k)] := by
  unfold chs
  rw [List.range_succ, List.map_append]
  rfl
theorem chs_len (B : Int → Int) (p : Int) (k : Nat) : (chs B p k).length = k := by
  unfold chs
  rw [List.length_map, List.length_range]
theorem chs_mem {B : Int → Int} {p x : Int} {k : Nat} (h : x ∈ chs B p k) : ∃ j, p ≤ j ∧ j < p + k ∧ x = B j := by
  unfold chs at h
  rw [List.mem_map] at h
  obtain ⟨i, hi, e⟩ := h
  rw [List.mem_range] at hi
  exact ⟨p + (i : Nat), by omega, by omega, e.symm⟩
theorem chs_l {B : Int → Int} {p q : Int} (hl : ∀ j, p ≤ j → j < q → 97 ≤ B j ∧ B j ≤ 122) {k : Nat} (hk : p + k ≤ q) : ∀ x ∈ chs B p k, 97 ≤ x ∧ x ≤ 122 := fun x hx => by
  obtain ⟨j, j0, j1, e⟩ := chs_mem hx
  rw [e]
  exact hl j j0 (by omega)
/-- three digits -/
theorem dec_bd {B : Int → Int} {p q : Int} (hl : ∀ j, p ≤ j → j < q → 48 ≤ B j ∧ B j ≤ 57) : ∀ k : Nat, k ≤ 3 → p + k ≤ q → 0 ≤ f_enc 10 48 (chs B p k) ∧ f_enc 10 48 (chs B p k) + 1 ≤ 10 ^ k
  | 0, _, _ => by
    show 0 ≤ (0 : Int) ∧ (0 : Int) + 1 ≤ 10 ^ 0
    decide
  | k + 1, hk, hq => by
    have ih := dec_bd hl k (by omega) (by omega)
    have b := hl (p + k) (by omega) (by omega)
    rw [chs_S, f_enc_app, Int.pow_succ]
    omega
theorem p10 : ∀ k : Nat, k ≤ 3 → (10 : Int) ^ k ≤ 1000 := by decide
/-- what readTokens's loop changes of the class's heap -/
def tkF (c c' : mm_H) : Prop := ∀ o k, ¬ (o = 1 ∧ (k = 3 ∨ k = 6 ∨ k = 7)) → c' o k = c o k
theorem tkF.rf (c : mm_H) : tkF c c := fun _ _ _ => rfl
theorem tkF.tr {a b c : mm_H} (h1 : tkF a b) (h2 : tkF b c) : tkF a c := fun o k z => (h2 o k z).trans (h1 o k z)
theorem tkF.up {a b : mm_H} {k v : Int} (h : tkF a b) (hk : k = 3 ∨ k = 6 ∨ k = 7) : tkF a (mm_up b 1 k v) := fun o k' z => by
  rw [pu_up, if_neg (fun q => z ⟨q.1, by rw [q.2]; exact hk⟩)]
  exact h o k' z
theorem TB.tkF {c c' r : mm_H} {n most : Int} (hB : TB c r n most) (h : tkF c c') : TB c' r n most := hB.cg (h _ _ (by omega)) (h _ _ (by omega)) (fun k => h _ _ (by omega)) rfl rfl (fun _ => rfl)
/-- the class's key and number as far as i, with a letters and b digits -/
def jnI (c r : mm_H) (p i a b : Int) : Prop := (b = 0 → i - p ≤ 7 → c 1 7 = f_enc 256 0 (chs (r 134) p (i - p).toNat)) ∧ (a = 0 → i - p ≤ 3 → c 1 6 = f_enc 10 48 (chs (r 134) p (i - p).toNat))
theorem jn_L {c r : mm_H} {n most p i : Int} (hB : TB c r n most) (p0 : 0 ≤ p) (pi : p ≤ i) (hin : i < n) (i7 : i + 1 - p ≤ 7) (hl : ∀ j, p ≤ j → j < i + 1 → 97 ≤ r 134 j ∧ r 134 j ≤ 122) (hk : c 1 7 = f_enc 256 0 (chs (r 134) p (i - p).toNat)) : mm_lor (mm_lshl (c 1 7) 8) (c 2 i) = f_enc 256 0 (chs (r 134) p (i + 1 - p).toNat) := by
  have bn := hB.2.2.1
  obtain ⟨b0, b1⟩ := hB.2.2.2.2.2.2 i (by omega) (by omega)
  have w := w8c b0.1 b0.2
  have li := hl i pi (by omega)
  have bd := (ltr_bd (L := chs (r 134) p (i - p).toNat) (by rw [chs_len]; omega) (chs_l hl (by omega))).2
  have pw := (f_enc_bd (b := 256) (s := 0) (by decide) _ (chs (r 134) p (i - p).toNat) rfl (ltr.a (chs_l hl (by omega)))).2.2
  have pw2 : (256 : Int) ^ (chs (r 134) p (i - p).toNat).length ≤ 281474976710656 := by
    rw [chs_len]
    have : ∀ k : Nat, k ≤ 6 → (256 : Int) ^ k ≤ 281474976710656 := by decide
    exact this _ (by omega)
  rw [hk, b1, show mm_w8 (r 134 i) = r 134 i by omega, pu_lshl8 (by omega) (by omega), pu_lor8 (by omega) (by omega) (by omega) (by omega), show (i + 1 - p).toNat = (i - p).toNat + 1 by omega, chs_S, f_enc_app, show p + ((i - p).toNat : Int) = i by omega]
  omega
theorem jn_D {c r : mm_H} {n most p i : Int} (hB : TB c r n most) (p0 : 0 ≤ p) (pi : p ≤ i) (hin : i < n) (i3 : i + 1 - p ≤ 3) (hl : ∀ j, p ≤ j → j < i + 1 → 48 ≤ r 134 j ∧ r 134 j ≤ 57) (hk : c 1 6 = f_enc 10 48 (chs (r 134) p (i - p).toNat)) : mm_w (mm_w (mm_w (c 1 6 * 10) + c 2 i) - 48) = f_enc 10 48 (chs (r 134) p (i + 1 - p).toNat) := by
  have bn := hB.2.2.1
  obtain ⟨b0, b1⟩ := hB.2.2.2.2.2.2 i (by omega) (by omega)
  have w := w8c b0.1 b0.2
  have li := hl i pi (by omega)
  have bd := dec_bd hl (i - p).toNat (by omega) (by omega)
  have pw := p10 (i - p).toNat (by omega)
  rw [hk, b1, show mm_w8 (r 134 i) = r 134 i by omega, pu_w (x := f_enc 10 48 (chs (r 134) p (i - p).toNat) * 10) (by omega) (by omega), pu_w (x := f_enc 10 48 (chs (r 134) p (i - p).toNat) * 10 + r 134 i) (by omega) (by omega), pu_w (by omega) (by omega), show (i + 1 - p).toNat = (i - p).toNat + 1 by omega, chs_S, f_enc_app, show p + ((i - p).toNat : Int) = i by omega]
  omega
set_option maxHeartbeats 4000000 in
theorem cl_cnt {n most p q : Int} (p0 : 0 ≤ p) (qn : q ≤ n) (d : Nat) : ∀ (m : Nat) (i a b : Int) (u : mm_V) (c r : mm_H), TB c r n most → (∀ j, p ≤ j → j < q → AL (r 134 j)) → c 1 3 = i → p ≤ i → i + m = q → cntI (r 134) p i a b → jnI c r p i a b → ∃ a' b' u' c', mm_R mm_prog d T_X8_readToken 4 [(18, 1), (0, a), (0, b), u] [] c = mm_R mm_prog d T_X8_readToken 4 [(18, 1), (0, a'), (0, b'), u'] [] c' ∧ cntI (r 134) p q a' b' ∧ jnI c' r p q a' b' ∧ tkF c c' ∧ c' 1 3 = q
  | 0, i, a, b, u, c, r, hB, hA, hc, pi, im, hI, hJ => by
    have e : i = q := by omega
    subst e
    exact ⟨a, b, u, c, rfl, hI, hJ, tkF.rf c, hc⟩
  | m + 1, i, a, b, u, c, r, hB, hA, hc, pi, im, hI, hJ => by
    have bn := hB.2.2.1
    obtain ⟨b0, b1⟩ := hB.2.2.2.2.2.2 i (by omega) (by omega)
    have w := w8c b0.1 b0.2
    rw [← b1] at w
    have hA1 := hA i pi (by omega)
    unfold AL at hA1
    obtain ⟨a0, b00, ab, ha, hb, ga, gb⟩ := hI
    by_cases z : 97 ≤ r 134 i
    · obtain ⟨c1, e1⟩ : ∃ c1, c1 = mm_up (mm_up c 1 7 (mm_lor (mm_lshl (c 1 7) 8) (c 2 i))) 1 3 (i + 1) := ⟨_, rfl⟩
      have f1 : tkF c c1 := by rw [e1]; exact ((tkF.rf c).up (by omega)).up (by omega)
      obtain ⟨a', b', u', c', e, hI', hJ', f', h3'⟩ := cl_cnt p0 qn d m (i + 1) (a + 1) b (0, c 2 i) c1 r (hB.tkF f1) hA (by rw [e1, pu_eq]) (by omega) (by omega) ⟨by omega, b00, by omega, fun z => by omega, fun z j j0 j1 => by
        by_cases y : j = i
        · rw [y]; omega
        · exact hb z j j0 (by omega), fun z => by have := z i pi (by omega); omega, fun z => gb (fun j j0 j1 => z j j0 (by omega))⟩ ⟨fun z7 l7 => by
          rw [e1, pu_sl (by decide), pu_eq]
          exact jn_L hB p0 pi (by omega) (by omega) (fun j j0 j1 => by
            by_cases y : j = i
            · rw [y]; omega
            · exact hb z7 j j0 (by omega)) (hJ.1 z7 (by omega)), fun z6 => by omega⟩
      refine ⟨a', b', u', c', ?_, hI', hJ', f1.tr f', h3'⟩
      rw [← e, e_X8_readToken_4, hc, hB.1, if_pos (by omega), if_pos (by omega), show (1 : Int) + 1 = 2 from rfl, if_neg (by omega), if_neg (by omega), pu_sl (show (3 : Int) ≠ 7 by decide), hc, pu_w (x := a + 1) (by omega) (by omega), pu_w (x := i + 1) (by omega) (by omega), ← e1]
    · obtain ⟨c1, e1⟩ : ∃ c1, c1 = mm_up (mm_up c 1 6 (mm_w (mm_w (mm_w (c 1 6 * 10) + c 2 i) - 48))) 1 3 (i + 1) := ⟨_, rfl⟩
      have f1 : tkF c c1 := by rw [e1]; exact ((tkF.rf c).up (by omega)).up (by omega)
      obtain ⟨a', b', u', c', e, hI', hJ', f', h3'⟩ := cl_cnt p0 qn d m (i + 1) a (b + 1) (0, c 2 i) c1 r (hB.tkF f1) hA (by rw [e1, pu_eq]) (by omega) (by omega) ⟨a0, by omega, by omega, fun z j j0 j1 => by
        by_cases y : j = i
        · rw [y]; omega
        · exact ha z j j0 (by omega), fun z => by omega, fun z => ga (fun j j0 j1 => z j j0 (by omega)), fun z => by have := z i pi (by omega); omega⟩ ⟨fun z7 => by omega, fun z6 l3 => by
          rw [e1, pu_sl (by decide), pu_eq]
          exact jn_D hB p0 pi (by omega) (by omega) (fun j j0 j1 => by
            by_cases y : j = i
            · rw [y]; omega
            · exact ha z6 j j0 (by omega)) (hJ.2 z6 (by omega))⟩
      refine ⟨a', b', u', c', ?_, hI', hJ', f1.tr f', h3'⟩
      rw [← e, e_X8_readToken_4, hc, hB.1, if_pos (by omega), if_pos (by omega), show (1 : Int) + 1 = 2 from rfl, if_pos (by omega), if_neg (by omega), if_neg (by omega), pu_sl (show (3 : Int) ≠ 6 by decide), hc, pu_w (x := b + 1) (by omega) (by omega), pu_w (x := i + 1) (by omega) (by omega), ← e1]
theorem rf_tapeAt {c r : mm_H} {n most i : Int} (hB : TB c r n most) (i0 : 0 ≤ i) (d : Nat) : mm_M mm_prog (d + 1) 165 [(21, 133), (0, i)] r = some (if i < n then r 134 i else 0, r) := by
  have bn := hB.2.2.1
  rw [e_X12_tapeAt, hB.2.2.2.2.1]
  by_cases z : i < n
  · rw [if_pos z, if_pos z, if_pos (by omega)]; rfl
  · rw [if_neg z, if_neg z]
/-- what the reference has of a token from p as far as i -/
def goI (r : mm_H) (p i : Int) (fl : Bool) (gd : Int) : Prop := ((gd = 1 ∧ ∀ j, p ≤ j → j < i → isLb (r 134 j) = fl) ∨ (gd = 0 ∧ ¬ ∀ j, p ≤ j → j < i → isLb (r 134 j) = fl)) ∧ (gd = 1 → fl = true → i - p ≤ 7 → r 133 12 = f_enc 27 96 (chs (r 134) p (i - p).toNat)) ∧ (gd = 1 → fl = false → i - p ≤ 3 → r 133 8 = f_enc 10 48 (chs (r 134) p (i - p).toNat))
def goF (r r' : mm_H) : Prop := ∀ o k, ¬ (o = 133 ∧ ((5 ≤ k ∧ k ≤ 9) ∨ k = 12)) → r' o k = r o k
theorem goF.row {r r' : mm_H} (h : goF r r') {o : Int} (ho : o ≠ 133) : r' o = r o := funext fun k => h o k (fun z => ho z.1)
theorem goF.tr {a b c : mm_H} (h1 : goF a b) (h2 : goF b c) : goF a c := fun o k z => (h2 o k z).trans (h1 o k z)
theorem goF.up {a b : mm_H} {k v : Int} (h : goF a b) (hk : (5 ≤ k ∧ k ≤ 9) ∨ k = 12) : goF a (mm_up b 133 k v) := fun o k' z => by
  rw [pu_up, if_neg (fun q => z ⟨q.1, by rw [q.2]; exact hk⟩)]
  exact h o k' z
theorem goF.rf (a : mm_H) : goF a a := fun _ _ _ => rfl
theorem TB.goF {c r r' : mm_H} {n most : Int} (hB : TB c r n most) (h : goF r r') : TB c r' n most := hB.cg rfl rfl (fun _ => rfl) (h _ _ (by omega)) (h _ _ (by omega)) (fun k => h _ _ (by omega))
theorem AL_b {x : Int} (h : AL x) : (isLb x = true ∧ 97 ≤ x ∧ x ≤ 122) ∨ (isLb x = false ∧ isDb x = true ∧ 48 ≤ x ∧ x ≤ 57) := by
  unfold AL at h
  unfold isLb isDb
  rcases h with h | h
  · exact Or.inl ⟨decide_eq_true h, h⟩
  · exact Or.inr ⟨decide_eq_false (by omega), decide_eq_true h, h⟩
theorem AL_n {x : Int} (h : ¬ AL x) : isLb x = false ∧ isDb x = false := by
  unfold AL at h
  exact ⟨decide_eq_false (by omega), decide_eq_false (by omega)⟩
/-- one letter or digit more -/
theorem rf_go1 {c r : mm_H} {n most p i x1 gd : Int} {fl : Bool} {u : mm_V} (hB : TB c r n most) (p0 : 0 ≤ p) (pi : p ≤ i) (hin : i < n) (h5 : r 133 5 = i) (h6 : r 133 6 = p) (hA : AL (r 134 i)) (hall : ∀ j, p ≤ j → j < i → AL (r 134 j)) (hI : goI r p i fl gd) (d : Nat) : ∃ gd' u' r', mm_R mm_prog (d + 1) T_X12_go 215 [(21, 133), (0, x1), (0, sp_b fl), (0, gd), u] [] r = mm_R mm_prog (d + 1) T_X12_go 215 [(21, 133), (0, x1), (0, sp_b fl), (0, gd'), u'] [] r' ∧ goI r' p (i + 1) fl gd' ∧ goF r r' ∧ r' 133 5 = i + 1 ∧ r' 133 6 = p := by
  have bn := hB.2.2.1
  have s243 : mm_R mm_prog (d + 1) T_X12_go 215 [(21, 133), (0, x1), (0, sp_b fl), (0, gd), u] [] r = mm_R mm_prog (d + 1) T_X12_go 243 [(21, 133), (0, x1), (0, sp_b fl), (0, gd), u] [] r := by
    rw [e_X12_go_215, h5, rf_tapeAt hB (by omega), Option.bind_some]
    dsimp only
    rw [if_pos hin, rf_isLetter, Option.bind_some]
    dsimp only
    rcases AL_b hA with z | z
    · rw [z.1]
      show (if (1 : Int) = 0 then _ else _) = _
      rw [if_neg (by decide)]
    · rw [z.1]
      show (if (0 : Int) = 0 then _ else _) = _
      rw [if_pos rfl, h5, rf_tapeAt hB (by omega), Option.bind_some]
      dsimp only
      rw [if_pos hin, rf_isDigit, Option.bind_some]
      dsimp only
      rw [z.2.1]
      show (if (1 : Int) = 0 then _ else _) = _
      rw [if_neg (by decide)]
  obtain ⟨gd', hg⟩ : ∃ gd', gd' = if gd = 0 then 0 else sp_b (decide (isLb (r 134 i) = fl)) := ⟨_, rfl⟩
  have s272 : mm_R mm_prog (d + 1) T_X12_go 243 [(21, 133), (0, x1), (0, sp_b fl), (0, gd), u] [] r = mm_R mm_prog (d + 1) T_X12_go 272 [(21, 133), (0, x1), (0, sp_b fl), (0, gd), (0, r 134 i)] [(0, gd')] r := by
    rw [e_X12_go_243, h5, if_pos (by omega), show (133 : Int) + 1 = 134 from rfl, hg]
    by_cases z : gd = 0
    · rw [if_pos z, if_pos z, e_X12_go_271]
    · rw [if_neg z, if_neg z, rf_isLetter, Option.bind_some]
      dsimp only
      by_cases y : isLb (r 134 i) = fl
      · rw [if_pos (by rw [y]), decide_eq_true y]; rfl
      · rw [if_neg (fun w => y (by rw [sp_b_inj] at w; exact w)), decide_eq_false y, e_X12_go_271]; rfl
  have hgd : gd' = 1 → gd = 1 ∧ isLb (r 134 i) = fl := by
    intro e
    rw [hg] at e
    by_cases z : gd = 0
    · rw [if_pos z] at e; omega
    · rw [if_neg z] at e
      refine ⟨by rcases hI.1 with w | w <;> omega, ?_⟩
      by_cases y : isLb (r 134 i) = fl
      · exact y
      · rw [decide_eq_false y] at e; exact absurd e (by decide)
  have hgd0 : gd' = 0 ∨ gd' = 1 := by
    rw [hg]
    by_cases z : gd = 0
    · rw [if_pos z]; exact Or.inl rfl
    · rw [if_neg z]; exact sp_b01 _
  have hgn : gd' = 0 → gd = 0 ∨ isLb (r 134 i) ≠ fl := by
    intro e
    rw [hg] at e
    by_cases z : gd = 0
    · exact Or.inl z
    · rw [if_neg z] at e
      refine Or.inr (fun y => ?_)
      rw [decide_eq_true y] at e
      exact absurd e (by decide)
  obtain ⟨r1, e1⟩ : ∃ r1, r1 = if i - p < 7 then mm_up r 133 12 (mm_wl (mm_wl (mm_wl (27 * r 133 12) + r 134 i) - 96)) else r := ⟨_, rfl⟩
  obtain ⟨r2, e2⟩ : ∃ r2, r2 = if i - p < 3 then mm_up r1 133 8 (mm_w (mm_w (mm_w (10 * r1 133 8) + r 134 i) - 48)) else r1 := ⟨_, rfl⟩
  have f1 : goF r r1 := by
    rw [e1]
    by_cases z : i - p < 7
    · rw [if_pos z]; exact (goF.rf r).up (by omega)
    · rw [if_neg z]; exact goF.rf r
  have f2 : goF r r2 := by
    rw [e2]
    by_cases z : i - p < 3
    · rw [if_pos z]; exact f1.up (by omega)
    · rw [if_neg z]; exact f1
  have r15 : r1 133 5 = i := by
    rw [e1]
    by_cases z : i - p < 7
    · rw [if_pos z, pu_sl (by decide), h5]
    · rw [if_neg z, h5]
  have r16 : r1 133 6 = p := by
    rw [e1]
    by_cases z : i - p < 7
    · rw [if_pos z, pu_sl (by decide), h6]
    · rw [if_neg z, h6]
  have r18 : r1 133 8 = r 133 8 := by
    rw [e1]
    by_cases z : i - p < 7
    · rw [if_pos z, pu_sl (by decide)]
    · rw [if_neg z]
  have r25 : r2 133 5 = i := by
    rw [e2]
    by_cases z : i - p < 3
    · rw [if_pos z, pu_sl (by decide), r15]
    · rw [if_neg z, r15]
  have r26 : r2 133 6 = p := by
    rw [e2]
    by_cases z : i - p < 3
    · rw [if_pos z, pu_sl (by decide), r16]
    · rw [if_neg z, r16]
  have r2w : r2 133 12 = r1 133 12 := by
    rw [e2]
    by_cases z : i - p < 3
    · rw [if_pos z, pu_sl (by decide)]
    · rw [if_neg z]
  have s215 : mm_R mm_prog (d + 1) T_X12_go 272 [(21, 133), (0, x1), (0, sp_b fl), (0, gd), (0, r 134 i)] [(0, gd')] r = mm_R mm_prog (d + 1) T_X12_go 215 [(21, 133), (0, x1), (0, sp_b fl), (0, gd'), (0, r 134 i)] [] (mm_up r2 133 5 (i + 1)) := by
    have q1 : mm_R mm_prog (d + 1) T_X12_go 272 [(21, 133), (0, x1), (0, sp_b fl), (0, gd), (0, r 134 i)] [(0, gd')] r = mm_R mm_prog (d + 1) T_X12_go 307 [(21, 133), (0, x1), (0, sp_b fl), (0, gd'), (0, r 134 i)] [] r1 := by
      rw [e_X12_go_272, h5, h6, pu_w (x := i - p) (by omega) (by omega), e1]
      by_cases z : i - p < 7
      · rw [if_pos z, if_pos z]
      · rw [if_neg z, if_neg z]
    have q2 : mm_R mm_prog (d + 1) T_X12_go 307 [(21, 133), (0, x1), (0, sp_b fl), (0, gd'), (0, r 134 i)] [] r1 = mm_R mm_prog (d + 1) T_X12_go 337 [(21, 133), (0, x1), (0, sp_b fl), (0, gd'), (0, r 134 i)] [] r2 := by
      rw [e_X12_go_307, r15, r16, pu_w (x := i - p) (by omega) (by omega), e2]
      by_cases z : i - p < 3
      · rw [if_pos z, if_pos z]
      · rw [if_neg z, if_neg z]
    rw [q1, q2, e_X12_go_337, r25, pu_w (by omega) (by omega)]
  have row : (mm_up r2 133 5 (i + 1)) 134 = r 134 := (f2.up (by omega)).row (by decide)
  refine ⟨gd', (0, r 134 i), mm_up r2 133 5 (i + 1), by rw [s243, s272, s215], ⟨?_, ?_, ?_⟩, f2.up (by omega), pu_eq _ _ _ _, by rw [pu_sl (by decide), r26]⟩
  · rw [row]
    rcases hgd0 with z | z
    · refine Or.inr ⟨z, fun w => ?_⟩
      rcases hgn z with y | y
      · rcases hI.1 with v | v
        · omega
        · exact v.2 (fun j j0 j1 => w j j0 (by omega))
      · exact y (w i pi (by omega))
    · refine Or.inl ⟨z, fun j j0 j1 => ?_⟩
      obtain ⟨y1, y2⟩ := hgd z
      by_cases x : j = i
      · rw [x]; exact y2
      · rcases hI.1 with v | v
        · exact v.2 j j0 (by omega)
        · omega
  · intro z fz l7
    obtain ⟨y1, y2⟩ := hgd z
    have hl : ∀ j, p ≤ j → j < i → 97 ≤ r 134 j ∧ r 134 j ≤ 122 := fun j j0 j1 => by
      rcases hI.1 with v | v
      · have := v.2 j j0 j1
        rw [fz] at this
        exact of_decide_eq_true this
      · omega
    have bd := (ltr_bd (L := chs (r 134) p (i - p).toNat) (by rw [chs_len]; omega) (chs_l hl (by omega))).1
    have li : 97 ≤ r 134 i ∧ r 134 i ≤ 122 := by rw [fz] at y2; exact of_decide_eq_true y2
    have w := hI.2.1 y1 fz (by omega)
    rw [row, pu_sl (by decide), r2w, e1, if_pos (by omega), pu_eq, w, pu_wl (x := 27 * f_enc 27 96 (chs (r 134) p (i - p).toNat)) (by omega) (by omega), pu_wl (x := 27 * f_enc 27 96 (chs (r 134) p (i - p).toNat) + r 134 i) (by omega) (by omega), pu_wl (by omega) (by omega), show (i + 1 - p).toNat = (i - p).toNat + 1 by omega, chs_S, f_enc_app, show p + ((i - p).toNat : Int) = i by omega]
    omega
  · intro z fz l3
    obtain ⟨y1, y2⟩ := hgd z
    have hl : ∀ j, p ≤ j → j < i → 48 ≤ r 134 j ∧ r 134 j ≤ 57 := fun j j0 j1 => by
      rcases hI.1 with v | v
      · have a := v.2 j j0 j1
        rcases AL_b (hall j j0 j1) with b | b
        · rw [b.1, fz] at a; cases a
        · exact b.2.2
      · omega
    have bd := dec_bd hl (i - p).toNat (by omega) (by omega)
    have pw := p10 (i - p).toNat (by omega)
    have li : 48 ≤ r 134 i ∧ r 134 i ≤ 57 := by
      rcases AL_b hA with b | b
      · rw [b.1, fz] at y2; cases y2
      · exact b.2.2
    have w := hI.2.2 y1 fz (by omega)
    rw [row, pu_sl (by decide), e2, if_pos (by omega), pu_eq, r18, w, pu_w (x := 10 * f_enc 10 48 (chs (r 134) p (i - p).toNat)) (by omega) (by omega), pu_w (x := 10 * f_enc 10 48 (chs (r 134) p (i - p).toNat) + r 134 i) (by omega) (by omega), pu_w (by omega) (by omega), show (i + 1 - p).toNat = (i - p).toNat + 1 by omega, chs_S, f_enc_app, show p + ((i - p).toNat : Int) = i by omega]
    omega
theorem rf_goL {c : mm_H} {n most p q x1 : Int} {fl : Bool} (p0 : 0 ≤ p) (qn : q ≤ n) (d : Nat) : ∀ (m : Nat) (i gd : Int) (u : mm_V) (r : mm_H), TB c r n most → (∀ j, p ≤ j → j < q → AL (r 134 j)) → r 133 5 = i → r 133 6 = p → p ≤ i → i + m = q → goI r p i fl gd → ∃ gd' u' r', mm_R mm_prog (d + 1) T_X12_go 215 [(21, 133), (0, x1), (0, sp_b fl), (0, gd), u] [] r = mm_R mm_prog (d + 1) T_X12_go 215 [(21, 133), (0, x1), (0, sp_b fl), (0, gd'), u'] [] r' ∧ goI r' p q fl gd' ∧ goF r r' ∧ r' 133 5 = q ∧ r' 133 6 = p
  | 0, i, gd, u, r, hB, hA, h5, h6, pi, im, hI => by
    have e : i = q := by omega
    subst e
    exact ⟨gd, u, r, rfl, hI, goF.rf r, h5, h6⟩
  | m + 1, i, gd, u, r, hB, hA, h5, h6, pi, im, hI => by
    obtain ⟨g1, u1, r1, e1, i1, f1, a1, b1⟩ := rf_go1 (x1 := x1) (u := u) hB p0 pi (by omega) h5 h6 (hA i pi (by omega)) (fun j j0 j1 => hA j j0 (by omega)) hI d
    obtain ⟨g2, u2, r2, e2, i2, f2, a2, b2⟩ := rf_goL p0 qn d m (i + 1) g1 u1 r1 (hB.goF f1) (by rw [f1.row (by decide)]; exact hA) a1 b1 (by omega) (by omega) i1
    exact ⟨g2, u2, r2, e1.trans e2, i2, f1.tr f2, a2, b2⟩
