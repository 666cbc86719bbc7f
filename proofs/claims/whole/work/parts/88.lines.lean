/-! A TOWN's LINES -/
def LR (X Y : Option mm_O) (c r : mm_H) (n most p : Int) : Prop := (∃ c' r' p' t', X = some (1, c') ∧ Y = some (1, r') ∧ TF c' r' n most p' t' ∧ TW c' r' ∧ p + 1 + gd t' ≤ p' ∧ wF c c' ∧ xF r r') ∨ (∃ c' r', X = some (0, c') ∧ Y = some (0, r') ∧ FL c' r' ∧ wF c c' ∧ xF r r')
theorem rf_put0 {r : mm_H} (k : Int) (d : Nat) : mm_M mm_prog (d + 1) 184 [(21, 133), (0, k), (0, 0)] r = some (0, r) := by
  rw [e_X12_put, if_pos rfl, if_pos (Or.inl rfl)]
theorem rf_put1 {r : mm_H} {k x : Int} (k0 : 0 ≤ k) (k1 : k < 48) (hx : r 133 13 = x) (d : Nat) : mm_M mm_prog (d + 1) 184 [(21, 133), (0, k), (0, 1)] r = some (1, mm_up r 136 k x) := by
  rw [e_X12_put, if_neg (by decide), if_pos ⟨k0, k1⟩, if_pos (Or.inr rfl), hx]
  rfl
theorem wF.rf (c : mm_H) : wF c c := fun _ _ _ => rfl
theorem xF.rf (c : mm_H) : xF c c := fun _ _ _ => rfl
section
variable {c r : mm_H} {n most p t : Int}
theorem gd_nn (t : Int) : 0 ≤ gd t := by unfold gd; split <;> decide
theorem ln_gap (h : TF c r n most p t) (hW : TW c r) (ht : t ≠ 1) (d : Nat) : LR (mm_M mm_prog (d + 8) 97 [(19, 3), (18, 1)] c) ((mm_M mm_prog (d + 8) 185 [(21, 133), (0, 1)] r).bind fun o3 => (if o3.1 = 0 then (some (0, o3.2)) else ((mm_M mm_prog (d + 8) 175 [(21, 133), (0, 1), (0, 9)] o3.2).bind fun o4 => ((mm_M mm_prog (d + 8) 184 [(21, 133), (0, 5), (0, o4.1)] o4.2).bind fun o5 => (if o5.1 = 0 then (some (0, o5.2)) else (some (1, o5.2))))))) c r n most p := by
  obtain ⟨w1, w2, w3, w4, w5, w6⟩ := hW
  by_cases z : c 3 2 = 0
  · have z' : r 144 1 = 0 := by omega
    have h1 : TF c (mm_up r 144 1 1) n most p t := h.cg (fun _ => rfl) (fun _ => rfl) (fun k _ _ => pu_ob (by decide)) (fun k => pu_ob (by decide))
    obtain ⟨c1, r1, p1, t1, e1, e2, e3, e4, e5, e6⟩ := tf_adv h1 (d + 3) (d + 3)
    have fresh : mm_M mm_prog (d + 8) 185 [(21, 133), (0, 1)] r = some (1, r1) := by
      rw [e_X12_isFresh, if_pos (by decide), show (133 : Int) + 11 = 144 from rfl, if_pos z', if_pos (by decide), e2, Option.bind_some]
    rcases tf_num (a := 1) (b := 9) e3 (d + 2) (d + 3) with ⟨x, c2, r2, p2, t2, f1, f2, f3, f4, f5, f6, f7, f8, f9⟩ | ⟨c2, r2, f1, f2, f3, f4, f5⟩
    · left
      have c12 : cF c c2 := e5.c.tr f7
      have r12 : rF (mm_up r 144 1 1) r2 := e6.r.tr f8
      have row : r2 136 = r 136 := (r12.row (by decide)).trans (row_ne (by decide))
      have g5 := f5.cg (c' := mm_up (mm_up c2 7 0 x) 3 2 1) (r' := mm_up r2 136 5 x) (fun k => by rw [pu_ob (by decide), pu_ob (by decide)]) (fun k => by rw [pu_ob (by decide), pu_ob (by decide)]) (fun k _ _ => pu_ob (by decide)) (fun k => pu_ob (by decide))
      refine ⟨mm_up (mm_up c2 7 0 x) 3 2 1, mm_up r2 136 5 x, p2, t2, ?_, ?_, g5, ?_, ?_, (c12.w.up (by decide)).up (by decide), ((((xF.rf r).up (by omega)).tr r12.x).up (by omega))⟩
      · rw [e_X9_readGap, if_pos z, e1, Option.bind_some]
        dsimp only
        rw [f1, Option.bind_some]
        dsimp only
        rw [if_neg (by omega)]
        rfl
      · rw [fresh, Option.bind_some]
        show (if (1 : Int) = 0 then _ else _) = _
        rw [if_neg (by decide), f2, Option.bind_some]
        dsimp only
        rw [rf_put1 (by decide) (by decide) f4, Option.bind_some]
        show (if (1 : Int) = 0 then _ else _) = _
        rw [if_neg (by decide)]
      · obtain ⟨a0, a1, a2, a3, a4, a5, a6, a7, a8, a9⟩ := w1
        obtain ⟨b0, b1, b2, b3, b4, b5, b6⟩ := w2
        have V : (mm_up r2 136 5 x) 136 = vu (r 136) 5 x := by rw [row_up, row]
        have ve : ∀ j, j ≠ 5 → vu (r 136) 5 x j = r 136 j := fun j hj => vu_ne hj
        have C : ∀ o k, o ≠ 1 → o ≠ 3 → o ≠ 7 → (mm_up (mm_up c2 7 0 x) 3 2 1) o k = c o k := fun o k h1 h2 h3 => by rw [pu_ob h2, pu_ob h3, c12.ob h1]
        unfold TW NM2
        rw [V]
        refine ⟨?_, ?_, ?_, ?_, ?_, ?_⟩
        · unfold pr_W
          rw [ve 0 (by decide), ve 1 (by decide), ve 2 (by decide), ve 3 (by decide), ve 4 (by decide), ve 24 (by decide)]
          refine ⟨a0, a1, a2, a3, a4, fun q q0 q1 => ?_, fun q q0 q1 => ?_, a7, fun q q0 q1 => ?_, fun q q0 q1 => ?_⟩
          · by_cases y : q = 0
            · rw [y, show (5 : Int) + 0 = 5 from rfl, vu_eq]; omega
            · rw [ve _ (by omega)]; exact a5 q q0 q1
          · rw [ve _ (by omega), ve _ (by omega)]; exact a6 q q0 q1
          · rw [ve _ (by omega), ve _ (by omega), ve _ (by omega)]; exact a8 q q0 q1
          · rw [ve _ (by omega)]; exact a9 q q0 q1
        · simp only [Int.reduceAdd] at b0 b1 b2 b3 b4 b5 b6
          unfold pr_P
          simp only [Int.reduceAdd]
          rw [ve 0 (by decide), ve 1 (by decide), ve 2 (by decide), ve 3 (by decide), ve 4 (by decide), ve 24 (by decide), C 4 0 (by decide) (by decide) (by decide), C 4 1 (by decide) (by decide) (by decide)]
          refine ⟨b0, b1, fun q q0 q1 => ?_, fun q q0 q1 => ?_, fun q q0 q1 => ?_, fun q q0 q1 => ?_, fun q q0 q1 => ?_⟩
          · rw [C _ _ (by decide) (by decide) (by decide), ve _ (by omega)]; exact b2 q q0 q1
          · rw [pu_ob (by decide)]
            by_cases y : q = 0
            · rw [y, show (5 : Int) + 0 = 5 from rfl, vu_eq, pu_eq]
            · rw [pu_sl y, c12.ob (by decide), ve _ (by omega)]; exact b3 q q0 q1
          · rw [C _ _ (by decide) (by decide) (by decide), C _ _ (by decide) (by decide) (by decide), ve _ (by omega), ve _ (by omega)]; exact b4 q q0 q1
          · rw [C _ _ (by decide) (by decide) (by decide), C _ _ (by decide) (by decide) (by decide), C _ _ (by decide) (by decide) (by decide), ve _ (by omega), ve _ (by omega), ve _ (by omega)]; exact b5 q q0 q1
          · rw [C _ _ (by decide) (by decide) (by decide), ve _ (by omega)]; exact b6 q q0 q1
        · intro s i s0 s1 i0 i1
          rw [ve _ (by omega)] at i1
          rw [C _ _ (by decide) (by decide) (by decide), pu_ob (by decide), r12.ob (by decide), pu_ob (by decide)]
          exact w3 s i s0 s1 i0 i1
        · intro w q0 q1
          rw [ve 3 (by decide)] at q0
          rw [ve _ (by omega)]
          exact w4 w q0 q1
        · rw [pu_eq, pu_sl (by decide), pu_ob (by decide), c12.ob (by decide), pu_ob (by decide), pu_ob (by decide), r12.ob (by decide), r12.ob (by decide), pu_eq, pu_sl (by decide)]
          exact ⟨w5.1, rfl⟩
        · rw [ve 2 (by decide), ve 3 (by decide), pu_ob (by decide), r12 _ _ (by omega), pu_ob (by decide)]
          exact w6
      · have : gd t1 = 1 := by rw [f9]; rfl
        omega
    · right
      refine ⟨c2, r2, ?_, ?_, f3, (e5.c.tr f4).w, (((xF.rf r).up (by omega)).tr (e6.r.tr f5).x)⟩
      · rw [e_X9_readGap, if_pos z, e1, Option.bind_some]
        dsimp only
        rw [f1, Option.bind_some]
        rfl
      · rw [fresh, Option.bind_some]
        show (if (1 : Int) = 0 then _ else _) = _
        rw [if_neg (by decide), f2, Option.bind_some]
        dsimp only
        rw [rf_put0, Option.bind_some]
        rfl
  · right
    obtain ⟨c2, r2, u1, u2, u3, u4, u5⟩ := tf_fail (k := 3) h (by decide) (fun w => absurd w ht) (d + 5) (d + 6)
    refine ⟨c2, r2, ?_, ?_, u3, u4.w, u5.x⟩
    · rw [e_X9_readGap, if_neg z, u1, Option.bind_some, if_pos (Or.inl rfl)]
    · rw [e_X12_isFresh, if_pos (by decide), show (133 : Int) + 11 = 144 from rfl, if_neg (by omega), u2, Option.bind_some, if_pos (Or.inl rfl), Option.bind_some]
      rfl
end
