/-! Runs of the small machine -/
abbrev mm_P : Type := Nat → List mm_E × Nat
def mm_en : List mm_V → List mm_V
  | [] => []
  | v :: r => bif v.1 == 1 then v :: (9, 0) :: mm_en r else v :: mm_en r
def mm_fr (n : Nat) (as : List mm_V) : List mm_V := mm_en as ++ List.replicate (n - (mm_en as).length) (9, 0)
def mm_x (P : mm_P) : Nat → Nat → List mm_E → Nat → List mm_V → List mm_V → mm_H → Option mm_O
  | 0, _, _, _, _, _, _ => none
  | n + 1, d, c, pc, ls, st, h => match mm_at c pc with
    | none => none
    | some e => mm_F none (fun x h => some (x, h)) (fun pc ls st h => mm_x P n d c pc ls st h) (fun q as t pc ls st h => match d with
      | 0 => none
      | d' + 1 => (mm_x P n d' (P q).1 0 (mm_fr (P q).2 as) [] h).bind fun o => mm_x P n d c pc ls (mm_pu t o.1 st) o.2) e ls st h
abbrev mm_S : Type := Option (mm_O ⊕ ((Nat × List mm_V × List mm_V × mm_H) ⊕ (Nat × List mm_V × Nat × Nat × List mm_V × List mm_V × mm_H)))
def mm_st (e : mm_E) (ls st : List mm_V) (h : mm_H) : mm_S := mm_F none (fun x h => some (.inl (x, h))) (fun pc ls st h => some (.inr (.inl (pc, ls, st, h)))) (fun q as t pc ls st h => some (.inr (.inr (q, as, t, pc, ls, st, h)))) e ls st h
theorem mm_t1_nat {α β : Type} (φ : α → β) (st : List mm_V) (t : Nat) (f : α) (k : Int → List mm_V → α) : φ (mm_t1 st t f k) = mm_t1 st t (φ f) (fun x r => φ (k x r)) := by
  unfold mm_t1
  cases st with
  | nil => rfl
  | cons v r => simp only; cases v.1 == t <;> rfl
theorem mm_an_nat {α β : Type} (φ : α → β) (st : List mm_V) (f : α) (k : mm_V → List mm_V → α) : φ (mm_an st f k) = mm_an st (φ f) (fun x r => φ (k x r)) := by
  unfold mm_an
  cases st with
  | nil => rfl
  | cons v r => simp only; cases (v.1 == 1 || v.1 == 9) <;> rfl
theorem mm_nl_nat {α β : Type} (φ : α → β) (st : List mm_V) (f k : α) : φ (mm_nl st f k) = mm_nl st (φ f) (φ k) := by
  unfold mm_nl
  cases st <;> rfl
theorem mm_ld_nat {α β : Type} (φ : α → β) (ls : List mm_V) (i t : Nat) (f : α) (k : Int → α) : φ (mm_ld ls i t f k) = mm_ld ls i t (φ f) (fun x => φ (k x)) := by
  unfold mm_ld
  cases ls[i]? with
  | none => rfl
  | some v => simp only; cases v.1 == t <;> rfl
theorem mm_la_nat {α β : Type} (φ : α → β) (ls : List mm_V) (i : Nat) (f : α) (k : mm_V → α) : φ (mm_la ls i f k) = mm_la ls i (φ f) (fun x => φ (k x)) := by
  unfold mm_la
  cases ls[i]? with
  | none => rfl
  | some v => simp only; cases (v.1 == 0 || v.1 == 1 || v.1 == 9) <;> rfl
theorem mm_s1_nat {α β : Type} (φ : α → β) (ls : List mm_V) (i : Nat) (v : mm_V) (f : α) (k : List mm_V → α) : φ (mm_s1 ls i v f k) = mm_s1 ls i v (φ f) (fun x => φ (k x)) := by
  unfold mm_s1
  cases (decide (i < ls.length) && mm_pv ls i) <;> rfl
theorem mm_s2_nat {α β : Type} (φ : α → β) (ls : List mm_V) (i : Nat) (v : mm_V) (f : α) (k : List mm_V → α) : φ (mm_s2 ls i v f k) = mm_s2 ls i v (φ f) (fun x => φ (k x)) := by
  unfold mm_s2
  cases (decide (i + 1 < ls.length) && mm_pv ls i) <;> rfl
theorem mm_if_nat {α β : Type} (φ : α → β) (c : Prop) [Decidable c] (a b : α) : φ (if c then a else b) = if c then φ a else φ b := by
  split <;> rfl
theorem mm_bf_nat {α β : Type} (φ : α → β) (c : Bool) (a b : α) : φ (bif c then a else b) = bif c then φ a else φ b := by
  cases c <;> rfl
theorem mm_sw_nat {α β : Type} (φ : α → β) (x : Int) (pc : Nat) (K : Nat → α) (d : Int) : ∀ (os : List Int) (lo : Int), φ (mm_sw x pc K d lo os) = mm_sw x pc (fun q => φ (K q)) d lo os
  | [], lo => rfl
  | o :: os, lo => by
    show φ (if x = lo then K (mm_tg pc o) else mm_sw x pc K d (lo + 1) os) = if x = lo then φ (K (mm_tg pc o)) else mm_sw x pc (fun q => φ (K q)) d (lo + 1) os
    rw [mm_if_nat, mm_sw_nat φ x pc K d os (lo + 1)]
theorem mm_lk_nat {α β : Type} (φ : α → β) (x : Int) (pc : Nat) (K : Nat → α) (d : Int) : ∀ (os : List (Int × Int)), φ (mm_lk x pc K d os) = mm_lk x pc (fun q => φ (K q)) d os
  | [] => rfl
  | o :: os => by
    show φ (if x = o.1 then K (mm_tg pc o.2) else mm_lk x pc K d os) = if x = o.1 then φ (K (mm_tg pc o.2)) else mm_lk x pc (fun q => φ (K q)) d os
    rw [mm_if_nat, mm_lk_nat φ x pc K d os]
set_option maxHeartbeats 4000000 in
set_option maxRecDepth 100000 in
theorem mm_F_nat {α β : Type} (φ : α → β) (f : α) (r : Int → mm_H → α) (K : Nat → List mm_V → List mm_V → mm_H → α) (C : Nat → List mm_V → Nat → Nat → List mm_V → List mm_V → mm_H → α) (e : mm_E) (ls st : List mm_V) (h : mm_H) :
    φ (mm_F f r K C e ls st h) = mm_F (φ f) (fun x h => φ (r x h)) (fun pc ls st h => φ (K pc ls st h)) (fun q as t pc ls st h => φ (C q as t pc ls st h)) e ls st h := by
  obtain ⟨pc, ins, len, aux, val⟩ := e
  cases ins
  case ifCond c o => cases c <;> simp only [mm_F, mm_t1_nat φ, mm_if_nat φ]
  case if_icmp c o => cases c <;> simp only [mm_F, mm_t1_nat φ, mm_if_nat φ]
  case if_acmp c o => cases c <;> simp only [mm_F, mm_t1_nat φ, mm_if_nat φ, mm_bf_nat φ]
  case getfield i =>
    simp only [mm_F]
    split <;> simp only [mm_an_nat φ, mm_bf_nat φ]
  case putfield i =>
    simp only [mm_F]
    split <;> simp only [mm_t1_nat φ, mm_an_nat φ, mm_bf_nat φ, mm_if_nat φ]
  case aaload =>
    simp only [mm_F, mm_t1_nat φ, mm_an_nat φ, mm_bf_nat φ, mm_if_nat φ]
    congr 1; funext i st; congr 1; funext v st; congr 1; split <;> split <;> rfl
  case invokevirtual i =>
    simp only [mm_F]
    split <;> simp only [mm_t1_nat φ, mm_an_nat φ, mm_bf_nat φ, mm_if_nat φ]
  case invokestatic i =>
    simp only [mm_F]
    split <;> simp only [mm_t1_nat φ, mm_an_nat φ, mm_bf_nat φ, mm_if_nat φ]
  all_goals first | rfl | simp only [mm_F, mm_t1_nat φ, mm_an_nat φ, mm_nl_nat φ, mm_ld_nat φ, mm_la_nat φ, mm_s1_nat φ, mm_s2_nat φ, mm_if_nat φ, mm_bf_nat φ, mm_sw_nat φ, mm_lk_nat φ]
