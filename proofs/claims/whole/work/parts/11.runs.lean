/-! Runs of the small machine -/
abbrev mm_P : Type := Nat → List mm_E × Nat
def mm_en : List mm_V → List mm_V
  | [] => []
  | v :: r => bif v.1 == 1 then v :: (9, 0) :: mm_en r else v :: mm_en r
def mm_fr (n : Nat) (as : List mm_V) : List mm_V := mm_en as ++ List.replicate (n - (mm_en as).length) (9, 0)
def mm_x (P : mm_P) : Nat → Nat → List mm_E → Nat → List mm_V → List mm_V → mm_H → Option mm_O
  | 0, _, _, _, _, _, _ => none
  | n + 1, d, c, pc, ls, st, h => match mm_at c pc with
    | none => none
    | some e => mm_F none (fun x h => some (x, h)) (fun pc ls st h => mm_x P n d c pc ls st h) (fun q as t pc ls st h => match d with
      | 0 => none
      | d' + 1 => bif decide ((mm_en as).length ≤ (P q).2) then (mm_x P n d' (P q).1 0 (mm_fr (P q).2 as) [] h).bind fun o => mm_x P n d c pc ls (mm_pu t o.1 st) o.2 else none) e ls st h
abbrev mm_S : Type := Option (mm_O ⊕ ((Nat × List mm_V × List mm_V × mm_H) ⊕ (Nat × List mm_V × Nat × Nat × List mm_V × List mm_V × mm_H)))
def mm_st (e : mm_E) (ls st : List mm_V) (h : mm_H) : mm_S := mm_F none (fun x h => some (.inl (x, h))) (fun pc ls st h => some (.inr (.inl (pc, ls, st, h)))) (fun q as t pc ls st h => some (.inr (.inr (q, as, t, pc, ls, st, h)))) e ls st h
theorem mm_t1_nat {α β : Type} (φ : α → β) (st : List mm_V) (t : Nat) (f : α) (k : Int → List mm_V → α) : φ (mm_t1 st t f k) = mm_t1 st t (φ f) (fun x r => φ (k x r)) := by
  unfold mm_t1
  cases st with
  | nil => rfl
  | cons v r => simp only; cases v.1 == t <;> rfl
theorem mm_an_nat {α β : Type} (φ : α → β) (st : List mm_V) (f : α) (k : mm_V → List mm_V → α) : φ (mm_an st f k) = mm_an st (φ f) (fun x r => φ (k x r)) := by
  unfold mm_an
  cases st with
  | nil => rfl
  | cons v r => simp only; cases (v.1 == 1 || v.1 == 9) <;> rfl
theorem mm_nl_nat {α β : Type} (φ : α → β) (st : List mm_V) (f k : α) : φ (mm_nl st f k) = mm_nl st (φ f) (φ k) := by
  unfold mm_nl
  cases st <;> rfl
theorem mm_ld_nat {α β : Type} (φ : α → β) (ls : List mm_V) (i t : Nat) (f : α) (k : Int → α) : φ (mm_ld ls i t f k) = mm_ld ls i t (φ f) (fun x => φ (k x)) := by
  unfold mm_ld
  cases ls[i]? with
  | none => rfl
  | some v => simp only; cases v.1 == t <;> rfl
theorem mm_la_nat {α β : Type} (φ : α → β) (ls : List mm_V) (i : Nat) (f : α) (k : mm_V → α) : φ (mm_la ls i f k) = mm_la ls i (φ f) (fun x => φ (k x)) := by
  unfold mm_la
  cases ls[i]? with
  | none => rfl
  | some v => simp only; cases (v.1 == 0 || v.1 == 1 || v.1 == 9) <;> rfl
theorem mm_s1_nat {α β : Type} (φ : α → β) (ls : List mm_V) (i : Nat) (v : mm_V) (f : α) (k : List mm_V → α) : φ (mm_s1 ls i v f k) = mm_s1 ls i v (φ f) (fun x => φ (k x)) := by
  unfold mm_s1
  cases (decide (i < ls.length) && mm_pv ls i) <;> rfl
theorem mm_s2_nat {α β : Type} (φ : α → β) (ls : List mm_V) (i : Nat) (v : mm_V) (f : α) (k : List mm_V → α) : φ (mm_s2 ls i v f k) = mm_s2 ls i v (φ f) (fun x => φ (k x)) := by
  unfold mm_s2
  cases (decide (i + 1 < ls.length) && mm_pv ls i) <;> rfl
theorem mm_ck_nat {α β : Type} (φ : α → β) (st : List mm_V) (f k : α) : φ (mm_ck st f k) = mm_ck st (φ f) (φ k) := by
  unfold mm_ck
  cases decide (mm_wd st ≤ 8) <;> rfl
theorem mm_if_nat {α β : Type} (φ : α → β) (c : Prop) [Decidable c] (a b : α) : φ (if c then a else b) = if c then φ a else φ b := by
  split <;> rfl
theorem mm_bf_nat {α β : Type} (φ : α → β) (c : Bool) (a b : α) : φ (bif c then a else b) = bif c then φ a else φ b := by
  cases c <;> rfl
theorem mm_sw_nat {α β : Type} (φ : α → β) (x : Int) (pc : Nat) (K : Nat → α) (d : Int) : ∀ (os : List Int) (lo : Int), φ (mm_sw x pc K d lo os) = mm_sw x pc (fun q => φ (K q)) d lo os
  | [], lo => rfl
  | o :: os, lo => by
    show φ (if x = lo then K (mm_tg pc o) else mm_sw x pc K d (lo + 1) os) = if x = lo then φ (K (mm_tg pc o)) else mm_sw x pc (fun q => φ (K q)) d (lo + 1) os
    rw [mm_if_nat φ, mm_sw_nat φ x pc K d os (lo + 1)]
theorem mm_lk_nat {α β : Type} (φ : α → β) (x : Int) (pc : Nat) (K : Nat → α) (d : Int) : ∀ (os : List (Int × Int)), φ (mm_lk x pc K d os) = mm_lk x pc (fun q => φ (K q)) d os
  | [] => rfl
  | o :: os => by
    show φ (if x = o.1 then K (mm_tg pc o.2) else mm_lk x pc K d os) = if x = o.1 then φ (K (mm_tg pc o.2)) else mm_lk x pc (fun q => φ (K q)) d os
    rw [mm_if_nat φ, mm_lk_nat φ x pc K d os]
set_option maxHeartbeats 4000000 in
set_option maxRecDepth 100000 in
theorem mm_F_nat {α β : Type} (φ : α → β) (f : α) (r : Int → mm_H → α) (K : Nat → List mm_V → List mm_V → mm_H → α) (C : Nat → List mm_V → Nat → Nat → List mm_V → List mm_V → mm_H → α) (e : mm_E) (ls st : List mm_V) (h : mm_H) :
    φ (mm_F f r K C e ls st h) = mm_F (φ f) (fun x h => φ (r x h)) (fun pc ls st h => φ (K pc ls st h)) (fun q as t pc ls st h => φ (C q as t pc ls st h)) e ls st h := by
  obtain ⟨pc, ins, len, aux, val⟩ := e
  cases ins
  case ifCond c o => cases c <;> simp only [mm_F, mm_t1_nat φ, mm_if_nat φ]
  case if_icmp c o => cases c <;> simp only [mm_F, mm_t1_nat φ, mm_if_nat φ]
  case if_acmp c o => cases c <;> simp only [mm_F, mm_t1_nat φ, mm_if_nat φ, mm_bf_nat φ]
  case getfield i =>
    simp only [mm_F]
    split <;> simp only [mm_an_nat φ, mm_bf_nat φ]
  case putfield i =>
    simp only [mm_F]
    split <;> simp only [mm_t1_nat φ, mm_an_nat φ, mm_bf_nat φ, mm_if_nat φ, mm_ck_nat φ]
  case aaload =>
    simp only [mm_F, mm_t1_nat φ, mm_an_nat φ, mm_bf_nat φ, mm_if_nat φ, mm_ck_nat φ]
    congr 1; funext i st; congr 1; funext v st; congr 1; split <;> first | rfl | (split <;> rfl)
  case invokevirtual i =>
    simp only [mm_F]
    split <;> simp only [mm_t1_nat φ, mm_an_nat φ, mm_bf_nat φ, mm_if_nat φ, mm_ck_nat φ]
  case invokestatic i =>
    simp only [mm_F]
    split <;> simp only [mm_t1_nat φ, mm_an_nat φ, mm_bf_nat φ, mm_if_nat φ, mm_ck_nat φ]
  all_goals first | rfl | simp only [mm_F, mm_t1_nat φ, mm_an_nat φ, mm_nl_nat φ, mm_ld_nat φ, mm_la_nat φ, mm_s1_nat φ, mm_s2_nat φ, mm_if_nat φ, mm_bf_nat φ, mm_sw_nat φ, mm_lk_nat φ]
theorem mm_F_st {α : Type} (f : α) (r : Int → mm_H → α) (K : Nat → List mm_V → List mm_V → mm_H → α) (C : Nat → List mm_V → Nat → Nat → List mm_V → List mm_V → mm_H → α) (e : mm_E) (ls st : List mm_V) (h : mm_H) :
    mm_F f r K C e ls st h = match mm_st e ls st h with
      | none => f
      | some (.inl o) => r o.1 o.2
      | some (.inr (.inl s)) => K s.1 s.2.1 s.2.2.1 s.2.2.2
      | some (.inr (.inr s)) => C s.1 s.2.1 s.2.2.1 s.2.2.2.1 s.2.2.2.2.1 s.2.2.2.2.2.1 s.2.2.2.2.2.2 :=
  (mm_F_nat (fun z : mm_S => match z with
      | none => f
      | some (.inl o) => r o.1 o.2
      | some (.inr (.inl s)) => K s.1 s.2.1 s.2.2.1 s.2.2.2
      | some (.inr (.inr s)) => C s.1 s.2.1 s.2.2.1 s.2.2.2.1 s.2.2.2.2.1 s.2.2.2.2.2.1 s.2.2.2.2.2.2) none (fun x h => some (.inl (x, h))) (fun pc ls st h => some (.inr (.inl (pc, ls, st, h)))) (fun q as t pc ls st h => some (.inr (.inr (q, as, t, pc, ls, st, h)))) e ls st h).symm
/-- what a call does in a run, by what a method does -/
def mm_cl (P : mm_P) (d : Nat) (X : Nat → List mm_E → Nat → List mm_V → List mm_V → mm_H → Option mm_O) (k : Nat → List mm_V → List mm_V → mm_H → Option mm_O) (q : Nat) (as : List mm_V) (t pc : Nat) (ls st : List mm_V) (h : mm_H) : Option mm_O := match d with
  | 0 => none
  | d' + 1 => bif decide ((mm_en as).length ≤ (P q).2) then (X d' (P q).1 0 (mm_fr (P q).2 as) [] h).bind fun o => k pc ls (mm_pu t o.1 st) o.2 else none
theorem mm_x_S (P : mm_P) (n d : Nat) (c : List mm_E) (pc : Nat) (ls st : List mm_V) (h : mm_H) : mm_x P (n + 1) d c pc ls st h = match mm_at c pc with
    | none => none
    | some e => match mm_st e ls st h with
      | none => none
      | some (.inl o) => some o
      | some (.inr (.inl s)) => mm_x P n d c s.1 s.2.1 s.2.2.1 s.2.2.2
      | some (.inr (.inr s)) => mm_cl P d (mm_x P n) (mm_x P n d c) s.1 s.2.1 s.2.2.1 s.2.2.2.1 s.2.2.2.2.1 s.2.2.2.2.2.1 s.2.2.2.2.2.2 := by
  rw [mm_x]
  cases mm_at c pc with
  | none => rfl
  | some e => exact mm_F_st _ _ _ _ e ls st h
theorem mm_x_up (P : mm_P) : ∀ (n d : Nat) (c : List mm_E) (pc : Nat) (ls st : List mm_V) (h : mm_H) (o : mm_O), mm_x P n d c pc ls st h = some o → mm_x P (n + 1) d c pc ls st h = some o
  | 0, _, _, _, _, _, _, _, q => by simp [mm_x] at q
  | n + 1, d, c, pc, ls, st, h, o, q => by
    rw [mm_x_S] at q ⊢
    cases h1 : mm_at c pc with
    | none => rw [h1] at q; cases q
    | some e =>
      rw [h1] at q
      simp only at q ⊢
      cases h2 : mm_st e ls st h with
      | none => rw [h2] at q; cases q
      | some z =>
        rw [h2] at q
        rcases z with z | z | z
        · exact q
        · exact mm_x_up P n d c _ _ _ _ o q
        · simp only [mm_cl] at q ⊢
          cases d with
          | zero => cases q
          | succ d' =>
            simp only at q ⊢
            cases e9 : decide ((mm_en z.2.1).length ≤ (P z.1).2) with
            | false => rw [e9] at q; cases q
            | true =>
              rw [e9] at q
              simp only [cond_true, Option.bind_eq_some_iff] at q ⊢
              obtain ⟨o1, q1, q2⟩ := q
              exact ⟨o1, mm_x_up P n d' _ _ _ _ _ o1 q1, mm_x_up P n (d' + 1) c _ _ _ _ o q2⟩
theorem mm_x_le (P : mm_P) {n m d : Nat} {c : List mm_E} {pc : Nat} {ls st : List mm_V} {h : mm_H} {o : mm_O} (hnm : n ≤ m) (q : mm_x P n d c pc ls st h = some o) : mm_x P m d c pc ls st h = some o := by
  induction hnm with
  | refl => exact q
  | step _ ih => exact mm_x_up P _ d c pc ls st h o ih
noncomputable def mm_R (P : mm_P) (d : Nat) (c : List mm_E) (pc : Nat) (ls st : List mm_V) (h : mm_H) : Option mm_O :=
  @dite _ (∃ o, ∃ n, mm_x P n d c pc ls st h = some o) (Classical.propDecidable _) (fun q => some (Classical.choose q)) (fun _ => none)
theorem mm_R_iff (P : mm_P) (d : Nat) (c : List mm_E) (pc : Nat) (ls st : List mm_V) (h : mm_H) (o : mm_O) : mm_R P d c pc ls st h = some o ↔ ∃ n, mm_x P n d c pc ls st h = some o := by
  unfold mm_R
  constructor
  · intro q
    split at q
    case isTrue hq =>
      cases q
      exact Classical.choose_spec hq
    case isFalse hq => cases q
  · rintro ⟨n, q⟩
    have hq : ∃ o, ∃ n, mm_x P n d c pc ls st h = some o := ⟨o, n, q⟩
    rw [dif_pos hq]
    obtain ⟨m, q2⟩ := Classical.choose_spec hq
    have a := mm_x_le P (Nat.le_max_left n m) q
    have b := mm_x_le P (Nat.le_max_right n m) q2
    rw [a] at b
    exact b.symm
theorem mm_R_ext {a b : Option mm_O} (h : ∀ o, a = some o ↔ b = some o) : a = b := Option.ext h
theorem mm_R_eq (P : mm_P) (d : Nat) (c : List mm_E) (pc : Nat) (ls st : List mm_V) (h : mm_H) : mm_R P d c pc ls st h = match mm_at c pc with
    | none => none
    | some e => mm_F none (fun x h => some (x, h)) (mm_R P d c) (mm_cl P d (mm_R P) (mm_R P d c)) e ls st h := by
  apply mm_R_ext
  intro o
  rw [mm_R_iff]
  cases h1 : mm_at c pc with
  | none =>
    constructor
    · rintro ⟨n, q⟩
      cases n with
      | zero => simp [mm_x] at q
      | succ n => rw [mm_x_S, h1] at q; cases q
    · intro q; cases q
  | some e =>
    simp only
    rw [mm_F_st]
    have hS : (∃ n, mm_x P n d c pc ls st h = some o) ↔ ∃ n, mm_x P (n + 1) d c pc ls st h = some o := by
      constructor
      · rintro ⟨n, q⟩
        exact ⟨n, mm_x_up P n d c pc ls st h o q⟩
      · rintro ⟨n, q⟩
        exact ⟨n + 1, q⟩
    rw [hS]
    simp only [mm_x_S, h1]
    cases mm_st e ls st h with
    | none => simp
    | some z =>
      rcases z with z | z | z
      · simp
      · exact (mm_R_iff P d c _ _ _ _ o).symm
      · simp only [mm_cl]
        cases d with
        | zero => simp
        | succ d' =>
          simp only
          cases e9 : decide ((mm_en z.2.1).length ≤ (P z.1).2) with
          | false => simp
          | true =>
          simp only [cond_true, Option.bind_eq_some_iff, mm_R_iff]
          constructor
          · rintro ⟨n, o1, q1, q2⟩
            exact ⟨o1, ⟨n, q1⟩, ⟨n, q2⟩⟩
          · rintro ⟨o1, ⟨n1, q1⟩, ⟨n2, q2⟩⟩
            exact ⟨max n1 n2, o1, mm_x_le P (Nat.le_max_left _ _) q1, mm_x_le P (Nat.le_max_right _ _) q2⟩
/-- a method's run at depth d: its callees' are at the depth below -/
noncomputable def mm_M (P : mm_P) (d q : Nat) (as : List mm_V) (h : mm_H) : Option mm_O := match d with
  | 0 => none
  | d' + 1 => bif decide ((mm_en as).length ≤ (P q).2) then mm_R P d' (P q).1 0 (mm_fr (P q).2 as) [] h else none
theorem mm_cl_M (P : mm_P) (d : Nat) (k : Nat → List mm_V → List mm_V → mm_H → Option mm_O) (q : Nat) (as : List mm_V) (t pc : Nat) (ls st : List mm_V) (h : mm_H) : mm_cl P d (mm_R P) k q as t pc ls st h = (mm_M P d q as h).bind fun o => k pc ls (mm_pu t o.1 st) o.2 := by
  cases d with
  | zero => rfl
  | succ d' =>
    simp only [mm_cl, mm_M]
    cases decide ((mm_en as).length ≤ (P q).2) <;> rfl
theorem mm_R_eqM (P : mm_P) (d : Nat) (c : List mm_E) (pc : Nat) (ls st : List mm_V) (h : mm_H) : mm_R P d c pc ls st h = match mm_at c pc with
    | none => none
    | some e => mm_F none (fun x h => some (x, h)) (fun pc ls st h => mm_R P d c pc ls st h) (fun q as t pc ls st h => (mm_M P d q as h).bind fun o => mm_R P d c pc ls (mm_pu t o.1 st) o.2) e ls st h := by
  rw [mm_R_eq]
  have e1 : mm_cl P d (mm_R P) (mm_R P d c) = fun q as t pc ls st h => (mm_M P d q as h).bind fun o => mm_R P d c pc ls (mm_pu t o.1 st) o.2 := by
    funext q as t pc ls st h
    exact mm_cl_M P d _ q as t pc ls st h
  rw [e1]
/-- a stretch of at most k steps, that ends ahead of the places S -/
noncomputable def mm_it (P : mm_P) (S : List Nat) (d : Nat) (c : List mm_E) : Nat → Nat → List mm_V → List mm_V → mm_H → Option mm_O
  | 0, pc, ls, st, h => mm_R P d c pc ls st h
  | k + 1, pc, ls, st, h => bif S.elem pc then mm_R P d c pc ls st h else match mm_at c pc with
    | none => none
    | some e => mm_F none (fun x h => some (x, h)) (fun pc ls st h => mm_it P S d c k pc ls st h) (fun q as t pc ls st h => (mm_M P d q as h).bind fun o => mm_it P S d c k pc ls (mm_pu t o.1 st) o.2) e ls st h
theorem mm_it_R (P : mm_P) (S : List Nat) (d : Nat) (c : List mm_E) : ∀ (k pc : Nat) (ls st : List mm_V) (h : mm_H), mm_it P S d c k pc ls st h = mm_R P d c pc ls st h
  | 0, _, _, _, _ => rfl
  | k + 1, pc, ls, st, h => by
    rw [mm_it]
    cases S.elem pc with
    | true => rfl
    | false =>
      have e1 : mm_it P S d c k = mm_R P d c := by
        funext pc ls st h
        exact mm_it_R P S d c k pc ls st h
      rw [mm_R_eqM]
      simp only [e1, cond_false]
/-- the first step, then a stretch -/
noncomputable def mm_go (P : mm_P) (S : List Nat) (d : Nat) (c : List mm_E) (k pc : Nat) (ls st : List mm_V) (h : mm_H) : Option mm_O := match mm_at c pc with
    | none => none
    | some e => mm_F none (fun x h => some (x, h)) (fun pc ls st h => mm_it P S d c k pc ls st h) (fun q as t pc ls st h => (mm_M P d q as h).bind fun o => mm_it P S d c k pc ls (mm_pu t o.1 st) o.2) e ls st h
theorem mm_go_R (P : mm_P) (S : List Nat) (d : Nat) (c : List mm_E) (k pc : Nat) (ls st : List mm_V) (h : mm_H) : mm_R P d c pc ls st h = mm_go P S d c k pc ls st h := by
  have e1 : mm_it P S d c k = mm_R P d c := by
    funext pc ls st h
    exact mm_it_R P S d c k pc ls st h
  rw [mm_R_eqM, mm_go]
  simp only [e1]
