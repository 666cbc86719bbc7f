/-! PURE: numbers, bits, heaps -/
theorem pu_w {x : Int} (h1 : -2147483648 ≤ x) (h2 : x < 2147483648) : mm_w x = x := by
  unfold mm_w
  rw [Int.bmod_def]
  split <;> omega
theorem pu_wl {x : Int} (h1 : -9223372036854775808 ≤ x) (h2 : x < 9223372036854775808) : mm_wl x = x := by
  unfold mm_wl
  rw [Int.bmod_def]
  split <;> omega
theorem pu_up (h : mm_H) (o k v o' k' : Int) : mm_up h o k v o' k' = if o' = o ∧ k' = k then v else h o' k' := rfl
theorem pu_rem {x y : Int} (hx : 0 ≤ x) (hx2 : x < 2147483648) (hy : 0 < y) (hy2 : y < 2147483648) : mm_rem x y = x % y := by
  have e : mm_rem x y = ((nI x.toNat) - (nI x.toNat) / (nI y.toNat) * (nI y.toNat)).toInt := by
    unfold mm_rem nI
    have a : Int32.ofInt x = Int32.ofNat x.toNat := by
      rw [show x = ((x.toNat : Nat) : Int) by omega]; rfl
    have b : Int32.ofInt y = Int32.ofNat y.toNat := by
      rw [show y = ((y.toNat : Nat) : Int) by omega]; rfl
    rw [a, b]
  rw [e, pk_rem (by omega) (by omega) (by omega), nI_toInt (by have := Nat.mod_lt x.toNat (show y.toNat > 0 by omega); omega), Int.natCast_emod, show ((x.toNat : Nat) : Int) = x by omega, show ((y.toNat : Nat) : Int) = y by omega]
theorem pu_div {x y : Int} (hx : 0 ≤ x) (hx2 : x < 2147483648) (hy : 0 < y) (hy2 : y < 2147483648) : mm_div x y = x / y := by
  have e : mm_div x y = ((nI x.toNat) / (nI y.toNat)).toInt := by
    unfold mm_div nI
    have a : Int32.ofInt x = Int32.ofNat x.toNat := by
      rw [show x = ((x.toNat : Nat) : Int) by omega]; rfl
    have b : Int32.ofInt y = Int32.ofNat y.toNat := by
      rw [show y = ((y.toNat : Nat) : Int) by omega]; rfl
    rw [a, b]
  rw [e, pk_div (by omega) (by omega) (by omega), nI_toInt (by have := Nat.div_le_self x.toNat y.toNat; omega), Int.natCast_ediv, show ((x.toNat : Nat) : Int) = x by omega, show ((y.toNat : Nat) : Int) = y by omega]
/-- the number of a word that isn't negative -/
theorem pu_ofN {x : Int} (h : 0 ≤ x) : Int32.ofInt x = nI x.toNat := by
  unfold nI
  rw [show x = ((x.toNat : Nat) : Int) by omega]
  rfl
theorem pu_tn {x : Int} (h : 0 ≤ x) (h2 : x < 2147483648) : (Int32.ofInt x).toBitVec.toNat = x.toNat := by
  rw [pu_ofN h]
  exact pk_tn (by omega)
theorem pu_ti {z : Int32} (h : z.toBitVec.toNat < 2147483648) : z.toInt = (z.toBitVec.toNat : Int) := by
  show z.toBitVec.toInt = _
  rw [BitVec.toInt_eq_toNat_of_lt (by omega)]
theorem pu_and {x y : Int} (hx : 0 ≤ x) (hx2 : x < 2147483648) (hy : 0 ≤ y) (hy2 : y < 2147483648) : mm_and x y = ((x.toNat &&& y.toNat : Nat) : Int) := by
  unfold mm_and
  have e : (Int32.ofInt x &&& Int32.ofInt y).toBitVec.toNat = x.toNat &&& y.toNat := by
    rw [Int32.toBitVec_and, BitVec.toNat_and, pu_tn hx hx2, pu_tn hy hy2]
  rw [pu_ti (by rw [e]; exact Nat.lt_of_le_of_lt Nat.and_le_left (by omega)), e]
theorem pu_or {x y : Int} (hx : 0 ≤ x) (hx2 : x < 2147483648) (hy : 0 ≤ y) (hy2 : y < 2147483648) : mm_or x y = ((x.toNat ||| y.toNat : Nat) : Int) := by
  unfold mm_or
  have e : (Int32.ofInt x ||| Int32.ofInt y).toBitVec.toNat = x.toNat ||| y.toNat := by
    rw [Int32.toBitVec_or, BitVec.toNat_or, pu_tn hx hx2, pu_tn hy hy2]
  rw [pu_ti (by rw [e]; exact Nat.or_lt_two_pow (n := 31) (by omega) (by omega)), e]
theorem pu_xor {x y : Int} (hx : 0 ≤ x) (hx2 : x < 2147483648) (hy : 0 ≤ y) (hy2 : y < 2147483648) : mm_xor x y = ((x.toNat ^^^ y.toNat : Nat) : Int) := by
  unfold mm_xor
  have e : (Int32.ofInt x ^^^ Int32.ofInt y).toBitVec.toNat = x.toNat ^^^ y.toNat := by
    rw [Int32.toBitVec_xor, BitVec.toNat_xor, pu_tn hx hx2, pu_tn hy hy2]
  rw [pu_ti (by rw [e]; exact Nat.xor_lt_two_pow (n := 31) (by omega) (by omega)), e]
theorem pu_s32 : ∀ k : Nat, k < 32 → ((Int32.ofInt (k : Int) &&& 31).toBitVec.smod 32).toNat = k ∧ (((Int32.ofInt (k : Int)).toUInt32 &&& Int32.toUInt32 31).toBitVec % 32).toNat = k := by decide +kernel
theorem pu_sk {k : Int} (h0 : 0 ≤ k) (h1 : k < 32) : ((Int32.ofInt k &&& 31).toBitVec.smod 32).toNat = k.toNat ∧ (((Int32.ofInt k).toUInt32 &&& Int32.toUInt32 31).toBitVec % 32).toNat = k.toNat := by
  have := pu_s32 k.toNat (by omega)
  rw [show ((k.toNat : Nat) : Int) = k by omega] at this
  exact this
theorem pu_shr {x k : Int} (hx : 0 ≤ x) (hx2 : x < 2147483648) (h0 : 0 ≤ k) (h1 : k < 32) : mm_shr x k = ((x.toNat / 2 ^ k.toNat : Nat) : Int) := by
  unfold mm_shr
  rw [pu_ofN hx, pk_shrN (by omega) _ k.toNat (pu_sk h0 h1).1, nI_toInt (Nat.lt_of_le_of_lt (Nat.div_le_self _ _) (by omega))]
theorem pu_ushr {x k : Int} (hx : 0 ≤ x) (hx2 : x < 2147483648) (h0 : 0 ≤ k) (h1 : k < 32) : mm_ushr x k = ((x.toNat / 2 ^ k.toNat : Nat) : Int) := by
  unfold mm_ushr
  rw [pu_ofN hx, pk_ushrN (by omega) _ k.toNat (pu_sk h0 h1).2, nI_toInt (Nat.lt_of_le_of_lt (Nat.div_le_self _ _) (by omega))]
theorem pu_shl1 {k : Int} (h0 : 0 ≤ k) (h1 : k < 31) : mm_shl 1 k = ((2 ^ k.toNat : Nat) : Int) := by
  have : ∀ j : Nat, j < 31 → mm_shl 1 (j : Int) = ((2 ^ j : Nat) : Int) := by decide +kernel
  have w := this k.toNat (by omega)
  rw [show ((k.toNat : Nat) : Int) = k by omega] at w
  exact w
/-- bit k of a set -/
def pu_bt (x k : Int) : Prop := x.toNat.testBit k.toNat = true
theorem pu_b1 {n : Nat} (h : n < 2147483648) : mm_and (n : Int) 1 = 1 ↔ n % 2 = 1 := by
  rw [pu_and (by omega) (by omega) (by decide) (by decide)]
  simp only [Int.toNat_natCast, show (1 : Int).toNat = 1 from rfl, Nat.and_one_is_mod]
  omega
theorem pu_tb (n k : Nat) : n.testBit k = true ↔ (n / 2 ^ k) % 2 = 1 := by
  rw [Nat.testBit_eq_decide_div_mod_eq]
  simp
theorem pu_btu {x k : Int} (hx : 0 ≤ x) (hx2 : x < 2147483648) (h0 : 0 ≤ k) (h1 : k < 32) : mm_and (mm_ushr x k) 1 = 1 ↔ pu_bt x k := by
  rw [pu_ushr hx hx2 h0 h1, pu_b1 (Nat.lt_of_le_of_lt (Nat.div_le_self _ _) (by omega))]
  exact (pu_tb _ _).symm
theorem pu_bts {x k : Int} (hx : 0 ≤ x) (hx2 : x < 2147483648) (h0 : 0 ≤ k) (h1 : k < 32) : mm_and (mm_shr x k) 1 = 1 ↔ pu_bt x k := by
  rw [pu_shr hx hx2 h0 h1, pu_b1 (Nat.lt_of_le_of_lt (Nat.div_le_self _ _) (by omega))]
  exact (pu_tb _ _).symm
/-- one more in a set -/
theorem pu_ins {x j : Int} {n : Nat} (hx : 0 ≤ x) (hx2 : x < 2 ^ n) (hn : n ≤ 30) (h0 : 0 ≤ j) (h1 : j < n) : (0 ≤ mm_or x (mm_shl 1 j) ∧ mm_or x (mm_shl 1 j) < 2 ^ n) ∧ ∀ k, 0 ≤ k → (pu_bt (mm_or x (mm_shl 1 j)) k ↔ pu_bt x k ∨ k = j) := by
  have hp : (2 : Int) ^ n ≤ 2 ^ 30 := by exact_mod_cast Nat.pow_le_pow_right (by decide) hn
  have hj : (2 : Nat) ^ j.toNat < 2 ^ n := Nat.pow_lt_pow_right (by decide) (by omega)
  have hj2 : (2 : Nat) ^ n ≤ 2 ^ 30 := Nat.pow_le_pow_right (by decide) hn
  have hxn : x.toNat < 2 ^ n := by
    have : ((x.toNat : Nat) : Int) < ((2 ^ n : Nat) : Int) := by
      rw [show ((x.toNat : Nat) : Int) = x by omega]
      exact_mod_cast hx2
    exact_mod_cast this
  have e : mm_or x (mm_shl 1 j) = ((x.toNat ||| 2 ^ j.toNat : Nat) : Int) := by
    have hj3 : (2 : Nat) ^ j.toNat < 2 ^ 30 := by omega
    rw [pu_shl1 h0 (by omega), pu_or hx (by omega) (Int.natCast_nonneg _) (by omega), Int.toNat_natCast]
  refine ⟨⟨by rw [e]; omega, ?_⟩, fun k hk => ?_⟩
  · rw [e]
    exact_mod_cast Nat.or_lt_two_pow hxn hj
  · unfold pu_bt
    rw [e]
    simp only [Int.toNat_natCast, Nat.testBit_or, Nat.testBit_two_pow, Bool.or_eq_true, decide_eq_true_eq]
    constructor
    · rintro (w | w)
      · exact Or.inl w
      · exact Or.inr (by omega)
    · rintro (w | w)
      · exact Or.inl w
      · exact Or.inr (by omega)
theorem pu_bt0 (k : Int) : ¬ pu_bt 0 k := by
  unfold pu_bt
  simp
/-! Loops -/
def sp_it {α : Type} (f : Int → α → α) : Nat → Int → α → α
  | 0, _, s => s
  | n + 1, i, s => sp_it f n (i + 1) (f i s)
theorem sp_it_rel {σ α β : Type} {R : Int → σ → β} {f : Int → α → α} {I : Int → σ → α → Prop} {N : Int} (hs : ∀ i s x, 0 ≤ i → i < N → I i s x → ∃ s', R i s = R (i + 1) s' ∧ I (i + 1) s' (f i x)) : ∀ (n : Nat) (i : Int) (s : σ) (x : α), 0 ≤ i → i + n = N → I i s x → ∃ s', R i s = R N s' ∧ I N s' (sp_it f n i x)
  | 0, i, s, x, h0, hn, hi => by
    have e : i = N := by omega
    subst e
    exact ⟨s, rfl, hi⟩
  | n + 1, i, s, x, h0, hn, hi => by
    obtain ⟨s', e, hi'⟩ := hs i s x h0 (by omega) hi
    obtain ⟨s'', e2, hi2⟩ := sp_it_rel hs n (i + 1) s' (f i x) (by omega) (by omega) hi'
    exact ⟨s'', e.trans e2, hi2⟩
def sp_find (c : Int → Bool) : Nat → Int → Option Int
  | 0, _ => none
  | n + 1, i => bif c i then some i else sp_find c n (i + 1)
theorem sp_find_run {β : Type} {R r : Int → β} {c : Int → Bool} {N : Int} (hs : ∀ i, 0 ≤ i → i < N → R i = bif c i then r i else R (i + 1)) : ∀ (n : Nat) (i : Int), 0 ≤ i → i + n = N → R i = match sp_find c n i with
    | some j => r j
    | none => R N
  | 0, i, h0, hn => by
    have e : i = N := by omega
    subst e
    rfl
  | n + 1, i, h0, hn => by
    rw [hs i h0 (by omega), sp_find]
    cases c i with
    | true => rfl
    | false =>
      rw [cond_false, cond_false]
      exact sp_find_run hs n (i + 1) (by omega) (by omega)
theorem sp_find_some {c : Int → Bool} : ∀ {n : Nat} {i j : Int}, sp_find c n i = some j → i ≤ j ∧ j < i + n ∧ c j = true ∧ ∀ k, i ≤ k → k < j → c k = false
  | 0, i, j, h => by cases h
  | n + 1, i, j, h => by
    rw [sp_find] at h
    cases e : c i with
    | true =>
      rw [e] at h
      cases h
      exact ⟨by omega, by omega, e, fun k h1 h2 => by omega⟩
    | false =>
      rw [e] at h
      obtain ⟨a, b, c', q⟩ := sp_find_some h
      refine ⟨by omega, by omega, c', fun k h1 h2 => ?_⟩
      by_cases w : k = i
      · rw [w]; exact e
      · exact q k (by omega) h2
theorem sp_find_none {c : Int → Bool} : ∀ {n : Nat} {i : Int}, sp_find c n i = none ↔ ∀ k, i ≤ k → k < i + n → c k = false
  | 0, i => ⟨fun _ k h1 h2 => by omega, fun _ => rfl⟩
  | n + 1, i => by
    rw [sp_find]
    cases e : c i with
    | true =>
      constructor
      · intro h; cases h
      · intro h
        rw [h i (by omega) (by omega)] at e
        cases e
    | false =>
      rw [cond_false, sp_find_none]
      constructor
      · intro h k h1 h2
        by_cases w : k = i
        · rw [w]; exact e
        · exact h k (by omega) (by omega)
      · intro h k h1 h2
        exact h k (by omega) (by omega)
theorem sp_find_congr {c c' : Int → Bool} {n : Nat} {i : Int} (h : ∀ k, i ≤ k → k < i + n → c k = c' k) : sp_find c n i = sp_find c' n i := by
  cases e : sp_find c' n i with
  | none =>
    rw [sp_find_none] at e ⊢
    exact fun k h1 h2 => by rw [h k h1 h2]; exact e k h1 h2
  | some j =>
    obtain ⟨a, b, q, r⟩ := sp_find_some e
    cases e2 : sp_find c n i with
    | none =>
      have := sp_find_none.mp e2 j a b
      rw [h j a b, q] at this
      cases this
    | some j2 =>
      obtain ⟨a2, b2, q2, r2⟩ := sp_find_some e2
      by_cases w : j2 < j
      · have := r j2 a2 w
        rw [← h j2 a2 b2, q2] at this
        cases this
      · by_cases w2 : j < j2
        · have := r2 j a w2
          rw [h j a b, q] at this
          cases this
        · rw [show j2 = j by omega]
/-- whether one is found among n from i -/
def sp_any (c : Int → Bool) (N : Int) : Bool := (sp_find c N.toNat 0).isSome
theorem sp_any_iff {c : Int → Bool} {N : Int} : sp_any c N = true ↔ ∃ k, 0 ≤ k ∧ k < N ∧ c k = true := by
  unfold sp_any
  cases e : sp_find c N.toNat 0 with
  | none =>
    constructor
    · intro h; cases h
    · rintro ⟨k, h1, h2, h3⟩
      have := sp_find_none.mp e k h1 (by omega)
      rw [this] at h3
      cases h3
  | some j =>
    obtain ⟨a, b, q, r⟩ := sp_find_some e
    exact ⟨fun _ => ⟨j, a, by omega, q⟩, fun _ => rfl⟩
theorem sp_any_congr {c c' : Int → Bool} {N : Int} (h : ∀ k, 0 ≤ k → k < N → c k = c' k) : sp_any c N = sp_any c' N := by
  unfold sp_any
  rw [sp_find_congr (fun k h1 h2 => h k h1 (by omega))]
/-- 1 or 0 -/
def sp_b (b : Bool) : Int := bif b then 1 else 0
theorem sp_any_run {R : Int → Option mm_O} {h : mm_H} {c : Int → Bool} {N : Int} (hN : 0 ≤ N) (hs : ∀ i, 0 ≤ i → i < N → R i = bif c i then some (1, h) else R (i + 1)) (he : R N = some (0, h)) : R 0 = some (sp_b (sp_any c N), h) := by
  rw [sp_find_run (r := fun _ => some (1, h)) hs N.toNat 0 (by omega) (by omega)]
  unfold sp_any
  cases sp_find c N.toNat 0 with
  | none => exact he
  | some j => rfl
/-- the heap with one row changed -/
theorem pu_eq (h : mm_H) (o k v : Int) : mm_up h o k v o k = v := mm_up_eq
theorem pu_ob {h : mm_H} {o k v o' k' : Int} (hn : o' ≠ o) : mm_up h o k v o' k' = h o' k' := mm_up_ne hn
theorem pu_sl {h : mm_H} {o k v o' k' : Int} (hn : k' ≠ k) : mm_up h o k v o' k' = h o' k' := mm_up_ne2 hn
/-! The town's numbers as the reference's row 'now' has them (V), and the class's objects beside them -/
def pr_P (h : mm_H) (pl : Int) (V : Int → Int) : Prop := h pl 0 = V 0 ∧ h pl 1 = V 24 ∧ (∀ s, 0 ≤ s → s < 4 → h (pl + 1) s = V (1 + s)) ∧ (∀ c, 0 ≤ c → c ≤ V 1 → h (pl + 3) c = V (5 + c)) ∧ (∀ p, 0 ≤ p → p < V 2 → h (pl + 4) p = V (10 + p) ∧ h (pl + 5) p = V (17 + p)) ∧ (∀ w, 0 ≤ w → w < V 3 → h (pl + 6) w = V (25 + w) ∧ h (pl + 7) w = V (31 + w) ∧ h (pl + 8) w = V (37 + w)) ∧ ∀ t, 0 ≤ t → t < V 4 → h (pl + 9) t = V (43 + t)
def pr_M (h : mm_H) (m : Int) (V : Int → Int) : Prop := h m 0 = V 48 ∧ h m 1 = V 49 ∧ h m 2 = V 50 ∧ h m 3 = V 51 ∧ h m 4 = V 52 ∧ h m 5 = V 53 ∧ (∀ p, 0 ≤ p → p < V 2 → h (m + 1) p = V (54 + p) ∧ h (m + 2) p = V (61 + p)) ∧ ∀ w, 0 ≤ w → w < V 3 → h (m + 3) w = V (68 + w)
/-- a town that can be -/
def pr_W (V : Int → Int) : Prop := (3 ≤ V 0 ∧ V 0 ≤ 12) ∧ (0 ≤ V 1 ∧ V 1 ≤ 4) ∧ (0 ≤ V 2 ∧ V 2 ≤ 7) ∧ (0 ≤ V 3 ∧ V 3 ≤ 6) ∧ (0 ≤ V 4 ∧ V 4 ≤ 5) ∧ (∀ c, 0 ≤ c → c ≤ V 1 → 1 ≤ V (5 + c) ∧ V (5 + c) ≤ 9) ∧ (∀ p, 0 ≤ p → p < V 2 → (0 ≤ V (10 + p) ∧ V (10 + p) < V 0) ∧ 1 ≤ V (17 + p) ∧ V (17 + p) ≤ 3) ∧ (0 ≤ V 24 ∧ V 24 < 128) ∧ (∀ w, 0 ≤ w → w < V 3 → (0 ≤ V (25 + w) ∧ V (25 + w) < V 0) ∧ (1 ≤ V (31 + w) ∧ V (31 + w) ≤ 30) ∧ 0 ≤ V (37 + w) ∧ V (37 + w) < 64) ∧ ∀ t, 0 ≤ t → t < V 4 → 2 ≤ V (43 + t) ∧ V (43 + t) ≤ 60
/-- a moment of it, in the midst of a second -/
def pr_S (V : Int → Int) : Prop := (0 ≤ V 48 ∧ V 48 ≤ 600) ∧ (0 ≤ V 49 ∧ V 49 ≤ V 1) ∧ (0 ≤ V 50 ∧ V 50 ≤ 99) ∧ (V 51 = 0 ∨ V 51 = 1) ∧ (0 ≤ V 52 ∧ V 52 ≤ 601) ∧ (0 ≤ V 53 ∧ V 53 < 128) ∧ (∀ p, 0 ≤ p → p < V 2 → (0 ≤ V (54 + p) ∧ V (54 + p) < V 0) ∧ 0 ≤ V (61 + p) ∧ V (61 + p) ≤ 3 * V 52 + 3) ∧ ∀ w, 0 ≤ w → w < V 3 → 0 ≤ V (68 + w) ∧ V (68 + w) ≤ 30
/-- between seconds -/
def pr_T (V : Int → Int) : Prop := pr_S V ∧ 1 ≤ V 50 ∧ V 52 ≤ V 48 ∧ ∀ p, 0 ≤ p → p < V 2 → V (61 + p) ≤ 3 * V 52
/-- the set of those from w on, n of them, of which c holds, behind acc -/
def sp_set (c : Int → Bool) : Nat → Int → Int → Int
  | 0, _, acc => acc
  | n + 1, w, acc => sp_set c n (w + 1) (bif c w then mm_or acc (mm_shl 1 w) else acc)
theorem sp_set_ok {c : Int → Bool} {N : Nat} (hN : N ≤ 30) : ∀ (n : Nat) (w acc : Int), 0 ≤ w → w + n ≤ N → 0 ≤ acc → acc < 2 ^ N → (0 ≤ sp_set c n w acc ∧ sp_set c n w acc < 2 ^ N) ∧ ∀ k, 0 ≤ k → (pu_bt (sp_set c n w acc) k ↔ pu_bt acc k ∨ (w ≤ k ∧ k < w + n ∧ c k = true)) := by
  intro n
  induction n with
  | zero =>
    intro w acc h0 h1 h2 h3
    refine ⟨⟨h2, h3⟩, fun k hk => ⟨fun q => Or.inl q, fun q => ?_⟩⟩
    rcases q with q | q
    · exact q
    · omega
  | succ n ih =>
    intro w acc h0 h1 h2 h3
    simp only [sp_set]
    cases hc : c w with
    | true =>
      obtain ⟨⟨i1, i2⟩, i3⟩ := pu_ins (j := w) h2 h3 hN h0 (by omega)
      obtain ⟨a, b⟩ := ih (w + 1) (mm_or acc (mm_shl 1 w)) (by omega) (by omega) i1 i2
      refine ⟨a, fun k hk => ?_⟩
      rw [cond_true, b k hk, i3 k hk]
      constructor
      · rintro ((q | q) | q)
        · exact Or.inl q
        · exact Or.inr ⟨by omega, by omega, by rw [q]; exact hc⟩
        · exact Or.inr ⟨by omega, by omega, q.2.2⟩
      · rintro (q | q)
        · exact Or.inl (Or.inl q)
        · by_cases e : k = w
          · exact Or.inl (Or.inr e)
          · exact Or.inr ⟨by omega, by omega, q.2.2⟩
    | false =>
      obtain ⟨a, b⟩ := ih (w + 1) acc (by omega) (by omega) h2 h3
      refine ⟨a, fun k hk => ?_⟩
      rw [cond_false, b k hk]
      constructor
      · rintro (q | q)
        · exact Or.inl q
        · exact Or.inr ⟨by omega, by omega, q.2.2⟩
      · rintro (q | q)
        · exact Or.inl q
        · by_cases e : k = w
          · rw [e, hc] at q
            exact absurd q.2.2 (by decide)
          · exact Or.inr ⟨by omega, by omega, q.2.2⟩
def sp_dC (V : Int → Int) (w : Int) : Bool := decide (V (68 + w) = 0)
def sp_done (V : Int → Int) : Int := sp_set (sp_dC V) (V 3).toNat 0 0
theorem sp_done_ok {V : Int → Int} (hW : pr_W V) : (0 ≤ sp_done V ∧ sp_done V < 64) ∧ ∀ k, 0 ≤ k → (pu_bt (sp_done V) k ↔ k < V 3 ∧ V (68 + k) = 0) := by
  have h3 := hW.2.2.2.1
  obtain ⟨a, b⟩ := sp_set_ok (c := sp_dC V) (N := 6) (by decide) (V 3).toNat 0 0 (by decide) (by omega) (by decide) (by decide)
  refine ⟨a, fun k hk => ?_⟩
  show pu_bt (sp_set (sp_dC V) (V 3).toNat 0 0) k ↔ _
  rw [b k hk]
  constructor
  · rintro (q | q)
    · exact absurd q (pu_bt0 k)
    · exact ⟨by omega, by simpa [sp_dC] using q.2.2⟩
  · intro q
    exact Or.inr ⟨by omega, by omega, by simpa [sp_dC] using q.2⟩
def sp_oC (V : Int → Int) (w : Int) : Bool := decide (¬ V (68 + w) = 0) && decide (mm_and (V (37 + w)) (mm_xor (sp_done V) (-1)) = 0)
def sp_open (V : Int → Int) : Int := sp_set (sp_oC V) (V 3).toNat 0 0
theorem sp_open_ok {V : Int → Int} (hW : pr_W V) : (0 ≤ sp_open V ∧ sp_open V < 64) ∧ ∀ k, 0 ≤ k → (pu_bt (sp_open V) k ↔ k < V 3 ∧ sp_oC V k = true) := by
  have h3 := hW.2.2.2.1
  obtain ⟨a, b⟩ := sp_set_ok (c := sp_oC V) (N := 6) (by decide) (V 3).toNat 0 0 (by decide) (by omega) (by decide) (by decide)
  refine ⟨a, fun k hk => ?_⟩
  show pu_bt (sp_set (sp_oC V) (V 3).toNat 0 0) k ↔ _
  rw [b k hk]
  constructor
  · rintro (q | q)
    · exact absurd q (pu_bt0 k)
    · exact ⟨by omega, q.2.2⟩
  · intro q
    exact Or.inr ⟨by omega, by omega, q.2⟩
section PC
variable {V : Int → Int} {h : mm_H} {m pl : Int}
theorem cl_dn (hP : pr_P h pl V) (hM : pr_M h m V) (hW : pr_W V) (hS : pr_S V) (d : Nat) : ∀ (n : Nat) (w acc : Int), 0 ≤ w → w + n = V 3 → mm_R mm_prog d T_X2_doneWorks 4 [(12, m), (14, pl), (0, acc), (0, w)] [] h = some (sp_set (sp_dC V) n w acc, h) := by
  have e2 : h (pl + 1) 2 = V 3 := hP.2.2.1 2 (by decide) (by decide)
  have h3 := hW.2.2.2.1
  intro n
  induction n with
  | zero =>
    intro w acc h0 hw
    rw [e_X2_doneWorks_4, e2, if_neg (by omega)]
    rfl
  | succ n ih =>
    intro w acc h0 hw
    have el := hM.2.2.2.2.2.2.2 w h0 (by omega)
    have hl := hS.2.2.2.2.2.2.2 w h0 (by omega)
    rw [e_X2_doneWorks_4, e2, if_pos (by omega), if_pos (by omega), el, pu_w (by omega) (by omega), sp_set]
    by_cases c : V (68 + w) = 0
    · rw [if_neg (by omega), show sp_dC V w = true by simpa [sp_dC] using c]
      exact ih _ _ (by omega) (by omega)
    · rw [if_pos (by omega), show sp_dC V w = false by simpa [sp_dC] using c]
      exact ih _ _ (by omega) (by omega)
theorem cl_done (hP : pr_P h pl V) (hM : pr_M h m V) (hW : pr_W V) (hS : pr_S V) (d : Nat) : mm_M mm_prog (d + 1) 20 [(12, m), (14, pl)] h = some (sp_done V, h) := by
  have h3 := hW.2.2.2.1
  rw [e_X2_doneWorks]
  exact cl_dn hP hM hW hS d _ _ _ (by decide) (by omega)
theorem cl_on (hP : pr_P h pl V) (hM : pr_M h m V) (hW : pr_W V) (hS : pr_S V) (d : Nat) : ∀ (n : Nat) (w acc : Int), 0 ≤ w → w + n = V 3 → mm_R mm_prog d T_X2_openWorks 11 [(12, m), (14, pl), (0, sp_done V), (0, acc), (0, w)] [] h = some (sp_set (sp_oC V) n w acc, h) := by
  have e2 : h (pl + 1) 2 = V 3 := hP.2.2.1 2 (by decide) (by decide)
  have h3 := hW.2.2.2.1
  intro n
  induction n with
  | zero =>
    intro w acc h0 hw
    rw [e_X2_openWorks_11, e2, if_neg (by omega)]
    rfl
  | succ n ih =>
    intro w acc h0 hw
    have el := hM.2.2.2.2.2.2.2 w h0 (by omega)
    have hl := hS.2.2.2.2.2.2.2 w h0 (by omega)
    have eb := (hP.2.2.2.2.2.1 w h0 (by omega)).2.2
    rw [e_X2_openWorks_11, e2, if_pos (by omega), if_pos (by omega), el, eb, pu_w (by omega) (by omega), sp_set]
    by_cases c : V (68 + w) = 0
    · rw [if_neg (by omega), show sp_oC V w = false by simp [sp_oC, c]]
      exact ih _ _ (by omega) (by omega)
    · rw [if_pos (by omega), if_pos (by omega)]
      by_cases c2 : mm_and (V (37 + w)) (mm_xor (sp_done V) (-1)) = 0
      · rw [if_pos c2, show sp_oC V w = true by simp [sp_oC, c, c2]]
        exact ih _ _ (by omega) (by omega)
      · rw [if_neg c2, show sp_oC V w = false by simp [sp_oC, c2]]
        exact ih _ _ (by omega) (by omega)
theorem cl_open (hP : pr_P h pl V) (hM : pr_M h m V) (hW : pr_W V) (hS : pr_S V) (d : Nat) : mm_M mm_prog (d + 2) 21 [(12, m), (14, pl)] h = some (sp_open V, h) := by
  have h3 := hW.2.2.2.1
  rw [e_X2_openWorks, cl_done hP hM hW hS d, Option.bind_some]
  exact cl_on hP hM hW hS (d + 1) _ _ _ (by decide) (by omega)
end PC
section PR
variable {h : mm_H}
theorem rf_dn (hW : pr_W (h 135)) (d : Nat) : ∀ (n : Nat) (w acc : Int), 0 ≤ w → w + n = h 135 3 → mm_R mm_prog d T_X12_doneWorks 4 [(21, 133), (0, acc), (0, w)] [] h = some (sp_set (sp_dC (h 135)) n w acc, h) := by
  have h3 := hW.2.2.2.1
  intro n
  induction n with
  | zero =>
    intro w acc h0 hw
    rw [e_X12_doneWorks_4]
    simp only [show (133 : Int) + 2 = 135 from rfl]
    rw [if_neg (by omega)]
    rfl
  | succ n ih =>
    intro w acc h0 hw
    rw [e_X12_doneWorks_4]
    simp only [show (133 : Int) + 2 = 135 from rfl]
    rw [if_pos (by omega), pu_w (x := 68 + w) (by omega) (by omega), pu_w (x := w + 1) (by omega) (by omega), if_pos (by omega), sp_set]
    by_cases c : h 135 (68 + w) = 0
    · rw [if_pos c, show sp_dC (h 135) w = true by simpa [sp_dC] using c]
      exact ih _ _ (by omega) (by omega)
    · rw [if_neg c, show sp_dC (h 135) w = false by simpa [sp_dC] using c]
      exact ih _ _ (by omega) (by omega)
theorem rf_done (hW : pr_W (h 135)) (d : Nat) : mm_M mm_prog (d + 1) 202 [(21, 133)] h = some (sp_done (h 135), h) := by
  have h3 := hW.2.2.2.1
  rw [e_X12_doneWorks]
  exact rf_dn hW d _ _ _ (by decide) (by omega)
/-- has(set, k) -/
theorem rf_has {x k : Int} (hx : 0 ≤ x) (hx2 : x < 2147483648) (h0 : 0 ≤ k) (h1 : k < 32) (d : Nat) : (pu_bt x k → mm_M mm_prog (d + 1) 161 [(0, x), (0, k)] h = some (1, h)) ∧ (¬ pu_bt x k → mm_M mm_prog (d + 1) 161 [(0, x), (0, k)] h = some (0, h)) := by
  have e := pu_bts hx hx2 h0 h1
  rw [e_X12_has]
  exact ⟨fun q => by rw [if_pos (e.mpr q)], fun q => by rw [if_neg (fun z => q (e.mp z))]⟩
theorem rf_on (hW : pr_W (h 135)) (d : Nat) : ∀ (n : Nat) (w acc : Int), 0 ≤ w → w + n = h 135 3 → mm_R mm_prog (d + 1) T_X12_openWorks 9 [(21, 133), (0, sp_done (h 135)), (0, acc), (0, w)] [] h = some (sp_set (sp_oC (h 135)) n w acc, h) := by
  have h3 := hW.2.2.2.1
  obtain ⟨a, b⟩ := sp_done_ok hW
  intro n
  induction n with
  | zero =>
    intro w acc h0 hw
    rw [e_X12_openWorks_9]
    simp only [show (133 : Int) + 2 = 135 from rfl]
    rw [if_neg (by omega)]
    rfl
  | succ n ih =>
    intro w acc h0 hw
    rw [e_X12_openWorks_9]
    simp only [show (133 : Int) + 2 = 135 from rfl]
    rw [if_pos (by omega), sp_set]
    by_cases c : h 135 (68 + w) = 0
    · rw [(rf_has (by omega) (by omega) h0 (by omega) d).1 ((b w h0).mpr ⟨by omega, c⟩), Option.bind_some, if_neg (by simp), pu_w (x := w + 1) (by omega) (by omega), show sp_oC (h 135) w = false by simp [sp_oC, c]]
      exact ih _ _ (by omega) (by omega)
    · rw [(rf_has (by omega) (by omega) h0 (by omega) d).2 (fun q => c ((b w h0).mp q).2), Option.bind_some, if_pos rfl, pu_w (x := 37 + w) (by omega) (by omega), pu_w (x := w + 1) (by omega) (by omega), if_pos (by omega)]
      by_cases c2 : mm_and (h 135 (37 + w)) (mm_xor (sp_done (h 135)) (-1)) = 0
      · rw [if_pos c2, show sp_oC (h 135) w = true by simp [sp_oC, c, c2]]
        exact ih _ _ (by omega) (by omega)
      · rw [if_neg c2, show sp_oC (h 135) w = false by simp [sp_oC, c2]]
        exact ih _ _ (by omega) (by omega)
theorem rf_open (hW : pr_W (h 135)) (d : Nat) : mm_M mm_prog (d + 2) 203 [(21, 133)] h = some (sp_open (h 135), h) := by
  have h3 := hW.2.2.2.1
  rw [e_X12_openWorks, rf_done hW d, Option.bind_some]
  exact rf_on hW d _ _ _ (by decide) (by omega)
end PR
