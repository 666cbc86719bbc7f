/-! Longs; words as lists of letters; the tag -/
theorem pu_l64 : ∀ k : Nat, k < 64 → ((Int32.ofInt (k : Int)).toInt64.toUInt64 &&& Int64.toUInt64 63).toNat % 64 = k := by decide +kernel
theorem pu_ofL {x : Int} (h : 0 ≤ x) : Int64.ofInt x = lN x.toNat := by
  unfold lN
  rw [show x = ((x.toNat : Nat) : Int) by omega]
  rfl
theorem pu_lI {a : Nat} (h : a < 2 ^ 63) : (lN a).toInt = (a : Int) := lg_ofNat_toInt h
theorem pu_lushr {x k : Int} (hx : 0 ≤ x) (hx2 : x < 4611686018427387904) (k0 : 0 ≤ k) (k1 : k < 64) : mm_lushr x k = ((x.toNat / 2 ^ k.toNat : Nat) : Int) := by
  unfold mm_lushr
  have hD := pu_l64 k.toNat (by omega)
  rw [show ((k.toNat : Nat) : Int) = k by omega] at hD
  have hd : x.toNat / 2 ^ k.toNat ≤ x.toNat := Nat.div_le_self _ _
  have e : (lN x.toNat).toUInt64 >>> ((Int32.ofInt k).toInt64.toUInt64 &&& Int64.toUInt64 63) = UInt64.ofNat (x.toNat / 2 ^ k.toNat) := UInt64.toNat_inj.mp (by
    rw [UInt64.toNat_shiftRight, hD, Nat.shiftRight_eq_div_pow, UInt64.toNat_ofNat']
    show (UInt64.ofNat x.toNat).toNat / 2 ^ k.toNat = _
    rw [UInt64.toNat_ofNat', Nat.mod_eq_of_lt (by omega), Nat.mod_eq_of_lt (by omega)])
  rw [pu_ofL hx, e]
  exact pu_lI (by omega)
theorem pu_lshl8 {x : Int} (hx : 0 ≤ x) (hx2 : x < 18014398509481984) : mm_lshl x 8 = x * 256 := by
  unfold mm_lshl
  have hy : ((Int32.ofInt 8).toInt64 &&& 63).toBitVec.smod 64 = BitVec.ofNat 64 8 := by decide +kernel
  have e : lN x.toNat <<< ((Int32.ofInt 8).toInt64 &&& 63) = lN (x.toNat * 256) := by
    apply Int64.toBitVec_inj.mp
    rw [Int64.toBitVec_shiftLeft, hy]
    apply BitVec.eq_of_toNat_eq
    have hb : (lN x.toNat).toBitVec.toNat = x.toNat := Nat.mod_eq_of_lt (by omega)
    have hk' : (BitVec.ofNat 64 8).toNat = 8 := by decide
    have h : ((lN x.toNat).toBitVec <<< BitVec.ofNat 64 8).toNat = (x.toNat * 2 ^ 8) % 2 ^ 64 := by simp only [BitVec.shiftLeft_eq', BitVec.toNat_shiftLeft, hb, hk', Nat.shiftLeft_eq]
    exact h
  rw [pu_ofL hx, e, pu_lI (by omega)]
  omega
theorem pu_lor8 {x y : Int} (hx : 0 ≤ x) (hx2 : x < 18014398509481984) (hy : 0 ≤ y) (hy2 : y < 256) : mm_lor (x * 256) y = x * 256 + y := by
  unfold mm_lor
  have e : lN (x * 256).toNat ||| lN y.toNat = lN (x.toNat * 256 + y.toNat) := by
    apply Int64.toBitVec_inj.mp
    apply BitVec.eq_of_toNat_eq
    have hb : (lN (x * 256).toNat).toBitVec.toNat = (x * 256).toNat := Nat.mod_eq_of_lt (by omega)
    have hb2 : (lN y.toNat).toBitVec.toNat = y.toNat := Nat.mod_eq_of_lt (by omega)
    have hb3 : (lN (x.toNat * 256 + y.toNat)).toBitVec.toNat = x.toNat * 256 + y.toNat := Nat.mod_eq_of_lt (by omega)
    rw [Int64.toBitVec_or, BitVec.toNat_or, hb, hb2, hb3, show (x * 256).toNat = 2 ^ 8 * x.toNat by omega, ← Nat.two_pow_add_eq_or_of_lt (by omega)]
    omega
  rw [pu_ofL (by omega), pu_ofL hy, e, pu_lI (by omega)]
  omega
theorem pu_l63 {x : Int} (hx : 0 ≤ x) (hx2 : x < 4611686018427387904) : (Int64.ofInt x).toInt = x := by
  rw [pu_ofL hx, pu_lI (by omega)]
  omega
theorem pu_ldv {x : Int} (hx : 0 ≤ x) (hx2 : x < 4611686018427387904) : Int64.ofInt x / Int64.ofInt 27 = Int64.ofInt (x / 27) := by
  apply Int64.toInt_inj.mp
  rw [Int64.toInt_div, pu_l63 hx hx2, pu_l63 (by decide) (by decide), pu_l63 (by omega) (by omega), Int.tdiv_eq_ediv_of_nonneg hx]
  exact pu_wl (by omega) (by omega)
theorem pu_ldiv {x : Int} (hx : 0 ≤ x) (hx2 : x < 4611686018427387904) : mm_ldiv x 27 = x / 27 := by
  unfold mm_ldiv
  rw [pu_ldv hx hx2, pu_l63 (by omega) (by omega)]
theorem pu_lrem {x : Int} (hx : 0 ≤ x) (hx2 : x < 4611686018427387904) : mm_lrem x 27 = x % 27 := by
  unfold mm_lrem
  rw [pu_ldv hx hx2, Int64.toInt_sub, Int64.toInt_mul, pu_l63 hx hx2, pu_l63 (x := 27) (by decide) (by decide), pu_l63 (x := x / 27) (by omega) (by omega)]
  rw [show (x / 27 * 27).bmod (2 ^ 64) = x / 27 * 27 from pu_wl (by omega) (by omega)]
  rw [show (x - x / 27 * 27).bmod (2 ^ 64) = x - x / 27 * 27 from pu_wl (by omega) (by omega)]
  omega
theorem pu_w8 {x : Int} (h0 : 0 ≤ x) (h1 : x < 128) : mm_w8 x = x := by
  unfold mm_w8
  rw [Int.bmod_def]
  split <;> omega
theorem pu_a255 (y : Int) (h0 : 0 ≤ y) : mm_and (mm_w y) 255 = y % 256 := by
  unfold mm_and
  have e : (Int32.ofInt (mm_w y) &&& Int32.ofInt 255).toBitVec.toNat = (y % 256).toNat := by
    rw [Int32.toBitVec_and, BitVec.toNat_and]
    have a : (Int32.ofInt (mm_w y)).toBitVec.toNat = (y % 4294967296).toNat := by
      show (BitVec.ofInt 32 (mm_w y)).toNat = _
      rw [BitVec.toNat_ofInt]
      unfold mm_w
      rw [Int.bmod_def]
      split <;> omega
    have b : (Int32.ofInt 255).toBitVec.toNat = 2 ^ 8 - 1 := by decide
    rw [a, b, Nat.and_two_pow_sub_one_eq_mod]
    omega
  rw [pu_ti (by rw [e]; omega), e]
  omega
theorem f_enc_app (b s : Int) (L : List Int) (c : Int) : f_enc b s (L ++ [c]) = f_enc b s L * b + (c - s) := by
  unfold f_enc
  rw [List.foldl_append]
  rfl
theorem snoc_cases {α : Type} (L : List α) : L = [] ∨ ∃ A c, L = A ++ [c] := by
  rcases List.eq_nil_or_concat L with h | ⟨A, c, h⟩
  · exact Or.inl h
  · exact Or.inr ⟨A, c, by rw [h, List.concat_eq_append]⟩
theorem f_enc_bd {b s : Int} (hb : 1 < b) : ∀ (n : Nat) (L : List Int), L.length = n → (∀ c ∈ L, 1 ≤ c - s ∧ c - s < b) → (L = [] ∨ 1 ≤ f_enc b s L) ∧ 0 ≤ f_enc b s L ∧ f_enc b s L < b ^ n
  | 0, L, hl, _ => by
    have e : L = [] := List.eq_nil_of_length_eq_zero hl
    subst e
    exact ⟨Or.inl rfl, Int.le_refl _, by show (0 : Int) < b ^ 0; simp⟩
  | n + 1, L, hl, hc => by
    rcases snoc_cases L with e | ⟨A, c, e⟩
    · subst e; simp at hl
    · subst e
      have hA : A.length = n := by simpa using hl
      obtain ⟨-, i2, i3⟩ := f_enc_bd hb n A hA (fun x hx => hc x (List.mem_append_left _ hx))
      have q := hc c (by simp)
      rw [f_enc_app]
      have m0 : 0 ≤ f_enc b s A * b := Int.mul_nonneg i2 (by omega)
      have m1 : (f_enc b s A + 1) * b ≤ b ^ n * b := Int.mul_le_mul_of_nonneg_right (by omega) (by omega)
      rw [Int.add_mul, Int.one_mul] at m1
      rw [Int.pow_succ]
      exact ⟨Or.inr (by omega), by omega, by omega⟩
theorem f_enc_inj {b s : Int} (hb : 1 < b) : ∀ (n : Nat) (A B : List Int), A.length + B.length ≤ n → (∀ c ∈ A, 1 ≤ c - s ∧ c - s < b) → (∀ c ∈ B, 1 ≤ c - s ∧ c - s < b) → f_enc b s A = f_enc b s B → A = B := by
  intro n
  induction n with
  | zero =>
    intro A B hl _ _ _
    rw [List.eq_nil_of_length_eq_zero (show A.length = 0 by omega), List.eq_nil_of_length_eq_zero (show B.length = 0 by omega)]
  | succ n ih =>
    intro A B hl hA hB he
    rcases snoc_cases A with e | ⟨A', a, e⟩
    · rcases snoc_cases B with e2 | ⟨B', c, e2⟩
      · rw [e, e2]
      · have := (f_enc_bd hb _ B rfl hB).1
        rw [← he, e] at this
        rcases this with w | w
        · rw [w] at e2; simp at e2
        · exact absurd w (by show ¬ (1 : Int) ≤ 0; decide)
    · rcases snoc_cases B with e2 | ⟨B', c, e2⟩
      · have := (f_enc_bd hb _ A rfl hA).1
        rw [he, e2] at this
        rcases this with w | w
        · rw [w] at e; simp at e
        · exact absurd w (by show ¬ (1 : Int) ≤ 0; decide)
      · subst e e2
        rw [f_enc_app, f_enc_app] at he
        have qa := hA a (by simp)
        have qc := hB c (by simp)
        have d1 : (a - s) = (c - s) := by
          have := congrArg (fun z => z % b) he
          simp only [Int.add_comm (_ * b), Int.add_mul_emod_self_right] at this
          rwa [Int.emod_eq_of_lt (by omega) (by omega), Int.emod_eq_of_lt (by omega) (by omega)] at this
        have d2 : f_enc b s A' = f_enc b s B' := Int.eq_of_mul_eq_mul_right (show b ≠ 0 by omega) (by omega)
        rw [List.length_append, List.length_append] at hl
        rw [ih A' B' (by simp at hl; omega) (fun x hx => hA x (List.mem_append_left _ hx)) (fun x hx => hB x (List.mem_append_left _ hx)) d2, show a = c by omega]
/-- a list of small letters, 1 to 7 -/
def ltr (L : List Int) : Prop := L ≠ [] ∧ L.length ≤ 7 ∧ ∀ c ∈ L, 97 ≤ c ∧ c ≤ 122
theorem ltr.a {L : List Int} (h : ∀ c ∈ L, 97 ≤ c ∧ c ≤ 122) : ∀ c ∈ L, 1 ≤ c - 0 ∧ c - 0 < 256 := fun c hc => by have := h c hc; omega
theorem ltr.b {L : List Int} (h : ∀ c ∈ L, 97 ≤ c ∧ c ≤ 122) : ∀ c ∈ L, 1 ≤ c - 96 ∧ c - 96 < 27 := fun c hc => by have := h c hc; omega
theorem ltr_key {A B : List Int} (hA : ∀ c ∈ A, 97 ≤ c ∧ c ≤ 122) (hB : ∀ c ∈ B, 97 ≤ c ∧ c ≤ 122) : f_enc 256 0 A = f_enc 256 0 B ↔ f_enc 27 96 A = f_enc 27 96 B := by
  constructor
  · intro e
    rw [f_enc_inj (by decide) _ A B (Nat.le_refl _) (ltr.a hA) (ltr.a hB) e]
  · intro e
    rw [f_enc_inj (by decide) _ A B (Nat.le_refl _) (ltr.b hA) (ltr.b hB) e]
theorem nmr.eq {k w k' w' : Int} (h : nmr k w) (h' : nmr k' w') : k = k' ↔ w = w' := by
  obtain ⟨A, -, -, hA, rfl, rfl⟩ := h
  obtain ⟨B, -, -, hB, rfl, rfl⟩ := h'
  exact ltr_key hA hB
theorem pow7 : ∀ n : Nat, n ≤ 7 → (27 : Int) ^ n ≤ 10460353203 ∧ (256 : Int) ^ n ≤ 72057594037927936 := by decide
theorem ltr_bd {L : List Int} (hl : L.length ≤ 7) (h : ∀ c ∈ L, 97 ≤ c ∧ c ≤ 122) : (0 ≤ f_enc 27 96 L ∧ f_enc 27 96 L < 10460353203) ∧ 0 ≤ f_enc 256 0 L ∧ f_enc 256 0 L < 72057594037927936 := by
  have a := f_enc_bd (b := 27) (s := 96) (by decide) _ L rfl (ltr.b h)
  have b := f_enc_bd (b := 256) (s := 0) (by decide) _ L rfl (ltr.a h)
  have p := pow7 _ hl
  omega
/-! Writing bytes one behind another -/
def tw (o1 k1 o2 : Int) (h : mm_H) (x : Int) : mm_H := mm_up (mm_up h o2 (h o1 k1) x) o1 k1 (h o1 k1 + 1)
def tws (o1 k1 o2 : Int) (h : mm_H) (L : List Int) : mm_H := L.foldl (tw o1 k1 o2) h
section
variable {o1 k1 o2 : Int}
theorem tws_app (h : mm_H) (A B : List Int) : tws o1 k1 o2 h (A ++ B) = tws o1 k1 o2 (tws o1 k1 o2 h A) B := List.foldl_append
theorem tws_one (h : mm_H) (x : Int) : tws o1 k1 o2 h [x] = tw o1 k1 o2 h x := rfl
theorem tws_cons (h : mm_H) (x : Int) (L : List Int) : tws o1 k1 o2 h (x :: L) = tws o1 k1 o2 (tw o1 k1 o2 h x) L := rfl
theorem tw_len (h : mm_H) (x : Int) : tw o1 k1 o2 h x o1 k1 = h o1 k1 + 1 := pu_eq _ _ _ _
theorem tws_len : ∀ (L : List Int) (h : mm_H), tws o1 k1 o2 h L o1 k1 = h o1 k1 + L.length
  | [], h => by show h o1 k1 = h o1 k1 + ((0 : Nat) : Int); omega
  | x :: L, h => by rw [tws_cons, tws_len L, tw_len, List.length_cons]; omega
theorem tw_ne {o k : Int} (hn : o ≠ o2) (hk : ¬ (o = o1 ∧ k = k1)) (h : mm_H) (x : Int) : tw o1 k1 o2 h x o k = h o k := by
  unfold tw
  rw [pu_up, if_neg hk, pu_ob hn]
theorem tws_ne {o k : Int} (hn : o ≠ o2) (hk : ¬ (o = o1 ∧ k = k1)) : ∀ (L : List Int) (h : mm_H), tws o1 k1 o2 h L o k = h o k
  | [], h => rfl
  | x :: L, h => by rw [tws_cons, tws_ne hn hk L, tw_ne hn hk]
theorem tws_old (h12 : o2 ≠ o1) : ∀ (L : List Int) (h : mm_H) (i : Int), i < h o1 k1 → tws o1 k1 o2 h L o2 i = h o2 i
  | [], h, i, _ => rfl
  | x :: L, h, i, hi => by
    rw [tws_cons, tws_old h12 L _ i (by rw [tw_len]; omega)]
    unfold tw
    rw [pu_ob h12, pu_sl (by omega)]
theorem tws_at (h12 : o2 ≠ o1) : ∀ (L : List Int) (h : mm_H) (i : Int), h o1 k1 ≤ i → i < h o1 k1 + L.length → tws o1 k1 o2 h L o2 i = L.getD (i - h o1 k1).toNat 0
  | [], h, i, h0, h1 => by simp at h1; omega
  | x :: L, h, i, h0, h1 => by
    rw [List.length_cons] at h1
    rw [tws_cons]
    by_cases c : i = h o1 k1
    · rw [tws_old h12 L _ i (by rw [tw_len]; omega), c, show (h o1 k1 - h o1 k1).toNat = 0 by omega]
      unfold tw
      rw [pu_ob h12, pu_eq]
      rfl
    · rw [tws_at h12 L _ i (by rw [tw_len]; omega) (by rw [tw_len]; omega), tw_len, show (i - h o1 k1).toNat = (i - (h o1 k1 + 1)).toNat + 1 by omega, List.getD_cons_succ]
end
theorem cl_tagByte {h : mm_H} {x n : Int} (hn : h 0 12 = n) (n0 : 0 ≤ n) (n1 : n < 21) (x0 : 0 ≤ x) (x1 : x < 128) (d : Nat) : mm_M mm_prog (d + 1) 148 [(20, 0), (0, x)] h = some (0, tw 0 12 94 h x) := by
  rw [e_X11_tagByte, if_pos (by omega), if_pos (by omega)]
  simp only [show (0 : Int) + 94 = 94 from rfl]
  rw [pu_w8 x0 x1, pu_w8 x0 x1, pu_ob (show (0 : Int) ≠ 94 by decide), pu_w (by omega) (by omega)]
  rfl
theorem txt_ok (s : Int) : (∀ x ∈ mm_txt s, 0 ≤ x ∧ x < 128) ∧ (mm_txt s).length ≤ 8 := by
  unfold mm_txt
  by_cases a : s = 0
  · rw [if_pos a]; decide
  rw [if_neg a]
  by_cases b : s = 1
  · rw [if_pos b]; decide
  rw [if_neg b]
  by_cases c : s = 2
  · rw [if_pos c]; decide
  rw [if_neg c]; decide
theorem cl_tagText_2 (s : Int) (d : Nat) : ∀ (m : Nat) (i : Int) (h : mm_H), 0 ≤ i → i + m = ((mm_txt s).length : Nat) → 0 ≤ h 0 12 → h 0 12 + m ≤ 21 → mm_R mm_prog (d + 1) T_X11_tagText 2 [(20, 0), (3, s), (0, i)] [] h = some (0, tws 0 12 94 h ((mm_txt s).drop i.toNat))
  | 0, i, h, i0, im, h0, h1 => by
    rw [e_X11_tagText_2, if_neg (by omega), List.drop_eq_nil_of_le (by omega)]
    rfl
  | m + 1, i, h, i0, im, h0, h1 => by
    obtain ⟨t1, t2⟩ := txt_ok s
    have lt : i.toNat < (mm_txt s).length := by omega
    have g : (mm_txt s).getD i.toNat 0 = (mm_txt s)[i.toNat] := by
      rw [List.getD_eq_getElem?_getD, List.getElem?_eq_getElem lt]; rfl
    have q := t1 _ (List.getElem_mem lt)
    rw [e_X11_tagText_2, if_pos (by omega), if_pos (by omega), g, cl_tagByte rfl h0 (by omega) q.1 q.2, Option.bind_some]
    dsimp only
    rw [pu_w (by omega) (by omega), cl_tagText_2 s d m (i + 1) _ (by omega) (by omega) (by rw [tw_len]; omega) (by rw [tw_len]; omega), List.drop_eq_getElem_cons lt, tws_cons, show (i + 1).toNat = i.toNat + 1 by omega]
theorem cl_tagText {h : mm_H} {n : Int} (s : Int) (hn : h 0 12 = n) (h0 : 0 ≤ n) (h1 : n + (mm_txt s).length ≤ 21) (d : Nat) : mm_M mm_prog (d + 2) 150 [(20, 0), (3, s)] h = some (0, tws 0 12 94 h (mm_txt s)) := by
  rw [e_X11_tagText, cl_tagText_2 s d (mm_txt s).length 0 h (by decide) (by omega) (by omega) (by omega)]
  rfl
def f_num (n : Int) : List Int := if n < 10 then [48 + n] else [48 + n / 10, 48 + n % 10]
theorem f_num_len {n : Int} : (f_num n).length ≤ 2 := by
  unfold f_num
  by_cases c : n < 10
  · rw [if_pos c]; exact Nat.le_of_ble_eq_true rfl
  · rw [if_neg c]; exact Nat.le_of_ble_eq_true rfl
theorem cl_tagNumber {h : mm_H} {x n : Int} (hn : h 0 12 = n) (h0 : 0 ≤ n) (h1 : n ≤ 19) (x0 : 0 ≤ x) (x1 : x < 12) (d : Nat) : mm_M mm_prog (d + 2) 151 [(20, 0), (0, x)] h = some (0, tws 0 12 94 h (f_num x)) := by
  rw [e_X11_tagNumber, pu_rem x0 (by omega) (by decide) (by decide), pu_div x0 (by omega) (by decide) (by decide), pu_w (x := 48 + x % 10) (by omega) (by omega), pu_w (x := 48 + x / 10) (by omega) (by omega)]
  unfold f_num
  by_cases c : x < 10
  · rw [if_pos c, if_neg (by decide), if_pos c, cl_tagByte hn h0 (by omega) (by omega) (by omega), Option.bind_some, show x % 10 = x by omega]
    rfl
  · rw [if_neg c, if_neg (by decide), if_neg c, cl_tagByte hn h0 (by omega) (by omega) (by omega), Option.bind_some, if_neg (by decide)]
    dsimp only
    rw [cl_tagByte (n := n + 1) (by rw [tw_len, hn]) (by omega) (by omega) (by omega) (by omega), Option.bind_some]
    rfl
/-- the letters of a key, from place j - 1 down -/
def f_dg (key : Int) : Nat → List Int
  | 0 => []
  | j + 1 => (if key / 256 ^ j % 256 = 0 then [] else [key / 256 ^ j % 256]) ++ f_dg key j
theorem f_dg_snoc (k c : Int) (h0 : 0 ≤ c) (h1 : c < 256) : ∀ j : Nat, f_dg (k * 256 + c) (j + 1) = f_dg k j ++ (if c = 0 then [] else [c])
  | 0 => by
    show (if (k * 256 + c) / 256 ^ 0 % 256 = 0 then [] else [(k * 256 + c) / 256 ^ 0 % 256]) ++ [] = [] ++ _
    rw [Int.pow_zero, Int.ediv_one, show (k * 256 + c) % 256 = c by omega, List.append_nil, List.nil_append]
  | j + 1 => by
    have e : (k * 256 + c) / 256 ^ (j + 1) = k / 256 ^ j := by
      rw [Int.pow_succ, Int.mul_comm (256 ^ j) 256, ← Int.ediv_ediv_of_nonneg (by decide)]
      rw [show (k * 256 + c) / 256 = k by omega]
    rw [f_dg, e, f_dg_snoc k c h0 h1 j, f_dg, List.append_assoc]
theorem f_dg_enc : ∀ (j : Nat) (L : List Int), L.length ≤ j → (∀ c ∈ L, 97 ≤ c ∧ c ≤ 122) → f_dg (f_enc 256 0 L) j = L
  | 0, L, hl, _ => by
    rw [List.eq_nil_of_length_eq_zero (show L.length = 0 by omega)]
    rfl
  | j + 1, L, hl, hc => by
    rcases snoc_cases L with e | ⟨A, c, e⟩
    · have z : ∀ m : Nat, f_dg 0 m = [] := by
        intro m
        induction m with
        | zero => rfl
        | succ m ih => rw [f_dg, ih, Int.zero_ediv]; rfl
      rw [e]
      exact z _
    · subst e
      have q := hc c (by simp)
      rw [f_enc_app, Int.sub_zero, f_dg_snoc _ _ (by omega) (by omega), f_dg_enc j A (by simpa using hl) (fun x hx => hc x (List.mem_append_left _ hx)), if_neg (by omega)]
theorem p256 : ∀ j : Nat, j < 7 → (256 : Nat) ^ j = 2 ^ (8 * j) := by decide
theorem cl_tagName_3 {key : Int} (k0 : 0 ≤ key) (k1 : key < 72057594037927936) (hd : ∀ j : Nat, j < 7 → key / 256 ^ j % 256 < 128) (d : Nat) : ∀ (j : Nat) (u : mm_V) (h : mm_H), j ≤ 7 → 0 ≤ h 0 12 → h 0 12 + (f_dg key j).length ≤ 21 → mm_R mm_prog (d + 1) T_X11_tagName 3 [(20, 0), (1, key), (9, 0), (0, 8 * (j : Int) - 8), u] [] h = some (0, tws 0 12 94 h (f_dg key j))
  | 0, u, h, hj, h0, h1 => by
    rw [e_X11_tagName_3, if_pos (by omega)]
    rfl
  | j + 1, u, h, hj, h0, h1 => by
    have e : mm_and (mm_w (mm_lushr key (8 * ((j + 1 : Nat) : Int) - 8))) 255 = key / 256 ^ j % 256 := by
      rw [pu_lushr k0 (by omega) (by omega) (by omega), pu_a255 _ (Int.natCast_nonneg _), show (8 * ((j + 1 : Nat) : Int) - 8).toNat = 8 * j by omega, ← p256 j (by omega)]
      rw [Int.natCast_ediv, show ((key.toNat : Nat) : Int) = key by omega, Int.natCast_pow]
      rfl
    have p := hd j (by omega)
    have p0 : 0 ≤ key / 256 ^ j % 256 := Int.emod_nonneg _ (by decide)
    rw [e_X11_tagName_3, if_neg (by omega), e, show mm_w (8 * ((j + 1 : Nat) : Int) - 8 + (-8)) = 8 * (j : Int) - 8 from (pu_w (by omega) (by omega)).trans (by omega)]
    rw [f_dg] at h1 ⊢
    by_cases c : key / 256 ^ j % 256 = 0
    · rw [if_pos c] at h1 ⊢
      rw [if_pos c, List.nil_append] at *
      exact cl_tagName_3 k0 k1 hd d j _ h (by omega) h0 h1
    · rw [if_neg c] at h1 ⊢
      rw [if_neg c]
      rw [List.length_append, List.length_singleton] at h1
      rw [cl_tagByte rfl h0 (by omega) p0 p, Option.bind_some]
      dsimp only
      rw [cl_tagName_3 k0 k1 hd d j _ _ (by omega) (by rw [tw_len]; omega) (by rw [tw_len]; omega), tws_app]
      rfl
theorem f_dg_mem (key : Int) : ∀ (m j : Nat), j < m → key / 256 ^ j % 256 ≠ 0 → key / 256 ^ j % 256 ∈ f_dg key m
  | 0, j, h, _ => by omega
  | m + 1, j, h, hn => by
    rw [f_dg]
    by_cases c : j = m
    · rw [← c, if_neg hn]; simp
    · exact List.mem_append_right _ (f_dg_mem key m j (by omega) hn)
theorem cl_tagName {h : mm_H} {L : List Int} {n : Int} (hl : L.length ≤ 7) (hc : ∀ c ∈ L, 97 ≤ c ∧ c ≤ 122) (hn : h 0 12 = n) (h0 : 0 ≤ n) (h1 : n ≤ 14) (d : Nat) : mm_M mm_prog (d + 2) 149 [(20, 0), (1, f_enc 256 0 L)] h = some (0, tws 0 12 94 h L) := by
  obtain ⟨-, b0, b1⟩ := ltr_bd hl hc
  have e := f_dg_enc 7 L hl hc
  have hd : ∀ j : Nat, j < 7 → f_enc 256 0 L / 256 ^ j % 256 < 128 := fun j hj => by
    by_cases c : f_enc 256 0 L / 256 ^ j % 256 = 0
    · omega
    · have := f_dg_mem _ 7 j hj c
      rw [e] at this
      have := hc _ this
      omega
  have q := cl_tagName_3 b0 b1 hd d 7 (9, 0) h (by decide) (by omega) (by rw [e]; omega)
  rw [e] at q
  rw [e_X11_tagName]
  exact q
theorem rf_write {h : mm_H} {x n : Int} (hn : h 133 36 = n) (n0 : 0 ≤ n) (n1 : n < 64) (d : Nat) : mm_M mm_prog (d + 1) 250 [(21, 133), (0, x)] h = some (0, tw 133 36 149 h x) := by
  rw [e_X12_write, if_pos (by omega)]
  simp only [show (133 : Int) + 16 = 149 from rfl]
  rw [pu_ob (show (133 : Int) ≠ 149 by decide), pu_w (by omega) (by omega)]
  rfl
theorem rf_writeWord (d : Nat) : ∀ (n : Nat) (L : List Int) (h : mm_H), L.length = n → L ≠ [] → n ≤ 7 → (∀ c ∈ L, 97 ≤ c ∧ c ≤ 122) → 0 ≤ h 133 36 → h 133 36 + n ≤ 64 → mm_M mm_prog (d + n + 1) 251 [(21, 133), (1, f_enc 27 96 L)] h = some (0, tws 133 36 149 h L)
  | 0, L, h, hl, hne, _, _, _, _ => absurd (List.eq_nil_of_length_eq_zero hl) hne
  | n + 1, L, h, hl, hne, hn, hc, h0, h1 => by
    rcases snoc_cases L with e | ⟨A, c, e⟩
    · exact absurd e hne
    · subst e
      have q := hc c (by simp)
      have hA : A.length = n := by simpa using hl
      have hcA : ∀ x ∈ A, 97 ≤ x ∧ x ≤ 122 := fun x hx => hc x (List.mem_append_left _ hx)
      have b := (ltr_bd (L := A) (by omega) hcA).1
      have b9 := (f_enc_bd (b := 27) (s := 96) (by decide) _ A rfl (ltr.b hcA)).1
      rw [f_enc_app, e_X12_writeWord]
      have er : mm_w (96 + mm_w (mm_lrem (f_enc 27 96 A * 27 + (c - 96)) 27)) = c := by
        rw [pu_lrem (by omega) (by omega), show (f_enc 27 96 A * 27 + (c - 96)) % 27 = c - 96 by omega, pu_w (x := c - 96) (by omega) (by omega), pu_w (by omega) (by omega)]
        omega
      rw [er]
      by_cases z : A = []
      · have z2 : f_enc 27 96 A = 0 := by rw [z]; rfl
        have n0 : n = 0 := by rw [← hA, z]; rfl
        rw [if_pos (by unfold mm_lcmp; rw [if_pos (by omega)]; decide), if_neg (by decide), z]
        subst n0
        rw [rf_write rfl h0 (by omega), Option.bind_some]
        rfl
      · have w : 1 ≤ f_enc 27 96 A := by rcases b9 with b9 | b9; exact absurd b9 z; exact b9
        have lc : ¬ mm_lcmp (f_enc 27 96 A * 27 + (c - 96)) 27 < 0 := by
          unfold mm_lcmp
          rw [if_neg (by omega)]
          split <;> decide
        rw [if_neg lc, if_neg (by decide), pu_ldiv (by omega) (by omega), show (f_enc 27 96 A * 27 + (c - 96)) / 27 = f_enc 27 96 A by omega]
        rw [show d + (n + 1) = d + n + 1 from rfl, rf_writeWord d n A h hA z (by omega) hcA h0 (by omega), Option.bind_some, if_neg (by decide)]
        dsimp only
        rw [rf_write (n := h 133 36 + n) (by rw [tws_len, hA]) (by omega) (by omega), Option.bind_some, tws_app]
        rfl
theorem rf_word {h : mm_H} {L : List Int} {n : Int} (hne : L ≠ []) (hl : L.length ≤ 7) (hc : ∀ c ∈ L, 97 ≤ c ∧ c ≤ 122) (hn : h 133 36 = n) (h0 : 0 ≤ n) (h1 : n ≤ 50) (d : Nat) : mm_M mm_prog (d + 8) 251 [(21, 133), (1, f_enc 27 96 L)] h = some (0, tws 133 36 149 h L) := by
  have := rf_writeWord (d + 7 - L.length) L.length L h rfl hne hl hc (by omega) (by omega)
  rw [show d + 7 - L.length + L.length + 1 = d + 8 by omega] at this
  exact this
theorem rf_next {h : mm_H} {L : List Int} {n : Int} (hne : L ≠ []) (hl : L.length ≤ 7) (hc : ∀ c ∈ L, 97 ≤ c ∧ c ≤ 122) (hn : h 133 36 = n) (h0 : 0 ≤ n) (h1 : n ≤ 49) (d : Nat) : mm_M mm_prog (d + 9) 253 [(21, 133), (1, f_enc 27 96 L)] h = some (0, tws 133 36 149 h (32 :: L)) := by
  rw [e_X12_writeNext, rf_write hn h0 (by omega), Option.bind_some]
  dsimp only
  rw [rf_word (n := n + 1) hne hl hc (by rw [tw_len, hn]) (by omega) (by omega), Option.bind_some]
  rfl
theorem rf_num {h : mm_H} {x n : Int} (hn : h 133 36 = n) (h0 : 0 ≤ n) (h1 : n ≤ 50) (x0 : 0 ≤ x) (x1 : x < 12) (d : Nat) : mm_M mm_prog (d + 3) 252 [(21, 133), (0, x)] h = some (0, tws 133 36 149 h (f_num x)) := by
  rw [e_X12_writeNumber, pu_rem x0 (by omega) (by decide) (by decide), pu_div x0 (by omega) (by decide) (by decide), pu_w (x := 48 + x % 10) (by omega) (by omega)]
  unfold f_num
  by_cases c : x < 10
  · rw [if_neg (by omega), if_neg (by decide), if_pos c, rf_write hn h0 (by omega), Option.bind_some, show x % 10 = x by omega]
    rfl
  · rw [if_pos (by omega), if_neg (by decide), if_neg c, e_X12_writeNumber, if_neg (by omega), if_neg (by decide), pu_rem (by omega) (by omega) (by decide) (by decide), pu_w (by omega) (by omega), show x / 10 % 10 = x / 10 by omega, rf_write hn h0 (by omega), Option.bind_some, Option.bind_some, if_neg (by decide)]
    dsimp only
    rw [rf_write (n := n + 1) (by rw [tw_len, hn]) (by omega) (by omega), Option.bind_some]
    rfl
theorem sp_at (d : Nat) (h : mm_H) : mm_M mm_prog (d + 1) 169 [(0, 97), (0, 116), (0, 0), (0, 0), (0, 0), (0, 0), (0, 0)] h = some (f_enc 27 96 [97, 116], h) := (e_X12_spelt d h 97 116 0 0 0 0 0).trans rfl
theorem sp_in (d : Nat) (h : mm_H) : mm_M mm_prog (d + 1) 169 [(0, 105), (0, 110), (0, 0), (0, 0), (0, 0), (0, 0), (0, 0)] h = some (f_enc 27 96 [105, 110], h) := (e_X12_spelt d h 105 110 0 0 0 0 0).trans rfl
theorem sp_step (d : Nat) (h : mm_H) : mm_M mm_prog (d + 1) 169 [(0, 115), (0, 116), (0, 101), (0, 112), (0, 0), (0, 0), (0, 0)] h = some (f_enc 27 96 [115, 116, 101, 112], h) := (e_X12_spelt d h 115 116 101 112 0 0 0).trans rfl
theorem sp_air (d : Nat) (h : mm_H) : mm_M mm_prog (d + 1) 169 [(0, 97), (0, 105), (0, 114), (0, 0), (0, 0), (0, 0), (0, 0)] h = some (f_enc 27 96 [97, 105, 114], h) := (e_X12_spelt d h 97 105 114 0 0 0 0).trans rfl
theorem sp_out (d : Nat) (h : mm_H) : mm_M mm_prog (d + 2) 170 [(0, 18)] h = some (f_enc 27 96 [111, 117, 116], h) := by
  have e : mm_M mm_prog (d + 1) 169 [(0, 111), (0, 117), (0, 116), (0, 0), (0, 0), (0, 0), (0, 0)] h = some (f_enc 27 96 [111, 117, 116], h) := (e_X12_spelt d h 111 117 116 0 0 0 0).trans rfl
  rw [e_X12_wordOf]
  rw [if_neg (by decide), if_neg (by decide), if_neg (by decide), if_neg (by decide), if_neg (by decide), if_neg (by decide), if_neg (by decide), if_neg (by decide), if_neg (by decide), if_neg (by decide), if_neg (by decide), if_neg (by decide), if_neg (by decide), if_neg (by decide), if_neg (by decide), if_neg (by decide), if_neg (by decide), if_neg (by decide), if_pos rfl, e]
  rfl
