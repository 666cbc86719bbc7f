/-! THE SMALL MACHINE: every value is a number with a tag; every object that is ever written has a number, and what it refers to for good lies at a fixed distance from it. Tags: 0 int, 1 long, 2 a Word (its ordinal; null: below 0), 3 a text constant, 4 Word.ALL, 5 MOST_OF_SORT, 6 null, 9 nothing, 10 and on: the kinds of objects (classes as in vwCl), 22 and on: the kinds of arrays -/
abbrev mm_V : Type := Nat × Int
abbrev mm_H : Type := Int → Int → Int
abbrev mm_E : Type := Nat × Instr × Nat × List Nat × Int
abbrev mm_O : Type := Int × mm_H
def mm_w (x : Int) : Int := Int.bmod x 4294967296
def mm_wl (x : Int) : Int := Int.bmod x 18446744073709551616
def mm_w8 (x : Int) : Int := Int.bmod x 256
def mm_up (h : mm_H) (o k v : Int) : mm_H := fun o' k' => if o' = o ∧ k' = k then v else h o' k'
def mm_cp (h : mm_H) (a i b j n : Int) : mm_H := fun o k => if o = b ∧ j ≤ k ∧ k < j + n then h a (i + (k - j)) else h o k
def mm_and (x y : Int) : Int := (Int32.ofInt x &&& Int32.ofInt y).toInt
def mm_or (x y : Int) : Int := (Int32.ofInt x ||| Int32.ofInt y).toInt
def mm_xor (x y : Int) : Int := (Int32.ofInt x ^^^ Int32.ofInt y).toInt
def mm_shl (x y : Int) : Int := (Int32.ofInt x <<< (Int32.ofInt y &&& 31)).toInt
def mm_shr (x y : Int) : Int := (Int32.ofInt x >>> (Int32.ofInt y &&& 31)).toInt
def mm_ushr (x y : Int) : Int := ((Int32.ofInt x).toUInt32 >>> ((Int32.ofInt y).toUInt32 &&& Int32.toUInt32 31)).toInt32.toInt
def mm_div (x y : Int) : Int := (Int32.ofInt x / Int32.ofInt y).toInt
def mm_rem (x y : Int) : Int := (Int32.ofInt x - Int32.ofInt x / Int32.ofInt y * Int32.ofInt y).toInt
def mm_lor (x y : Int) : Int := (Int64.ofInt x ||| Int64.ofInt y).toInt
def mm_lshl (x y : Int) : Int := (Int64.ofInt x <<< ((Int32.ofInt y).toInt64 &&& 63)).toInt
def mm_lushr (x y : Int) : Int := ((Int64.ofInt x).toUInt64 >>> ((Int32.ofInt y).toInt64.toUInt64 &&& Int64.toUInt64 63)).toInt64.toInt
def mm_ldiv (x y : Int) : Int := (Int64.ofInt x / Int64.ofInt y).toInt
def mm_lrem (x y : Int) : Int := (Int64.ofInt x - Int64.ofInt x / Int64.ofInt y * Int64.ofInt y).toInt
def mm_lcmp (x y : Int) : Int := if x < y then -1 else if x = y then 0 else 1
def mm_wr (i : Int) : Bool := decide (0 ≤ i ∧ i < 36)
/-- the kinds of arrays: what they hold (0 int, 1 long, 2 Word, 3 byte, 4 boolean, 5 Moment, 6 Scene, 7 int[]), how many -/
def mm_akl : List (Nat × Nat) := [(0, 4), (0, 5), (0, 6), (0, 7), (0, 40), (0, 61), (1, 28), (3, 940), (3, 21), (4, 256), (2, 40), (5, 8), (6, 2), (7, 6), (0, 940), (0, 316), (0, 48), (0, 632), (0, 208), (0, 26), (1, 22), (1, 44), (4, 2), (0, 256), (0, 60), (0, 366), (0, 64), (0, 80), (0, 240)]
def mm_ak (t : Nat) : Nat × Nat := if t < 22 then (9, 0) else mm_akl.getD (t - 22) (9, 0)
def mm_mos (i : Int) : Int := if i = 0 then 4 else if i = 1 then 7 else if i = 2 then 6 else 5
/-- the text constants: " at ", " out", " in air", " in step" -/
def mm_txt (s : Int) : List Int := if s = 0 then [32, 97, 116, 32] else if s = 1 then [32, 111, 117, 116] else if s = 2 then [32, 105, 110, 32, 97, 105, 114] else [32, 105, 110, 32, 115, 116, 101, 112]
/-- the keys of the 36 Words -/
def mm_keys : List Int := [0, 0, 0, 0, 59, 60, 61, 62, 40, 41, 1919512167, 6775152, 109330363017582, 123581014175598, 2003792491, 418330731890, 499967946343, 7304564, 112641580689524, 1668641381, 6712441, 32199663644145253, 7168366, 119182682645875, 457135713907, 126879297138276, 28530, 6385252, 7237492, 25209, 2003399784, 1651864441, 482854658917, 1885430629, 495874044019, 121450625394034]
def mm_key (i : Int) : Int := mm_keys.getD i.toNat 0
def mm_t1 {α : Type} (st : List mm_V) (t : Nat) (f : α) (k : Int → List mm_V → α) : α := match st with
  | [] => f
  | v :: r => bif v.1 == t then k v.2 r else f
/-- a value of one word -/
def mm_an {α : Type} (st : List mm_V) (f : α) (k : mm_V → List mm_V → α) : α := match st with
  | [] => f
  | v :: r => bif v.1 == 1 || v.1 == 9 then f else k v r
def mm_nl {α : Type} (st : List mm_V) (f : α) (k : α) : α := match st with
  | [] => k
  | _ :: _ => f
def mm_ld {α : Type} (ls : List mm_V) (i t : Nat) (f : α) (k : Int → α) : α := match ls[i]? with
  | none => f
  | some v => bif v.1 == t then k v.2 else f
def mm_la {α : Type} (ls : List mm_V) (i : Nat) (f : α) (k : mm_V → α) : α := match ls[i]? with
  | none => f
  | some v => bif v.1 == 0 || v.1 == 1 || v.1 == 9 then f else k v
/-- the local ahead of i isn't a long -/
def mm_pv (ls : List mm_V) (i : Nat) : Bool := match i with
  | 0 => true
  | j + 1 => match ls[j]? with
    | none => true
    | some v => !(v.1 == 1)
def mm_s1 {α : Type} (ls : List mm_V) (i : Nat) (v : mm_V) (f : α) (k : List mm_V → α) : α := bif decide (i < ls.length) && mm_pv ls i then k (ls.set i v) else f
def mm_s2 {α : Type} (ls : List mm_V) (i : Nat) (v : mm_V) (f : α) (k : List mm_V → α) : α := bif decide (i + 1 < ls.length) && mm_pv ls i then k ((ls.set i v).set (i + 1) (9, 0)) else f
def mm_tg (pc : Nat) (off : Int) : Nat := ((pc : Int) + off).toNat
def mm_sw {α : Type} (x : Int) (pc : Nat) (K : Nat → α) (d : Int) (lo : Int) : List Int → α
  | [] => K (mm_tg pc d)
  | o :: os => if x = lo then K (mm_tg pc o) else mm_sw x pc K d (lo + 1) os
def mm_lk {α : Type} (x : Int) (pc : Nat) (K : Nat → α) (d : Int) : List (Int × Int) → α
  | [] => K (mm_tg pc d)
  | o :: os => if x = o.1 then K (mm_tg pc o.2) else mm_lk x pc K d os
def mm_wd (st : List mm_V) : Nat := (st.map fun v => if v.1 = 1 then 2 else 1).sum
/-- the value of what comes back under a tag; under 6: null (below 0), or a Scene -/
def mm_tv (t : Nat) (x : Int) : mm_V := bif t == 6 then (if x < 0 then (6, 0) else (16, x)) else (t, x)
/-- what a call pushes, by the tag of what comes back (8: nothing) -/
def mm_pu (t : Nat) (x : Int) (st : List mm_V) : List mm_V := bif t == 8 then st else mm_tv t x :: st
def mm_ck {α : Type} (st : List mm_V) (f k : α) : α := bif decide (mm_wd st ≤ 8) then k else f
def mm_F {α : Type} (f : α) (r : Int → mm_H → α) (K : Nat → List mm_V → List mm_V → mm_H → α) (C : Nat → List mm_V → Nat → Nat → List mm_V → List mm_V → mm_H → α) (e : mm_E) (ls st : List mm_V) (h : mm_H) : α :=
  match e.2.1 with
  | .iconst n => K (e.1 + e.2.2.1) ls ((0, n) :: st) h
  | .bipush n => K (e.1 + e.2.2.1) ls ((0, n) :: st) h
  | .sipush n => K (e.1 + e.2.2.1) ls ((0, n) :: st) h
  | .ldc _ => K (e.1 + e.2.2.1) ls ((e.2.2.2.1.headD 0, e.2.2.2.2) :: st) h
  | .ldc_w _ => K (e.1 + e.2.2.1) ls ((e.2.2.2.1.headD 0, e.2.2.2.2) :: st) h
  | .ldc2_w _ => K (e.1 + e.2.2.1) ls ((1, e.2.2.2.2) :: st) h
  | .lconst n => K (e.1 + e.2.2.1) ls ((1, ((n : Nat) : Int)) :: st) h
  | .iload_n i => mm_ld ls i 0 f fun x => K (e.1 + e.2.2.1) ls ((0, x) :: st) h
  | .iload i => mm_ld ls i 0 f fun x => K (e.1 + e.2.2.1) ls ((0, x) :: st) h
  | .lload_n i => mm_ld ls i 1 f fun x => K (e.1 + e.2.2.1) ls ((1, x) :: st) h
  | .lload i => mm_ld ls i 1 f fun x => K (e.1 + e.2.2.1) ls ((1, x) :: st) h
  | .aload_n i => mm_la ls i f fun v => K (e.1 + e.2.2.1) ls (v :: st) h
  | .aload i => mm_la ls i f fun v => K (e.1 + e.2.2.1) ls (v :: st) h
  | .istore_n i => mm_t1 st 0 f fun x st => mm_s1 ls i (0, x) f fun ls => K (e.1 + e.2.2.1) ls st h
  | .istore i => mm_t1 st 0 f fun x st => mm_s1 ls i (0, x) f fun ls => K (e.1 + e.2.2.1) ls st h
  | .lstore_n i => mm_t1 st 1 f fun x st => mm_s2 ls i (1, x) f fun ls => K (e.1 + e.2.2.1) ls st h
  | .lstore i => mm_t1 st 1 f fun x st => mm_s2 ls i (1, x) f fun ls => K (e.1 + e.2.2.1) ls st h
  | .astore_n i => mm_an st f fun v st => bif v.1 == 0 then f else mm_s1 ls i v f fun ls => K (e.1 + e.2.2.1) ls st h
  | .astore i => mm_an st f fun v st => bif v.1 == 0 then f else mm_s1 ls i v f fun ls => K (e.1 + e.2.2.1) ls st h
  | .iinc i n => mm_ld ls i 0 f fun x => mm_s1 ls i (0, mm_w (x + n)) f fun ls => K (e.1 + e.2.2.1) ls st h
  | .iadd => mm_t1 st 0 f fun y st => mm_t1 st 0 f fun x st => K (e.1 + e.2.2.1) ls ((0, mm_w (x + y)) :: st) h
  | .isub => mm_t1 st 0 f fun y st => mm_t1 st 0 f fun x st => K (e.1 + e.2.2.1) ls ((0, mm_w (x - y)) :: st) h
  | .imul => mm_t1 st 0 f fun y st => mm_t1 st 0 f fun x st => K (e.1 + e.2.2.1) ls ((0, mm_w (x * y)) :: st) h
  | .idiv => mm_t1 st 0 f fun y st => mm_t1 st 0 f fun x st => if y = 0 then f else K (e.1 + e.2.2.1) ls ((0, mm_div x y) :: st) h
  | .irem => mm_t1 st 0 f fun y st => mm_t1 st 0 f fun x st => if y = 0 then f else K (e.1 + e.2.2.1) ls ((0, mm_rem x y) :: st) h
  | .ineg => mm_t1 st 0 f fun x st => K (e.1 + e.2.2.1) ls ((0, mm_w (-x)) :: st) h
  | .iand => mm_t1 st 0 f fun y st => mm_t1 st 0 f fun x st => K (e.1 + e.2.2.1) ls ((0, mm_and x y) :: st) h
  | .ior => mm_t1 st 0 f fun y st => mm_t1 st 0 f fun x st => K (e.1 + e.2.2.1) ls ((0, mm_or x y) :: st) h
  | .ixor => mm_t1 st 0 f fun y st => mm_t1 st 0 f fun x st => K (e.1 + e.2.2.1) ls ((0, mm_xor x y) :: st) h
  | .ishl => mm_t1 st 0 f fun y st => mm_t1 st 0 f fun x st => K (e.1 + e.2.2.1) ls ((0, mm_shl x y) :: st) h
  | .ishr => mm_t1 st 0 f fun y st => mm_t1 st 0 f fun x st => K (e.1 + e.2.2.1) ls ((0, mm_shr x y) :: st) h
  | .iushr => mm_t1 st 0 f fun y st => mm_t1 st 0 f fun x st => K (e.1 + e.2.2.1) ls ((0, mm_ushr x y) :: st) h
  | .ladd => mm_t1 st 1 f fun y st => mm_t1 st 1 f fun x st => K (e.1 + e.2.2.1) ls ((1, mm_wl (x + y)) :: st) h
  | .lsub => mm_t1 st 1 f fun y st => mm_t1 st 1 f fun x st => K (e.1 + e.2.2.1) ls ((1, mm_wl (x - y)) :: st) h
  | .lmul => mm_t1 st 1 f fun y st => mm_t1 st 1 f fun x st => K (e.1 + e.2.2.1) ls ((1, mm_wl (x * y)) :: st) h
  | .ldiv => mm_t1 st 1 f fun y st => mm_t1 st 1 f fun x st => if y = 0 then f else K (e.1 + e.2.2.1) ls ((1, mm_ldiv x y) :: st) h
  | .lrem => mm_t1 st 1 f fun y st => mm_t1 st 1 f fun x st => if y = 0 then f else K (e.1 + e.2.2.1) ls ((1, mm_lrem x y) :: st) h
  | .lor => mm_t1 st 1 f fun y st => mm_t1 st 1 f fun x st => K (e.1 + e.2.2.1) ls ((1, mm_lor x y) :: st) h
  | .lshl => mm_t1 st 0 f fun y st => mm_t1 st 1 f fun x st => K (e.1 + e.2.2.1) ls ((1, mm_lshl x y) :: st) h
  | .lushr => mm_t1 st 0 f fun y st => mm_t1 st 1 f fun x st => K (e.1 + e.2.2.1) ls ((1, mm_lushr x y) :: st) h
  | .lcmp => mm_t1 st 1 f fun y st => mm_t1 st 1 f fun x st => K (e.1 + e.2.2.1) ls ((0, mm_lcmp x y) :: st) h
  | .i2l => mm_t1 st 0 f fun x st => K (e.1 + e.2.2.1) ls ((1, x) :: st) h
  | .l2i => mm_t1 st 1 f fun x st => K (e.1 + e.2.2.1) ls ((0, mm_w x) :: st) h
  | .i2b => mm_t1 st 0 f fun x st => K (e.1 + e.2.2.1) ls ((0, mm_w8 x) :: st) h
  | .dup => mm_an st f fun v st => K (e.1 + e.2.2.1) ls (v :: v :: st) h
  | .dup2 => mm_an st f fun v st => mm_an st f fun u st => K (e.1 + e.2.2.1) ls (v :: u :: v :: u :: st) h
  | .pop => mm_an st f fun _ st => K (e.1 + e.2.2.1) ls st h
  | .goto o => K (mm_tg e.1 o) ls st h
  | .ifCond .eq o => mm_t1 st 0 f fun x st => if x = 0 then K (mm_tg e.1 o) ls st h else K (e.1 + e.2.2.1) ls st h
  | .ifCond .ne o => mm_t1 st 0 f fun x st => if x = 0 then K (e.1 + e.2.2.1) ls st h else K (mm_tg e.1 o) ls st h
  | .ifCond .lt o => mm_t1 st 0 f fun x st => if x < 0 then K (mm_tg e.1 o) ls st h else K (e.1 + e.2.2.1) ls st h
  | .ifCond .ge o => mm_t1 st 0 f fun x st => if x < 0 then K (e.1 + e.2.2.1) ls st h else K (mm_tg e.1 o) ls st h
  | .ifCond .gt o => mm_t1 st 0 f fun x st => if 0 < x then K (mm_tg e.1 o) ls st h else K (e.1 + e.2.2.1) ls st h
  | .ifCond .le o => mm_t1 st 0 f fun x st => if 0 < x then K (e.1 + e.2.2.1) ls st h else K (mm_tg e.1 o) ls st h
  | .if_icmp .eq o => mm_t1 st 0 f fun y st => mm_t1 st 0 f fun x st => if x = y then K (mm_tg e.1 o) ls st h else K (e.1 + e.2.2.1) ls st h
  | .if_icmp .ne o => mm_t1 st 0 f fun y st => mm_t1 st 0 f fun x st => if x = y then K (e.1 + e.2.2.1) ls st h else K (mm_tg e.1 o) ls st h
  | .if_icmp .lt o => mm_t1 st 0 f fun y st => mm_t1 st 0 f fun x st => if x < y then K (mm_tg e.1 o) ls st h else K (e.1 + e.2.2.1) ls st h
  | .if_icmp .ge o => mm_t1 st 0 f fun y st => mm_t1 st 0 f fun x st => if x < y then K (e.1 + e.2.2.1) ls st h else K (mm_tg e.1 o) ls st h
  | .if_icmp .gt o => mm_t1 st 0 f fun y st => mm_t1 st 0 f fun x st => if y < x then K (mm_tg e.1 o) ls st h else K (e.1 + e.2.2.1) ls st h
  | .if_icmp .le o => mm_t1 st 0 f fun y st => mm_t1 st 0 f fun x st => if y < x then K (e.1 + e.2.2.1) ls st h else K (mm_tg e.1 o) ls st h
  | .if_acmp .eq o => mm_t1 st 2 f fun y st => mm_t1 st 2 f fun x st => bif mm_wr y then (if x = y then K (mm_tg e.1 o) ls st h else K (e.1 + e.2.2.1) ls st h) else f
  | .if_acmp .ne o => mm_t1 st 2 f fun y st => mm_t1 st 2 f fun x st => bif mm_wr y then (if x = y then K (e.1 + e.2.2.1) ls st h else K (mm_tg e.1 o) ls st h) else f
  | .aconst_null => K (e.1 + e.2.2.1) ls ((6, 0) :: st) h
  | .ifnull o => mm_an st f fun v st => bif v.1 == 6 then K (mm_tg e.1 o) ls st h else bif Nat.ble 10 v.1 then K (e.1 + e.2.2.1) ls st h else f
  | .ifnonnull o => mm_an st f fun v st => bif v.1 == 6 then K (e.1 + e.2.2.1) ls st h else bif Nat.ble 10 v.1 then K (mm_tg e.1 o) ls st h else f
  | .tableswitch d lo _ os => mm_t1 st 0 f fun x st => mm_sw x e.1 (fun pc => K pc ls st h) d lo os.toList
  | .lookupswitch d ps => mm_t1 st 0 f fun x st => mm_lk x e.1 (fun pc => K pc ls st h) d ps.toList
  | .getstatic _ => K (e.1 + e.2.2.1) ls ((e.2.2.2.1.headD 9, e.2.2.2.2) :: st) h
  | .getfield _ => mm_an st f fun v st => bif v.1 == e.2.2.2.1.getD 0 9 then (match e.2.2.2.1.getD 2 9 with
      | 0 => K (e.1 + e.2.2.1) ls ((0, h v.2 (e.2.2.2.1.getD 1 0 : Nat)) :: st) h
      | 1 => K (e.1 + e.2.2.1) ls ((1, h v.2 (e.2.2.2.1.getD 1 0 : Nat)) :: st) h
      | 2 => K (e.1 + e.2.2.1) ls ((2, h v.2 (e.2.2.2.1.getD 1 0 : Nat)) :: st) h
      | 3 => K (e.1 + e.2.2.1) ls ((e.2.2.2.1.getD 3 9, v.2 + (e.2.2.2.1.getD 4 0 : Nat)) :: st) h
      | 4 => bif mm_wr v.2 then K (e.1 + e.2.2.1) ls ((1, mm_key v.2) :: st) h else f
      | _ => f) else f
  | .putfield _ => match e.2.2.2.1.getD 2 9 with
      | 0 => mm_t1 st 0 f fun x st => mm_an st f fun v st => bif v.1 == e.2.2.2.1.getD 0 9 then K (e.1 + e.2.2.1) ls st (mm_up h v.2 (e.2.2.2.1.getD 1 0 : Nat) x) else f
      | 1 => mm_t1 st 1 f fun x st => mm_an st f fun v st => bif v.1 == e.2.2.2.1.getD 0 9 then K (e.1 + e.2.2.1) ls st (mm_up h v.2 (e.2.2.2.1.getD 1 0 : Nat) x) else f
      | 2 => mm_t1 st 2 f fun x st => mm_an st f fun v st => bif v.1 == e.2.2.2.1.getD 0 9 then K (e.1 + e.2.2.1) ls st (mm_up h v.2 (e.2.2.2.1.getD 1 0 : Nat) x) else f
      | 5 => mm_t1 st 0 f fun x st => mm_an st f fun v st => bif v.1 == e.2.2.2.1.getD 0 9 then (if x = 0 ∨ x = 1 then K (e.1 + e.2.2.1) ls st (mm_up h v.2 (e.2.2.2.1.getD 1 0 : Nat) x) else f) else f
      | _ => f
  | .arraylength => mm_t1 st 4 f fun _ st => K (e.1 + e.2.2.1) ls ((0, 36) :: st) h
  | .iaload => mm_t1 st 0 f fun i st => mm_an st f fun v st => bif v.1 == 5 then (if 0 ≤ i ∧ i < 4 then K (e.1 + e.2.2.1) ls ((0, mm_mos i) :: st) h else f) else bif (mm_ak v.1).1 == 0 then (if 0 ≤ i ∧ i < ((mm_ak v.1).2 : Nat) then K (e.1 + e.2.2.1) ls ((0, h v.2 i) :: st) h else f) else f
  | .laload => mm_t1 st 0 f fun i st => mm_an st f fun v st => bif (mm_ak v.1).1 == 1 then (if 0 ≤ i ∧ i < ((mm_ak v.1).2 : Nat) then K (e.1 + e.2.2.1) ls ((1, h v.2 i) :: st) h else f) else f
  | .baload => mm_t1 st 0 f fun i st => mm_an st f fun v st => bif (mm_ak v.1).1 == 3 || (mm_ak v.1).1 == 4 then (if 0 ≤ i ∧ i < ((mm_ak v.1).2 : Nat) then K (e.1 + e.2.2.1) ls ((0, h v.2 i) :: st) h else f) else f
  | .aaload => mm_t1 st 0 f fun i st => mm_an st f fun v st => bif v.1 == 4 then (if 0 ≤ i ∧ i < 36 then K (e.1 + e.2.2.1) ls ((2, i) :: st) h else f) else if 0 ≤ i ∧ i < ((mm_ak v.1).2 : Nat) then (match (mm_ak v.1).1 with
      | 2 => K (e.1 + e.2.2.1) ls ((2, h v.2 i) :: st) h
      | 5 => K (e.1 + e.2.2.1) ls ((12, v.2 + 1 + 4 * i) :: st) h
      | 6 => K (e.1 + e.2.2.1) ls ((16, v.2 + 62 + 19 * i) :: st) h
      | 7 => K (e.1 + e.2.2.1) ls ((27, v.2 + 1 + i) :: st) h
      | _ => f) else f
  | .iastore => mm_t1 st 0 f fun x st => mm_t1 st 0 f fun i st => mm_an st f fun v st => bif (mm_ak v.1).1 == 0 then (if 0 ≤ i ∧ i < ((mm_ak v.1).2 : Nat) then K (e.1 + e.2.2.1) ls st (mm_up h v.2 i x) else f) else f
  | .lastore => mm_t1 st 1 f fun x st => mm_t1 st 0 f fun i st => mm_an st f fun v st => bif (mm_ak v.1).1 == 1 then (if 0 ≤ i ∧ i < ((mm_ak v.1).2 : Nat) then K (e.1 + e.2.2.1) ls st (mm_up h v.2 i x) else f) else f
  | .bastore => mm_t1 st 0 f fun x st => mm_t1 st 0 f fun i st => mm_an st f fun v st => bif (mm_ak v.1).1 == 3 then (if 0 ≤ i ∧ i < ((mm_ak v.1).2 : Nat) then K (e.1 + e.2.2.1) ls st (mm_up h v.2 i (mm_w8 x)) else f) else bif (mm_ak v.1).1 == 4 then (if 0 ≤ i ∧ i < ((mm_ak v.1).2 : Nat) then (if x = 0 ∨ x = 1 then K (e.1 + e.2.2.1) ls st (mm_up h v.2 i x) else f) else f) else f
  | .aastore => mm_t1 st 2 f fun x st => mm_t1 st 0 f fun i st => mm_an st f fun v st => bif (mm_ak v.1).1 == 2 then (if 0 ≤ i ∧ i < ((mm_ak v.1).2 : Nat) then K (e.1 + e.2.2.1) ls st (mm_up h v.2 i x) else f) else f
  | .invokevirtual _ => match e.2.2.2.1.getD 0 9 with
      | 0 => bif decide (e.2.2.2.1.getD 2 0 ≤ st.length) && decide (mm_wd (st.drop (e.2.2.2.1.getD 2 0)) ≤ 8) && ((st.take (e.2.2.2.1.getD 2 0)).getLast?.elim false fun v => v.1 == e.2.2.2.1.getD 4 9) then C (e.2.2.2.1.getD 1 0) ((st.take (e.2.2.2.1.getD 2 0)).reverse) (e.2.2.2.1.getD 3 9) (e.1 + e.2.2.1) ls (st.drop (e.2.2.2.1.getD 2 0)) h else f
      | 1 => mm_t1 st 3 f fun s st => mm_ck st f <| K (e.1 + e.2.2.1) ls ((0, ((mm_txt s).length : Nat)) :: st) h
      | 2 => mm_t1 st 0 f fun i st => mm_t1 st 3 f fun s st => mm_ck st f <| if 0 ≤ i ∧ i < ((mm_txt s).length : Nat) then K (e.1 + e.2.2.1) ls ((0, (mm_txt s).getD i.toNat 0) :: st) h else f
      | _ => f
  | .invokestatic _ => match e.2.2.2.1.getD 0 9 with
      | 0 => bif decide (e.2.2.2.1.getD 2 0 ≤ st.length) && decide (mm_wd (st.drop (e.2.2.2.1.getD 2 0)) ≤ 8) then C (e.2.2.2.1.getD 1 0) ((st.take (e.2.2.2.1.getD 2 0)).reverse) (e.2.2.2.1.getD 3 9) (e.1 + e.2.2.1) ls (st.drop (e.2.2.2.1.getD 2 0)) h else f
      | 1 => mm_t1 st 0 f fun y st => mm_t1 st 0 f fun x st => mm_ck st f <| K (e.1 + e.2.2.1) ls ((0, min x y) :: st) h
      | 2 => mm_t1 st 0 f fun y st => mm_t1 st 0 f fun x st => mm_ck st f <| K (e.1 + e.2.2.1) ls ((0, max x y) :: st) h
      | 3 => mm_t1 st 0 f fun x st => mm_ck st f <| K (e.1 + e.2.2.1) ls ((0, mm_w (if x < 0 then -x else x)) :: st) h
      | 4 => mm_t1 st 0 f fun n st => mm_t1 st 0 f fun j st => mm_an st f fun b st => mm_t1 st 0 f fun i st => mm_an st f fun a st => mm_ck st f <| bif ((mm_ak a.1).1 == 0 || (mm_ak a.1).1 == 1) && (mm_ak b.1).1 == (mm_ak a.1).1 && decide (0 ≤ i ∧ 0 ≤ j ∧ 0 ≤ n ∧ i + n ≤ ((mm_ak a.1).2 : Nat) ∧ j + n ≤ ((mm_ak b.1).2 : Nat)) then K (e.1 + e.2.2.1) ls st (mm_cp h a.2 i b.2 j n) else f
      | _ => f
  | .ireturn => mm_t1 st 0 f fun x st => mm_nl st f (bif e.2.2.2.1.headD 0 == 5 then (if x = 0 ∨ x = 1 then r x h else f) else r x h)
  | .lreturn => mm_t1 st 1 f fun x st => mm_nl st f (r x h)
  | .areturn => bif e.2.2.2.1.headD 0 == 6 then (mm_an st f fun v st => mm_nl st f (bif v.1 == 6 then r (-1) h else bif v.1 == 16 then r v.2 h else f)) else mm_t1 st 2 f fun x st => mm_nl st f (r x h)
  | .return_ => mm_nl st f (r 0 h)
  | _ => f
/-- the rows of a method's code, by the place -/
def mm_at (c : List mm_E) (pc : Nat) : Option mm_E := c.find? fun e => e.1 == pc
