/-! What holds wherever a method of the small machine runs -/
def mm_ty (c : Nat) : FieldType := match c with
  | 0 => .int
  | 1 => .long
  | 2 => .object "HiccupTown$Word"
  | 3 => .byte
  | 4 => .boolean
  | 5 => .object "HiccupTown$Moment"
  | 6 => .object "HiccupTown$Scene"
  | _ => .array .int
def mm_tys (cy : Nat → ClassId) : List (ClassId × FieldType) := (List.range 8).map fun c => (cy c, mm_ty c)
theorem mm_tys_get {cy : Nat → ClassId} {c : Nat} (h : c < 8) : (mm_tys cy)[c]? = some (cy c, mm_ty c) := by
  simp [mm_tys, h]
/-- what was there before, and stays: the Words, their array and keys, the numbers of MOST_OF_SORT -/
def mm_Z (g : Nat → Nat → Nat) (A : Nat → Prop) (U : State) (H : Heap) : Prop :=
  (∀ i, i < 36 → va_Z "HiccupTown$Word" (mm_wn.getD i "") "LHiccupTown$Word;" (.ref (g 1 i)) A U H) ∧
  va_Z "HiccupTown$Word" "ALL" "[LHiccupTown$Word;" (.ref (g 3 0)) A U H ∧ va_T (.object "HiccupTown$Word") (g 3 0) 36 (fun j => .ref (g 1 j)) A U H ∧
  va_Z "HiccupTown" "MOST_OF_SORT" "[I" (.ref (g 3 1)) A U H ∧ va_T .int (g 3 1) 4 (fun j => .int (Int32.ofInt (mm_mos j))) A U H ∧
  va_Ef 36 "HiccupTown$Word" "key" "J" (fun i => .long (Int64.ofInt (mm_key i))) (g 1) A U H ∧ (∀ i, i < 36 → va_O "HiccupTown$Word" (g 1 i) A U H) ∧
  va_Z "java/lang/String" "COMPACT_STRINGS" "Z" (.int 1) A U H ∧ va_Zq "jdk/internal/util/Preconditions" "SIOOBE_FORMATTER" "Ljava/util/function/BiFunction;" A U H ∧
  (∀ k, k < 4 → va_O "java/lang/String" (g 2 k) A U H ∧ va_OF "java/lang/String" "coder" "B" (.int 0) (g 2 k) A U H ∧ va_OF "java/lang/String" "value" "[B" (.ref (g 4 k)) (g 2 k) A U H ∧ va_T .byte (g 4 k) (mm_txt k).length (fun j => .int (Int32.ofInt ((mm_txt k).getD j 0))) A U H)
theorem mm_Z.moved {g : Nat → Nat → Nat} {A : Nat → Prop} {u U : State} {H : Heap} (hvm : u.vm.Alike U.vm) (h : mm_Z g A u H) : mm_Z g A U H :=
  ⟨fun i hi => (h.1 i hi).moved hvm, h.2.1.moved hvm, h.2.2.1.moved hvm, h.2.2.2.1.moved hvm, h.2.2.2.2.1.moved hvm, h.2.2.2.2.2.1.moved hvm, fun i hi => (h.2.2.2.2.2.2.1 i hi).moved hvm, h.2.2.2.2.2.2.2.1.moved hvm, va_Zq.moved hvm h.2.2.2.2.2.2.2.2.1, fun k hk => ⟨(h.2.2.2.2.2.2.2.2.2 k hk).1.moved hvm, (h.2.2.2.2.2.2.2.2.2 k hk).2.1.moved hvm, (h.2.2.2.2.2.2.2.2.2 k hk).2.2.1.moved hvm, (h.2.2.2.2.2.2.2.2.2 k hk).2.2.2.moved hvm⟩⟩
theorem mm_Z.kept {g : Nat → Nat → Nat} {A : Nat → Prop} {U : State} {H H1 : Heap} (h : mm_Z g A U H) (hq : ∀ a : Nat, a < H.size → ¬ A a → H1[a]? = H[a]?) : mm_Z g A U H1 :=
  ⟨fun i hi => (h.1 i hi).kept hq, h.2.1.kept hq, h.2.2.1.kept hq, h.2.2.2.1.kept hq, h.2.2.2.2.1.kept hq, h.2.2.2.2.2.1.kept hq, fun i hi => (h.2.2.2.2.2.2.1 i hi).kept hq, h.2.2.2.2.2.2.2.1.kept hq, h.2.2.2.2.2.2.2.2.1.kept hq, fun k hk => ⟨(h.2.2.2.2.2.2.2.2.2 k hk).1.kept hq, (h.2.2.2.2.2.2.2.2.2 k hk).2.1.kept hq, (h.2.2.2.2.2.2.2.2.2 k hk).2.2.1.kept hq, (h.2.2.2.2.2.2.2.2.2 k hk).2.2.2.kept hq⟩⟩
theorem mm_Z.narrow {g : Nat → Nat → Nat} {A B : Nat → Prop} {U : State} {H : Heap} (h : mm_Z g A U H) (hq : ∀ q, B q → A q) : mm_Z g B U H :=
  ⟨fun i hi => (h.1 i hi).narrow hq, h.2.1.narrow hq, h.2.2.1.narrow hq, h.2.2.2.1.narrow hq, h.2.2.2.2.1.narrow hq, h.2.2.2.2.2.1.narrow hq, fun i hi => (h.2.2.2.2.2.2.1 i hi).narrow hq, h.2.2.2.2.2.2.2.1.narrow hq, h.2.2.2.2.2.2.2.2.1.narrow hq, fun k hk => ⟨(h.2.2.2.2.2.2.2.2.2 k hk).1.narrow hq, (h.2.2.2.2.2.2.2.2.2 k hk).2.1.narrow hq, (h.2.2.2.2.2.2.2.2.2 k hk).2.2.1.narrow hq, (h.2.2.2.2.2.2.2.2.2 k hk).2.2.2.narrow hq⟩⟩
/-- the text constants of the class, by their pool places -/
def mm_tix : List (Nat × String) := [(294, " at "), (302, " out"), (304, " in air"), (306, " in step")]
def mm_nw (g : Nat → Nat → Nat) (U : State) : Prop := (∀ w ∈ mm_NW, va_Nw w U) ∧ ∀ k, k < 4 → vk_R "HiccupTown" (mm_tix.getD k (0, "")).1 (mm_tix.getD k (0, "")).2 (g 2 k) U
theorem mm_nw.warm {g : Nat → Nat → Nat} {s U : State} (hW : s.WarmedH U.vm) (h : mm_nw g s) : mm_nw g U := by
  refine ⟨fun w hw => ?_, fun k hk => (h.2 k hk).warm hW⟩
  have h1 := h.1 w hw
  have h2 : mm_isN w = true := (List.mem_filter.mp hw).2
  cases w <;> first | exact va_Nw.warmF hW h1 | exact va_Nw.warmM hW h1 | (simp [mm_isN] at h2)
theorem mm_nw.same {g : Nat → Nat → Nat} {u U : State} (hv : u.vm = U.vm) (h : mm_nw g u) : mm_nw g U := by
  refine ⟨fun w hw => ?_, fun k hk => (h.2 k hk).same hv.symm⟩
  have h1 := h.1 w hw
  have h2 : mm_isN w = true := (List.mem_filter.mp hw).2
  cases w <;> first | exact va_Nw.same rfl hv h1 | (simp [mm_isN] at h2)
/-- the room of a method at depth d -/
def mm_rm (d : Nat) : Room := { frames := d + 5, cells := 0, slots := 0, locals := 60 * d + 120 }
/-- a state in which a method may be called -/
def mm_U (g : Nat → Nat → Nat) (D : va_G) (cy : Nat → ClassId) (h : mm_H) (U : State) : Prop :=
  va_P D vwCl (mm_ws g cy h) U.heap ∧ va_K D vwCl (mm_tys cy) U ∧ mm_Z g (mm_A g) U U.heap ∧ mm_nw g U ∧ mm_rg h
/-- what comes back -/
def mm_rv (g : Nat → Nat → Nat) (t : Nat) (x : Int) : Option Value := if t = 8 then none else some (mm_val g (mm_tv t x))
def mm_Q (g : Nat → Nat → Nat) (D : va_G) (cy : Nat → ClassId) (t : Nat) (o : mm_O) : Array Value → State → Outcome → State → Prop := fun _ st oc u =>
  oc = .returned (mm_rv g t o.1) ∧ va_P D vwCl (mm_ws g cy o.2) u.heap ∧ va_F (mm_A g) st u
/-- what comes back is sound: of its kind, and the numbers of the heap are -/
def mm_ro (t : Nat) (o : mm_O) : Prop := (t ≠ 8 → mm_vok (mm_tv t o.1)) ∧ mm_rg o.2
def mm_wq (q : Nat) : List Cond := .code (mm_y q) (mm_b q) (mm_prog q).2 (mm_r q) :: mm_TW
theorem mm_FB {g : Nat → Nat → Nat} {D : va_G} {cy : Nat → ClassId} {h : mm_H} {as : List Value} : FrameBlind (va_Pc as (mm_U g D cy h)) := by
  intro a U f mk hq
  obtain ⟨q0, qP, qK, qZ, qN, qR⟩ := hq
  exact ⟨q0, qP, va_K.moved (u := U) (U := U.calling f mk a) (Vm.Alike.refl U.vm) qK, mm_Z.moved (u := U) (U := U.calling f mk a) (Vm.Alike.refl U.vm) qZ, mm_nw.same (u := U) (U := U.calling f mk a) rfl qN, qR⟩
section MC
variable {p : Program} {l : Launch} {e : Env} {R : Room} {s : State} {m : MethodId} {args : Array Value} {below : List Frame} {meth : Method} {c : Code} {H : Heap} {locs : List Loc} {cells slots : Nat} {Q : State → Prop}
theorem mm_call {g : Nat → Nat → Nat} {D : va_G} {cy : Nat → ClassId} {t pc : Nat} {o : mm_O} {L : Array Slot} {st0 rest : List Value} {aa : Array Value} {H0 : Heap} (hr : va_Run p l e R s m args below meth c H locs cells slots 0 0 (F0 m pc L st0) rest (mm_Q g D cy t o aa) (mm_A g)) (hS : va_S (mm_A g) H0 H locs)
    (kk : ∀ (H1 : Heap) (locs1 : List Loc), va_P D vwCl (mm_ws g cy o.2) H1 → va_S (mm_A g) H0 H1 locs1 → W p l e R s m args below meth c H1 locs1 cells slots Q (F0 m (pc + 3) L ((mm_rv g t o.1).toList ++ rest))) : W p l e R s m args below meth c H locs cells slots Q (F0 m pc L st0) := by
  intro T hT X
  obtain ⟨v, st₀, u, T', L', h0, X', hL, e1, e2, ⟨hv, hP, hz, hk⟩, st⟩ := hr T hT X
  cases hv
  rw [h0] at hz hk
  obtain ⟨t2, a1, b1⟩ := kk T'.heap (locs ++ L') (by rw [e1]; exact hP)
    ⟨Nat.le_trans hS.1 (by rw [e1]; exact hz), fun q h1 h2 => by rw [e1, hk q (Nat.lt_of_lt_of_le h1 hS.1) h2]; exact hS.2.1 q h1 h2, fun q hq => by
      rcases List.mem_append.mp hq with h | h
      · exact hS.2.2 q h
      · exact hL q h⟩ T' rfl X'
  exact ⟨t2, st t2 a1, b1⟩
end MC
