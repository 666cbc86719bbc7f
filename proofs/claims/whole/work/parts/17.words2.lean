/-! The words behind statics and members of the JDK -/
def mm_wn : List String := ["END", "BAD", "NAME", "DIGITS", "SEMICOLON", "LESS", "EQUAL", "GREATER", "OPENING", "CLOSING", "RING", "GAP", "COUSIN", "PERSON", "WORK", "AFTER", "THING", "OUT", "FRIGHT", "CURE", "FLY", "RELIEVE", "MAN", "LEAVES", "JOINS", "SECOND", "OR", "AND", "NOT", "BY", "WITH", "BUSY", "PLACE", "PACE", "STEPS", "NUMBER"]
def mm_pzP (z : Nat × Nat × Nat × Int) : Prop := (z.2.2.1 = 2 → (0 ≤ z.2.2.2 ∧ z.2.2.2 < 36) ∧ Cond.fieldLink (mm_xn z.1) z.2.1 "HiccupTown$Word" (mm_wn.getD z.2.2.2.toNat "") "LHiccupTown$Word;" ∈ mm_TW) ∧ (z.2.2.1 = 4 → Cond.fieldLink (mm_xn z.1) z.2.1 "HiccupTown$Word" "ALL" "[LHiccupTown$Word;" ∈ mm_TW) ∧ (z.2.2.1 = 5 → ∃ host, Cond.fieldLinkNest (mm_xn z.1) z.2.1 "HiccupTown" "MOST_OF_SORT" "[I" host ∈ mm_NW)
set_option maxRecDepth 100000 in
theorem mm_pz0 : mm_pzP (0, 28, 2, 0) := ⟨fun _ => ⟨by decide, (mm_tw5 54 rfl rfl)⟩, fun h => absurd h (by decide), fun h => absurd h (by decide)⟩
set_option maxRecDepth 100000 in
theorem mm_pz1 : mm_pzP (0, 37, 2, 4) := ⟨fun _ => ⟨by decide, (mm_tw5 100 rfl rfl)⟩, fun h => absurd h (by decide), fun h => absurd h (by decide)⟩
set_option maxRecDepth 100000 in
theorem mm_pz2 : mm_pzP (0, 44, 2, 2) := ⟨fun _ => ⟨by decide, (mm_tw5 59 rfl rfl)⟩, fun h => absurd h (by decide), fun h => absurd h (by decide)⟩
set_option maxRecDepth 100000 in
theorem mm_pz3 : mm_pzP (0, 67, 2, 21) := ⟨fun _ => ⟨by decide, (mm_tw5 71 rfl rfl)⟩, fun h => absurd h (by decide), fun h => absurd h (by decide)⟩
set_option maxRecDepth 100000 in
theorem mm_pz4 : mm_pzP (0, 73, 2, 25) := ⟨fun _ => ⟨by decide, (mm_tw5 73 rfl rfl)⟩, fun h => absurd h (by decide), fun h => absurd h (by decide)⟩
set_option maxRecDepth 100000 in
theorem mm_pz5 : mm_pzP (0, 92, 2, 18) := ⟨fun _ => ⟨by decide, (mm_tw5 65 rfl rfl)⟩, fun h => absurd h (by decide), fun h => absurd h (by decide)⟩
set_option maxRecDepth 100000 in
theorem mm_pz6 : mm_pzP (0, 95, 2, 19) := ⟨fun _ => ⟨by decide, (mm_tw5 67 rfl rfl)⟩, fun h => absurd h (by decide), fun h => absurd h (by decide)⟩
set_option maxRecDepth 100000 in
theorem mm_pz7 : mm_pzP (0, 98, 2, 20) := ⟨fun _ => ⟨by decide, (mm_tw5 69 rfl rfl)⟩, fun h => absurd h (by decide), fun h => absurd h (by decide)⟩
set_option maxRecDepth 100000 in
theorem mm_pz8 : mm_pzP (0, 101, 2, 22) := ⟨fun _ => ⟨by decide, (mm_tw5 80 rfl rfl)⟩, fun h => absurd h (by decide), fun h => absurd h (by decide)⟩
set_option maxRecDepth 100000 in
theorem mm_pz9 : mm_pzP (0, 108, 2, 23) := ⟨fun _ => ⟨by decide, (mm_tw5 92 rfl rfl)⟩, fun h => absurd h (by decide), fun h => absurd h (by decide)⟩
set_option maxRecDepth 100000 in
theorem mm_pz10 : mm_pzP (0, 111, 2, 24) := ⟨fun _ => ⟨by decide, (mm_tw5 94 rfl rfl)⟩, fun h => absurd h (by decide), fun h => absurd h (by decide)⟩
set_option maxRecDepth 100000 in
theorem mm_pz11 : mm_pzP (4, 53, 5, 0) := ⟨fun h => absurd h (by decide), fun h => absurd h (by decide), fun _ => ⟨"HiccupTown", (mm_tn3 27 rfl rfl)⟩⟩
set_option maxRecDepth 100000 in
theorem mm_pz12 : mm_pzP (7, 38, 2, 0) := ⟨fun _ => ⟨by decide, (mm_tw5 182 rfl rfl)⟩, fun h => absurd h (by decide), fun h => absurd h (by decide)⟩
set_option maxRecDepth 100000 in
theorem mm_pz13 : mm_pzP (7, 54, 2, 26) := ⟨fun _ => ⟨by decide, (mm_tw5 180 rfl rfl)⟩, fun h => absurd h (by decide), fun h => absurd h (by decide)⟩
set_option maxRecDepth 100000 in
theorem mm_pz14 : mm_pzP (7, 67, 2, 27) := ⟨fun _ => ⟨by decide, (mm_tw5 178 rfl rfl)⟩, fun h => absurd h (by decide), fun h => absurd h (by decide)⟩
set_option maxRecDepth 100000 in
theorem mm_pz15 : mm_pzP (7, 77, 2, 28) := ⟨fun _ => ⟨by decide, (mm_tw5 139 rfl rfl)⟩, fun h => absurd h (by decide), fun h => absurd h (by decide)⟩
set_option maxRecDepth 100000 in
theorem mm_pz16 : mm_pzP (7, 80, 2, 8) := ⟨fun _ => ⟨by decide, (mm_tw5 141 rfl rfl)⟩, fun h => absurd h (by decide), fun h => absurd h (by decide)⟩
set_option maxRecDepth 100000 in
theorem mm_pz17 : mm_pzP (7, 83, 2, 9) := ⟨fun _ => ⟨by decide, (mm_tw5 164 rfl rfl)⟩, fun h => absurd h (by decide), fun h => absurd h (by decide)⟩
set_option maxRecDepth 100000 in
theorem mm_pz18 : mm_pzP (7, 86, 2, 17) := ⟨fun _ => ⟨by decide, (mm_tw5 143 rfl rfl)⟩, fun h => absurd h (by decide), fun h => absurd h (by decide)⟩
set_option maxRecDepth 100000 in
theorem mm_pz19 : mm_pzP (7, 89, 2, 31) := ⟨fun _ => ⟨by decide, (mm_tw5 144 rfl rfl)⟩, fun h => absurd h (by decide), fun h => absurd h (by decide)⟩
set_option maxRecDepth 100000 in
theorem mm_pz20 : mm_pzP (7, 92, 2, 29) := ⟨fun _ => ⟨by decide, (mm_tw5 146 rfl rfl)⟩, fun h => absurd h (by decide), fun h => absurd h (by decide)⟩
set_option maxRecDepth 100000 in
theorem mm_pz21 : mm_pzP (7, 95, 2, 30) := ⟨fun _ => ⟨by decide, (mm_tw5 148 rfl rfl)⟩, fun h => absurd h (by decide), fun h => absurd h (by decide)⟩
set_option maxRecDepth 100000 in
theorem mm_pz22 : mm_pzP (7, 109, 2, 32) := ⟨fun _ => ⟨by decide, (mm_tw5 150 rfl rfl)⟩, fun h => absurd h (by decide), fun h => absurd h (by decide)⟩
set_option maxRecDepth 100000 in
theorem mm_pz23 : mm_pzP (7, 112, 2, 33) := ⟨fun _ => ⟨by decide, (mm_tw5 152 rfl rfl)⟩, fun h => absurd h (by decide), fun h => absurd h (by decide)⟩
set_option maxRecDepth 100000 in
theorem mm_pz24 : mm_pzP (7, 115, 2, 34) := ⟨fun _ => ⟨by decide, (mm_tw5 154 rfl rfl)⟩, fun h => absurd h (by decide), fun h => absurd h (by decide)⟩
set_option maxRecDepth 100000 in
theorem mm_pz25 : mm_pzP (7, 118, 2, 35) := ⟨fun _ => ⟨by decide, (mm_tw5 156 rfl rfl)⟩, fun h => absurd h (by decide), fun h => absurd h (by decide)⟩
set_option maxRecDepth 100000 in
theorem mm_pz26 : mm_pzP (7, 121, 2, 5) := ⟨fun _ => ⟨by decide, (mm_tw5 171 rfl rfl)⟩, fun h => absurd h (by decide), fun h => absurd h (by decide)⟩
set_option maxRecDepth 100000 in
theorem mm_pz27 : mm_pzP (7, 124, 2, 6) := ⟨fun _ => ⟨by decide, (mm_tw5 173 rfl rfl)⟩, fun h => absurd h (by decide), fun h => absurd h (by decide)⟩
set_option maxRecDepth 100000 in
theorem mm_pz28 : mm_pzP (7, 127, 2, 7) := ⟨fun _ => ⟨by decide, (mm_tw5 175 rfl rfl)⟩, fun h => absurd h (by decide), fun h => absurd h (by decide)⟩
set_option maxRecDepth 100000 in
theorem mm_pz29 : mm_pzP (8, 15, 2, 0) := ⟨fun _ => ⟨by decide, (mm_tw1 39 rfl rfl)⟩, fun h => absurd h (by decide), fun h => absurd h (by decide)⟩
set_option maxRecDepth 100000 in
theorem mm_pz30 : mm_pzP (8, 56, 2, 1) := ⟨fun _ => ⟨by decide, (mm_tw2 199 rfl rfl)⟩, fun h => absurd h (by decide), fun h => absurd h (by decide)⟩
set_option maxRecDepth 100000 in
theorem mm_pz31 : mm_pzP (8, 66, 2, 2) := ⟨fun _ => ⟨by decide, (mm_tw2 205 rfl rfl)⟩, fun h => absurd h (by decide), fun h => absurd h (by decide)⟩
set_option maxRecDepth 100000 in
theorem mm_pz32 : mm_pzP (8, 69, 2, 3) := ⟨fun _ => ⟨by decide, (mm_tw2 207 rfl rfl)⟩, fun h => absurd h (by decide), fun h => absurd h (by decide)⟩
set_option maxRecDepth 100000 in
theorem mm_pz33 : mm_pzP (9, 34, 2, 0) := ⟨fun _ => ⟨by decide, (mm_tw2 222 rfl rfl)⟩, fun h => absurd h (by decide), fun h => absurd h (by decide)⟩
set_option maxRecDepth 100000 in
theorem mm_pz34 : mm_pzP (9, 43, 2, 4) := ⟨fun _ => ⟨by decide, (mm_tw3 77 rfl rfl)⟩, fun h => absurd h (by decide), fun h => absurd h (by decide)⟩
set_option maxRecDepth 100000 in
theorem mm_pz35 : mm_pzP (9, 50, 2, 10) := ⟨fun _ => ⟨by decide, (mm_tw2 227 rfl rfl)⟩, fun h => absurd h (by decide), fun h => absurd h (by decide)⟩
set_option maxRecDepth 100000 in
theorem mm_pz36 : mm_pzP (9, 56, 2, 11) := ⟨fun _ => ⟨by decide, (mm_tw3 7 rfl rfl)⟩, fun h => absurd h (by decide), fun h => absurd h (by decide)⟩
set_option maxRecDepth 100000 in
theorem mm_pz37 : mm_pzP (9, 62, 2, 12) := ⟨fun _ => ⟨by decide, (mm_tw3 13 rfl rfl)⟩, fun h => absurd h (by decide), fun h => absurd h (by decide)⟩
set_option maxRecDepth 100000 in
theorem mm_pz38 : mm_pzP (9, 68, 2, 13) := ⟨fun _ => ⟨by decide, (mm_tw3 42 rfl rfl)⟩, fun h => absurd h (by decide), fun h => absurd h (by decide)⟩
set_option maxRecDepth 100000 in
theorem mm_pz39 : mm_pzP (9, 74, 2, 14) := ⟨fun _ => ⟨by decide, (mm_tw3 50 rfl rfl)⟩, fun h => absurd h (by decide), fun h => absurd h (by decide)⟩
set_option maxRecDepth 100000 in
theorem mm_pz40 : mm_pzP (9, 80, 2, 15) := ⟨fun _ => ⟨by decide, (mm_tw3 56 rfl rfl)⟩, fun h => absurd h (by decide), fun h => absurd h (by decide)⟩
set_option maxRecDepth 100000 in
theorem mm_pz41 : mm_pzP (9, 86, 2, 16) := ⟨fun _ => ⟨by decide, (mm_tw3 71 rfl rfl)⟩, fun h => absurd h (by decide), fun h => absurd h (by decide)⟩
set_option maxRecDepth 100000 in
theorem mm_pz42 : mm_pzP (9, 117, 2, 2) := ⟨fun _ => ⟨by decide, (mm_tw3 29 rfl rfl)⟩, fun h => absurd h (by decide), fun h => absurd h (by decide)⟩
set_option maxRecDepth 100000 in
theorem mm_pz43 : mm_pzP (9, 142, 2, 17) := ⟨fun _ => ⟨by decide, (mm_tw3 48 rfl rfl)⟩, fun h => absurd h (by decide), fun h => absurd h (by decide)⟩
set_option maxRecDepth 100000 in
theorem mm_pz44 : mm_pzP (10, 149, 4, 0) := ⟨fun h => absurd h (by decide), fun _ => (mm_tw2 212 rfl rfl), fun h => absurd h (by decide)⟩
set_option maxRecDepth 100000 in
theorem mm_pz_ok : ∀ z ∈ mm_pz, mm_pzP z := (List.forall_mem_cons.mpr ⟨mm_pz0, (List.forall_mem_cons.mpr ⟨mm_pz1, (List.forall_mem_cons.mpr ⟨mm_pz2, (List.forall_mem_cons.mpr ⟨mm_pz3, (List.forall_mem_cons.mpr ⟨mm_pz4, (List.forall_mem_cons.mpr ⟨mm_pz5, (List.forall_mem_cons.mpr ⟨mm_pz6, (List.forall_mem_cons.mpr ⟨mm_pz7, (List.forall_mem_cons.mpr ⟨mm_pz8, (List.forall_mem_cons.mpr ⟨mm_pz9, (List.forall_mem_cons.mpr ⟨mm_pz10, (List.forall_mem_cons.mpr ⟨mm_pz11, (List.forall_mem_cons.mpr ⟨mm_pz12, (List.forall_mem_cons.mpr ⟨mm_pz13, (List.forall_mem_cons.mpr ⟨mm_pz14, (List.forall_mem_cons.mpr ⟨mm_pz15, (List.forall_mem_cons.mpr ⟨mm_pz16, (List.forall_mem_cons.mpr ⟨mm_pz17, (List.forall_mem_cons.mpr ⟨mm_pz18, (List.forall_mem_cons.mpr ⟨mm_pz19, (List.forall_mem_cons.mpr ⟨mm_pz20, (List.forall_mem_cons.mpr ⟨mm_pz21, (List.forall_mem_cons.mpr ⟨mm_pz22, (List.forall_mem_cons.mpr ⟨mm_pz23, (List.forall_mem_cons.mpr ⟨mm_pz24, (List.forall_mem_cons.mpr ⟨mm_pz25, (List.forall_mem_cons.mpr ⟨mm_pz26, (List.forall_mem_cons.mpr ⟨mm_pz27, (List.forall_mem_cons.mpr ⟨mm_pz28, (List.forall_mem_cons.mpr ⟨mm_pz29, (List.forall_mem_cons.mpr ⟨mm_pz30, (List.forall_mem_cons.mpr ⟨mm_pz31, (List.forall_mem_cons.mpr ⟨mm_pz32, (List.forall_mem_cons.mpr ⟨mm_pz33, (List.forall_mem_cons.mpr ⟨mm_pz34, (List.forall_mem_cons.mpr ⟨mm_pz35, (List.forall_mem_cons.mpr ⟨mm_pz36, (List.forall_mem_cons.mpr ⟨mm_pz37, (List.forall_mem_cons.mpr ⟨mm_pz38, (List.forall_mem_cons.mpr ⟨mm_pz39, (List.forall_mem_cons.mpr ⟨mm_pz40, (List.forall_mem_cons.mpr ⟨mm_pz41, (List.forall_mem_cons.mpr ⟨mm_pz42, (List.forall_mem_cons.mpr ⟨mm_pz43, (List.forall_mem_cons.mpr ⟨mm_pz44, (fun _ h => absurd h List.not_mem_nil)⟩)⟩)⟩)⟩)⟩)⟩)⟩)⟩)⟩)⟩)⟩)⟩)⟩)⟩)⟩)⟩)⟩)⟩)⟩)⟩)⟩)⟩)⟩)⟩)⟩)⟩)⟩)⟩)⟩)⟩)⟩)⟩)⟩)⟩)⟩)⟩)⟩)⟩)⟩)⟩)⟩)⟩)⟩)⟩)⟩)
def mm_piP (z : Nat × Nat × Nat) : Prop := (z.2.2 = 1 → Cond.methodLink (mm_xn z.1) z.2.1 Lib.Math.min.name ∈ mm_TW) ∧ (z.2.2 = 2 → Cond.methodLink (mm_xn z.1) z.2.1 Lib.Math.max.name ∈ mm_TW) ∧ (z.2.2 = 3 → Cond.methodLink (mm_xn z.1) z.2.1 Lib.Math.abs.name ∈ mm_TW) ∧ (z.2.2 = 4 → Cond.methodLink (mm_xn z.1) z.2.1 arraycopyName ∈ mm_TW) ∧ (z.2.2 = 9 → Cond.fieldLink (mm_xn z.1) z.2.1 "HiccupTown$Word" "key" "J" ∈ mm_TW) ∧ (z.2.2 = 11 → z.1 = 11 ∧ Cond.methodLink (mm_xn z.1) z.2.1 ⟨"java/lang/String", "length", "()I"⟩ ∈ mm_TW) ∧ (z.2.2 = 12 → z.1 = 11 ∧ Cond.methodLink (mm_xn z.1) z.2.1 ⟨"java/lang/String", "charAt", "(I)C"⟩ ∈ mm_TW)
set_option maxRecDepth 100000 in
theorem mm_pi0 : mm_piP (1, 69, 2) := ⟨fun h => absurd h (by decide), fun _ => (mm_tw4 95 rfl rfl), fun h => absurd h (by decide), fun h => absurd h (by decide), fun h => absurd h (by decide), fun h => absurd h (by decide), fun h => absurd h (by decide)⟩
set_option maxRecDepth 100000 in
theorem mm_pi1 : mm_piP (2, 56, 4) := ⟨fun h => absurd h (by decide), fun h => absurd h (by decide), fun h => absurd h (by decide), fun _ => (mm_tw3 170 rfl rfl), fun h => absurd h (by decide), fun h => absurd h (by decide), fun h => absurd h (by decide)⟩
set_option maxRecDepth 100000 in
theorem mm_pi2 : mm_piP (2, 119, 1) := ⟨fun _ => (mm_tw3 179 rfl rfl), fun h => absurd h (by decide), fun h => absurd h (by decide), fun h => absurd h (by decide), fun h => absurd h (by decide), fun h => absurd h (by decide), fun h => absurd h (by decide)⟩
set_option maxRecDepth 100000 in
theorem mm_pi3 : mm_piP (2, 166, 3) := ⟨fun h => absurd h (by decide), fun h => absurd h (by decide), fun _ => (mm_tw4 170 rfl rfl), fun h => absurd h (by decide), fun h => absurd h (by decide), fun h => absurd h (by decide), fun h => absurd h (by decide)⟩
set_option maxRecDepth 100000 in
theorem mm_pi4 : mm_piP (3, 29, 1) := ⟨fun _ => (mm_tw4 2 rfl rfl), fun h => absurd h (by decide), fun h => absurd h (by decide), fun h => absurd h (by decide), fun h => absurd h (by decide), fun h => absurd h (by decide), fun h => absurd h (by decide)⟩
set_option maxRecDepth 100000 in
theorem mm_pi5 : mm_piP (4, 47, 4) := ⟨fun h => absurd h (by decide), fun h => absurd h (by decide), fun h => absurd h (by decide), fun _ => (mm_tw3 95 rfl rfl), fun h => absurd h (by decide), fun h => absurd h (by decide), fun h => absurd h (by decide)⟩
set_option maxRecDepth 100000 in
theorem mm_pi6 : mm_piP (10, 135, 9) := ⟨fun h => absurd h (by decide), fun h => absurd h (by decide), fun h => absurd h (by decide), fun h => absurd h (by decide), fun _ => (mm_tw9 31 rfl rfl), fun h => absurd h (by decide), fun h => absurd h (by decide)⟩
set_option maxRecDepth 100000 in
theorem mm_pi7 : mm_piP (11, 220, 1) := ⟨fun _ => (mm_tw4 29 rfl rfl), fun h => absurd h (by decide), fun h => absurd h (by decide), fun h => absurd h (by decide), fun h => absurd h (by decide), fun h => absurd h (by decide), fun h => absurd h (by decide)⟩
set_option maxRecDepth 100000 in
theorem mm_pi8 : mm_piP (11, 368, 11) := ⟨fun h => absurd h (by decide), fun h => absurd h (by decide), fun h => absurd h (by decide), fun h => absurd h (by decide), fun h => absurd h (by decide), fun _ => ⟨rfl, (mm_tw4 199 rfl rfl)⟩, fun h => absurd h (by decide)⟩
set_option maxRecDepth 100000 in
theorem mm_pi9 : mm_piP (11, 372, 12) := ⟨fun h => absurd h (by decide), fun h => absurd h (by decide), fun h => absurd h (by decide), fun h => absurd h (by decide), fun h => absurd h (by decide), fun h => absurd h (by decide), fun _ => ⟨rfl, (mm_tw4 209 rfl rfl)⟩⟩
set_option maxRecDepth 100000 in
theorem mm_pi_ok : ∀ z ∈ mm_pi, mm_piP z := (List.forall_mem_cons.mpr ⟨mm_pi0, (List.forall_mem_cons.mpr ⟨mm_pi1, (List.forall_mem_cons.mpr ⟨mm_pi2, (List.forall_mem_cons.mpr ⟨mm_pi3, (List.forall_mem_cons.mpr ⟨mm_pi4, (List.forall_mem_cons.mpr ⟨mm_pi5, (List.forall_mem_cons.mpr ⟨mm_pi6, (List.forall_mem_cons.mpr ⟨mm_pi7, (List.forall_mem_cons.mpr ⟨mm_pi8, (List.forall_mem_cons.mpr ⟨mm_pi9, (fun _ h => absurd h List.not_mem_nil)⟩)⟩)⟩)⟩)⟩)⟩)⟩)⟩)⟩)⟩)
set_option maxRecDepth 100000 in
theorem mm_mmin : Cond.static Lib.Math.min.name ∈ mm_TW ∧ Cond.initialized "java/lang/Math" ∈ mm_TW ∧ Cond.code Lib.Math.min.name Lib.Math.min.code 2 (some .int) ∈ mm_TW := ⟨(mm_tw3 180 rfl rfl), (mm_tw1 20 rfl rfl), (mm_tw3 181 rfl rfl)⟩
set_option maxRecDepth 100000 in
theorem mm_mmax : Cond.static Lib.Math.max.name ∈ mm_TW ∧ Cond.initialized "java/lang/Math" ∈ mm_TW ∧ Cond.code Lib.Math.max.name Lib.Math.max.code 2 (some .int) ∈ mm_TW := ⟨(mm_tw4 96 rfl rfl), (mm_tw1 20 rfl rfl), (mm_tw4 97 rfl rfl)⟩
set_option maxRecDepth 100000 in
theorem mm_mabs : Cond.static Lib.Math.abs.name ∈ mm_TW ∧ Cond.initialized "java/lang/Math" ∈ mm_TW ∧ Cond.code Lib.Math.abs.name Lib.Math.abs.code 1 (some .int) ∈ mm_TW := ⟨(mm_tw4 171 rfl rfl), (mm_tw1 20 rfl rfl), (mm_tw4 172 rfl rfl)⟩
set_option maxRecDepth 100000 in
theorem mm_mcp : Cond.native arraycopyName ∈ mm_TW ∧ Cond.static arraycopyName ∈ mm_TW ∧ Cond.initialized "java/lang/System" ∈ mm_TW := ⟨(mm_tw3 97 rfl rfl), (mm_tw3 96 rfl rfl), (mm_tw1 15 rfl rfl)⟩
