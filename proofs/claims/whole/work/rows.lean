section
-- ===== PART A: goes FIRST, ahead of the names: the tables' words, and 'selects' of the private methods out of them =====
/-- a private method of a class that the tables say can be made, by its rows of tables_1 -/
def lw_okq (q : MethodName × Nat) : Prop := (q.1.cls ≠ "java/lang/invoke/MethodHandle" ∧ q.1.cls ≠ "java/lang/invoke/VarHandle") ∧ Cond.instantiable q.1.cls q.2 ∈ tables_1 ∧ Cond.privateMethod q.1 ∈ tables_1 ∧ Cond.instanceMethod q.1 ∈ tables_1
theorem lw_p0 : lw_okq (⟨"HiccupTown$Tape", "skipBlanks", "()V"⟩, 10) := ⟨⟨by decide +kernel, by decide +kernel⟩, List.mem_of_getElem? (i := 34) (by decide +kernel), List.mem_of_getElem? (i := 436) (by decide +kernel), List.mem_of_getElem? (i := 437) (by decide +kernel)⟩
theorem lw_p1 : lw_okq (⟨"HiccupTown$Tape", "readToken", "()V"⟩, 10) := ⟨⟨by decide +kernel, by decide +kernel⟩, List.mem_of_getElem? (i := 34) (by decide +kernel), List.mem_of_getElem? (i := 442) (by decide +kernel), List.mem_of_getElem? (i := 443) (by decide +kernel)⟩
theorem lw_p2 : lw_okq (⟨"HiccupTown$Tape", "joinLetters", "()V"⟩, 10) := ⟨⟨by decide +kernel, by decide +kernel⟩, List.mem_of_getElem? (i := 34) (by decide +kernel), List.mem_of_getElem? (i := 450) (by decide +kernel), List.mem_of_getElem? (i := 451) (by decide +kernel)⟩
theorem lw_p3 : lw_okq (⟨"HiccupTown$Tape", "joinDigits", "()V"⟩, 10) := ⟨⟨by decide +kernel, by decide +kernel⟩, List.mem_of_getElem? (i := 34) (by decide +kernel), List.mem_of_getElem? (i := 456) (by decide +kernel), List.mem_of_getElem? (i := 457) (by decide +kernel)⟩
theorem lw_p4 : lw_okq (⟨"HiccupTown$TownReader", "readLine", "(LHiccupTown$Tape;)Z"⟩, 3) := ⟨⟨by decide +kernel, by decide +kernel⟩, List.mem_of_getElem? (i := 84) (by decide +kernel), List.mem_of_getElem? (i := 476) (by decide +kernel), List.mem_of_getElem? (i := 477) (by decide +kernel)⟩
theorem lw_p5 : lw_okq (⟨"HiccupTown$TownReader", "readRing", "(LHiccupTown$Tape;)Z"⟩, 3) := ⟨⟨by decide +kernel, by decide +kernel⟩, List.mem_of_getElem? (i := 84) (by decide +kernel), List.mem_of_getElem? (i := 482) (by decide +kernel), List.mem_of_getElem? (i := 483) (by decide +kernel)⟩
theorem lw_p6 : lw_okq (⟨"HiccupTown$TownReader", "readGap", "(LHiccupTown$Tape;)Z"⟩, 3) := ⟨⟨by decide +kernel, by decide +kernel⟩, List.mem_of_getElem? (i := 84) (by decide +kernel), List.mem_of_getElem? (i := 502) (by decide +kernel), List.mem_of_getElem? (i := 503) (by decide +kernel)⟩
theorem lw_p7 : lw_okq (⟨"HiccupTown$TownReader", "readCousin", "(LHiccupTown$Tape;)Z"⟩, 3) := ⟨⟨by decide +kernel, by decide +kernel⟩, List.mem_of_getElem? (i := 84) (by decide +kernel), List.mem_of_getElem? (i := 508) (by decide +kernel), List.mem_of_getElem? (i := 509) (by decide +kernel)⟩
theorem lw_p8 : lw_okq (⟨"HiccupTown$TownReader", "readNewOne", "(LHiccupTown$Tape;I)I"⟩, 3) := ⟨⟨by decide +kernel, by decide +kernel⟩, List.mem_of_getElem? (i := 84) (by decide +kernel), List.mem_of_getElem? (i := 512) (by decide +kernel), List.mem_of_getElem? (i := 513) (by decide +kernel)⟩
theorem lw_p9 : lw_okq (⟨"HiccupTown$TownReader", "readPerson", "(LHiccupTown$Tape;)Z"⟩, 3) := ⟨⟨by decide +kernel, by decide +kernel⟩, List.mem_of_getElem? (i := 84) (by decide +kernel), List.mem_of_getElem? (i := 537) (by decide +kernel), List.mem_of_getElem? (i := 538) (by decide +kernel)⟩
theorem lw_p10 : lw_okq (⟨"HiccupTown$TownReader", "readWork", "(LHiccupTown$Tape;)Z"⟩, 3) := ⟨⟨by decide +kernel, by decide +kernel⟩, List.mem_of_getElem? (i := 84) (by decide +kernel), List.mem_of_getElem? (i := 545) (by decide +kernel), List.mem_of_getElem? (i := 546) (by decide +kernel)⟩
theorem lw_p11 : lw_okq (⟨"HiccupTown$TownReader", "readAfter", "(LHiccupTown$Tape;)Z"⟩, 3) := ⟨⟨by decide +kernel, by decide +kernel⟩, List.mem_of_getElem? (i := 84) (by decide +kernel), List.mem_of_getElem? (i := 551) (by decide +kernel), List.mem_of_getElem? (i := 552) (by decide +kernel)⟩
theorem lw_p12 : lw_okq (⟨"HiccupTown$TownReader", "readThing", "(LHiccupTown$Tape;)Z"⟩, 3) := ⟨⟨by decide +kernel, by decide +kernel⟩, List.mem_of_getElem? (i := 84) (by decide +kernel), List.mem_of_getElem? (i := 566) (by decide +kernel), List.mem_of_getElem? (i := 567) (by decide +kernel)⟩
theorem lw_p13 : lw_okq (⟨"HiccupTown", "endText", "()Z"⟩, 15) := ⟨⟨by decide +kernel, by decide +kernel⟩, List.mem_of_getElem? (i := 26) (by decide +kernel), List.mem_of_getElem? (i := 576) (by decide +kernel), List.mem_of_getElem? (i := 577) (by decide +kernel)⟩
theorem lw_p14 : lw_okq (⟨"HiccupTown", "actKept", "(II)I"⟩, 15) := ⟨⟨by decide +kernel, by decide +kernel⟩, List.mem_of_getElem? (i := 26) (by decide +kernel), List.mem_of_getElem? (i := 655) (by decide +kernel), List.mem_of_getElem? (i := 656) (by decide +kernel)⟩
theorem lw_p15 : lw_okq (⟨"HiccupTown$Moment", "takeFright", "(LHiccupTown$Plan;)I"⟩, 9) := ⟨⟨by decide +kernel, by decide +kernel⟩, List.mem_of_getElem? (i := 180) (by decide +kernel), List.mem_of_getElem? (i := 668) (by decide +kernel), List.mem_of_getElem? (i := 669) (by decide +kernel)⟩
def lw_privs_1 : List (MethodName × Nat) := [(⟨"HiccupTown$Tape", "skipBlanks", "()V"⟩, 10), (⟨"HiccupTown$Tape", "readToken", "()V"⟩, 10), (⟨"HiccupTown$Tape", "joinLetters", "()V"⟩, 10), (⟨"HiccupTown$Tape", "joinDigits", "()V"⟩, 10), (⟨"HiccupTown$TownReader", "readLine", "(LHiccupTown$Tape;)Z"⟩, 3), (⟨"HiccupTown$TownReader", "readRing", "(LHiccupTown$Tape;)Z"⟩, 3), (⟨"HiccupTown$TownReader", "readGap", "(LHiccupTown$Tape;)Z"⟩, 3), (⟨"HiccupTown$TownReader", "readCousin", "(LHiccupTown$Tape;)Z"⟩, 3), (⟨"HiccupTown$TownReader", "readNewOne", "(LHiccupTown$Tape;I)I"⟩, 3), (⟨"HiccupTown$TownReader", "readPerson", "(LHiccupTown$Tape;)Z"⟩, 3), (⟨"HiccupTown$TownReader", "readWork", "(LHiccupTown$Tape;)Z"⟩, 3), (⟨"HiccupTown$TownReader", "readAfter", "(LHiccupTown$Tape;)Z"⟩, 3), (⟨"HiccupTown$TownReader", "readThing", "(LHiccupTown$Tape;)Z"⟩, 3), (⟨"HiccupTown", "endText", "()Z"⟩, 15), (⟨"HiccupTown", "actKept", "(II)I"⟩, 15), (⟨"HiccupTown$Moment", "takeFright", "(LHiccupTown$Plan;)I"⟩, 9)]
theorem lw_r1 : ∀ q ∈ lw_privs_1, lw_okq q := List.forall_mem_cons.mpr ⟨lw_p0, List.forall_mem_cons.mpr ⟨lw_p1, List.forall_mem_cons.mpr ⟨lw_p2, List.forall_mem_cons.mpr ⟨lw_p3, List.forall_mem_cons.mpr ⟨lw_p4, List.forall_mem_cons.mpr ⟨lw_p5, List.forall_mem_cons.mpr ⟨lw_p6, List.forall_mem_cons.mpr ⟨lw_p7, List.forall_mem_cons.mpr ⟨lw_p8, List.forall_mem_cons.mpr ⟨lw_p9, List.forall_mem_cons.mpr ⟨lw_p10, List.forall_mem_cons.mpr ⟨lw_p11, List.forall_mem_cons.mpr ⟨lw_p12, List.forall_mem_cons.mpr ⟨lw_p13, List.forall_mem_cons.mpr ⟨lw_p14, List.forall_mem_cons.mpr ⟨lw_p15, fun _ h => absurd h List.not_mem_nil⟩⟩⟩⟩⟩⟩⟩⟩⟩⟩⟩⟩⟩⟩⟩⟩
theorem lw_p16 : lw_okq (⟨"HiccupTown$Moment", "takeCure", "()I"⟩, 9) := ⟨⟨by decide +kernel, by decide +kernel⟩, List.mem_of_getElem? (i := 180) (by decide +kernel), List.mem_of_getElem? (i := 675) (by decide +kernel), List.mem_of_getElem? (i := 676) (by decide +kernel)⟩
theorem lw_p17 : lw_okq (⟨"HiccupTown$Moment", "takeFly", "()I"⟩, 9) := ⟨⟨by decide +kernel, by decide +kernel⟩, List.mem_of_getElem? (i := 180) (by decide +kernel), List.mem_of_getElem? (i := 679) (by decide +kernel), List.mem_of_getElem? (i := 680) (by decide +kernel)⟩
theorem lw_p18 : lw_okq (⟨"HiccupTown$Moment", "changeBeater", "(LHiccupTown$Plan;I)I"⟩, 9) := ⟨⟨by decide +kernel, by decide +kernel⟩, List.mem_of_getElem? (i := 180) (by decide +kernel), List.mem_of_getElem? (i := 683) (by decide +kernel), List.mem_of_getElem? (i := 684) (by decide +kernel)⟩
theorem lw_p19 : lw_okq (⟨"HiccupTown$Moment", "goOut", "(I)I"⟩, 9) := ⟨⟨by decide +kernel, by decide +kernel⟩, List.mem_of_getElem? (i := 180) (by decide +kernel), List.mem_of_getElem? (i := 687) (by decide +kernel), List.mem_of_getElem? (i := 688) (by decide +kernel)⟩
theorem lw_p20 : lw_okq (⟨"HiccupTown$Moment", "comeIn", "(LHiccupTown$Plan;I)I"⟩, 9) := ⟨⟨by decide +kernel, by decide +kernel⟩, List.mem_of_getElem? (i := 180) (by decide +kernel), List.mem_of_getElem? (i := 695) (by decide +kernel), List.mem_of_getElem? (i := 696) (by decide +kernel)⟩
theorem lw_p21 : lw_okq (⟨"HiccupTown$Moment", "somebodyWalksAt", "(LHiccupTown$Plan;I)Z"⟩, 9) := ⟨⟨by decide +kernel, by decide +kernel⟩, List.mem_of_getElem? (i := 180) (by decide +kernel), List.mem_of_getElem? (i := 699) (by decide +kernel), List.mem_of_getElem? (i := 700) (by decide +kernel)⟩
theorem lw_p22 : lw_okq (⟨"HiccupTown$Moment", "passAll", "(LHiccupTown$Plan;I)I"⟩, 9) := ⟨⟨by decide +kernel, by decide +kernel⟩, List.mem_of_getElem? (i := 180) (by decide +kernel), List.mem_of_getElem? (i := 703) (by decide +kernel), List.mem_of_getElem? (i := 704) (by decide +kernel)⟩
theorem lw_p23 : lw_okq (⟨"HiccupTown$Moment", "passSecond", "(LHiccupTown$Plan;)V"⟩, 9) := ⟨⟨by decide +kernel, by decide +kernel⟩, List.mem_of_getElem? (i := 180) (by decide +kernel), List.mem_of_getElem? (i := 711) (by decide +kernel), List.mem_of_getElem? (i := 712) (by decide +kernel)⟩
theorem lw_p24 : lw_okq (⟨"HiccupTown$Moment", "beat", "(LHiccupTown$Plan;)V"⟩, 9) := ⟨⟨by decide +kernel, by decide +kernel⟩, List.mem_of_getElem? (i := 180) (by decide +kernel), List.mem_of_getElem? (i := 715) (by decide +kernel), List.mem_of_getElem? (i := 716) (by decide +kernel)⟩
theorem lw_p25 : lw_okq (⟨"HiccupTown", "keepBefore", "(Z)V"⟩, 15) := ⟨⟨by decide +kernel, by decide +kernel⟩, List.mem_of_getElem? (i := 26) (by decide +kernel), List.mem_of_getElem? (i := 726) (by decide +kernel), List.mem_of_getElem? (i := 727) (by decide +kernel)⟩
theorem lw_p26 : lw_okq (⟨"HiccupTown$Clues", "keepBounds", "()V"⟩, 4) := ⟨⟨by decide +kernel, by decide +kernel⟩, List.mem_of_getElem? (i := 289) (by decide +kernel), List.mem_of_getElem? (i := 813) (by decide +kernel), List.mem_of_getElem? (i := 814) (by decide +kernel)⟩
theorem lw_p27 : lw_okq (⟨"HiccupTown$Clues", "thingToLookAt", "(LHiccupTown$Plan;)I"⟩, 4) := ⟨⟨by decide +kernel, by decide +kernel⟩, List.mem_of_getElem? (i := 289) (by decide +kernel), List.mem_of_getElem? (i := 817) (by decide +kernel), List.mem_of_getElem? (i := 818) (by decide +kernel)⟩
theorem lw_p28 : lw_okq (⟨"HiccupTown$Clues", "mostLeftBy", "(I)I"⟩, 4) := ⟨⟨by decide +kernel, by decide +kernel⟩, List.mem_of_getElem? (i := 289) (by decide +kernel), List.mem_of_getElem? (i := 821) (by decide +kernel), List.mem_of_getElem? (i := 822) (by decide +kernel)⟩
theorem lw_p29 : lw_okq (⟨"HiccupTown$Rows", "waysWithOneMore", "(LHiccupTown$Plan;II)I"⟩, 3) := ⟨⟨by decide +kernel, by decide +kernel⟩, List.mem_of_getElem? (i := 312) (by decide +kernel), List.mem_of_getElem? (i := 848) (by decide +kernel), List.mem_of_getElem? (i := 849) (by decide +kernel)⟩
theorem lw_p30 : lw_okq (⟨"HiccupTown$Rows", "keepFirst", "(LHiccupTown$Plan;II)V"⟩, 3) := ⟨⟨by decide +kernel, by decide +kernel⟩, List.mem_of_getElem? (i := 312) (by decide +kernel), List.mem_of_getElem? (i := 856) (by decide +kernel), List.mem_of_getElem? (i := 857) (by decide +kernel)⟩
theorem lw_p31 : lw_okq (⟨"HiccupTown$Rows", "leastBeater", "(LHiccupTown$Plan;II)I"⟩, 3) := ⟨⟨by decide +kernel, by decide +kernel⟩, List.mem_of_getElem? (i := 312) (by decide +kernel), List.mem_of_getElem? (i := 860) (by decide +kernel), List.mem_of_getElem? (i := 861) (by decide +kernel)⟩
def lw_privs_2 : List (MethodName × Nat) := [(⟨"HiccupTown$Moment", "takeCure", "()I"⟩, 9), (⟨"HiccupTown$Moment", "takeFly", "()I"⟩, 9), (⟨"HiccupTown$Moment", "changeBeater", "(LHiccupTown$Plan;I)I"⟩, 9), (⟨"HiccupTown$Moment", "goOut", "(I)I"⟩, 9), (⟨"HiccupTown$Moment", "comeIn", "(LHiccupTown$Plan;I)I"⟩, 9), (⟨"HiccupTown$Moment", "somebodyWalksAt", "(LHiccupTown$Plan;I)Z"⟩, 9), (⟨"HiccupTown$Moment", "passAll", "(LHiccupTown$Plan;I)I"⟩, 9), (⟨"HiccupTown$Moment", "passSecond", "(LHiccupTown$Plan;)V"⟩, 9), (⟨"HiccupTown$Moment", "beat", "(LHiccupTown$Plan;)V"⟩, 9), (⟨"HiccupTown", "keepBefore", "(Z)V"⟩, 15), (⟨"HiccupTown$Clues", "keepBounds", "()V"⟩, 4), (⟨"HiccupTown$Clues", "thingToLookAt", "(LHiccupTown$Plan;)I"⟩, 4), (⟨"HiccupTown$Clues", "mostLeftBy", "(I)I"⟩, 4), (⟨"HiccupTown$Rows", "waysWithOneMore", "(LHiccupTown$Plan;II)I"⟩, 3), (⟨"HiccupTown$Rows", "keepFirst", "(LHiccupTown$Plan;II)V"⟩, 3), (⟨"HiccupTown$Rows", "leastBeater", "(LHiccupTown$Plan;II)I"⟩, 3)]
theorem lw_r2 : ∀ q ∈ lw_privs_2, lw_okq q := List.forall_mem_cons.mpr ⟨lw_p16, List.forall_mem_cons.mpr ⟨lw_p17, List.forall_mem_cons.mpr ⟨lw_p18, List.forall_mem_cons.mpr ⟨lw_p19, List.forall_mem_cons.mpr ⟨lw_p20, List.forall_mem_cons.mpr ⟨lw_p21, List.forall_mem_cons.mpr ⟨lw_p22, List.forall_mem_cons.mpr ⟨lw_p23, List.forall_mem_cons.mpr ⟨lw_p24, List.forall_mem_cons.mpr ⟨lw_p25, List.forall_mem_cons.mpr ⟨lw_p26, List.forall_mem_cons.mpr ⟨lw_p27, List.forall_mem_cons.mpr ⟨lw_p28, List.forall_mem_cons.mpr ⟨lw_p29, List.forall_mem_cons.mpr ⟨lw_p30, List.forall_mem_cons.mpr ⟨lw_p31, fun _ h => absurd h List.not_mem_nil⟩⟩⟩⟩⟩⟩⟩⟩⟩⟩⟩⟩⟩⟩⟩⟩
theorem lw_p32 : lw_okq (⟨"HiccupTown$Moment", "votesBehind", "(LHiccupTown$Plan;II)I"⟩, 9) := ⟨⟨by decide +kernel, by decide +kernel⟩, List.mem_of_getElem? (i := 180) (by decide +kernel), List.mem_of_getElem? (i := 891) (by decide +kernel), List.mem_of_getElem? (i := 892) (by decide +kernel)⟩
theorem lw_p33 : lw_okq (⟨"HiccupTown$Moment", "willBeNear", "(LHiccupTown$Plan;II)Z"⟩, 9) := ⟨⟨by decide +kernel, by decide +kernel⟩, List.mem_of_getElem? (i := 180) (by decide +kernel), List.mem_of_getElem? (i := 895) (by decide +kernel), List.mem_of_getElem? (i := 896) (by decide +kernel)⟩
theorem lw_p34 : lw_okq (⟨"HiccupTown", "tagName", "(J)V"⟩, 15) := ⟨⟨by decide +kernel, by decide +kernel⟩, List.mem_of_getElem? (i := 26) (by decide +kernel), List.mem_of_getElem? (i := 916) (by decide +kernel), List.mem_of_getElem? (i := 917) (by decide +kernel)⟩
theorem lw_p35 : lw_okq (⟨"HiccupTown", "tagByte", "(I)V"⟩, 15) := ⟨⟨by decide +kernel, by decide +kernel⟩, List.mem_of_getElem? (i := 26) (by decide +kernel), List.mem_of_getElem? (i := 920) (by decide +kernel), List.mem_of_getElem? (i := 921) (by decide +kernel)⟩
theorem lw_p36 : lw_okq (⟨"HiccupTown", "tagText", "(Ljava/lang/String;)V"⟩, 15) := ⟨⟨by decide +kernel, by decide +kernel⟩, List.mem_of_getElem? (i := 26) (by decide +kernel), List.mem_of_getElem? (i := 925) (by decide +kernel), List.mem_of_getElem? (i := 926) (by decide +kernel)⟩
theorem lw_p37 : lw_okq (⟨"HiccupTown", "tagNumber", "(I)V"⟩, 15) := ⟨⟨by decide +kernel, by decide +kernel⟩, List.mem_of_getElem? (i := 26) (by decide +kernel), List.mem_of_getElem? (i := 977) (by decide +kernel), List.mem_of_getElem? (i := 978) (by decide +kernel)⟩
theorem lw_p38 : lw_okq (⟨"HiccupTown$Moment", "passDrawnSecond", "(LHiccupTown$Plan;I)I"⟩, 9) := ⟨⟨by decide +kernel, by decide +kernel⟩, List.mem_of_getElem? (i := 180) (by decide +kernel), List.mem_of_getElem? (i := 996) (by decide +kernel), List.mem_of_getElem? (i := 997) (by decide +kernel)⟩
theorem lw_p39 : lw_okq (⟨"HiccupTown$Moment", "leaveOrJoin", "(LHiccupTown$Plan;I)V"⟩, 9) := ⟨⟨by decide +kernel, by decide +kernel⟩, List.mem_of_getElem? (i := 180) (by decide +kernel), List.mem_of_getElem? (i := 1008) (by decide +kernel), List.mem_of_getElem? (i := 1009) (by decide +kernel)⟩
theorem lw_p40 : lw_okq (⟨"HiccupTown$Book", "readLine", "(LHiccupTown$Tape;LHiccupTown$Plan;)Z"⟩, 8) := ⟨⟨by decide +kernel, by decide +kernel⟩, List.mem_of_getElem? (i := 332) (by decide +kernel), List.mem_of_getElem? (i := 1025) (by decide +kernel), List.mem_of_getElem? (i := 1026) (by decide +kernel)⟩
theorem lw_p41 : lw_okq (⟨"HiccupTown$Book", "readRelieve", "(LHiccupTown$Tape;LHiccupTown$Plan;)Z"⟩, 8) := ⟨⟨by decide +kernel, by decide +kernel⟩, List.mem_of_getElem? (i := 332) (by decide +kernel), List.mem_of_getElem? (i := 1046) (by decide +kernel), List.mem_of_getElem? (i := 1047) (by decide +kernel)⟩
theorem lw_p42 : lw_okq (⟨"HiccupTown$Book", "add", "(II)Z"⟩, 8) := ⟨⟨by decide +kernel, by decide +kernel⟩, List.mem_of_getElem? (i := 332) (by decide +kernel), List.mem_of_getElem? (i := 1052) (by decide +kernel), List.mem_of_getElem? (i := 1053) (by decide +kernel)⟩
theorem lw_p43 : lw_okq (⟨"HiccupTown$Book", "readWalk", "(LHiccupTown$Tape;I)Z"⟩, 8) := ⟨⟨by decide +kernel, by decide +kernel⟩, List.mem_of_getElem? (i := 332) (by decide +kernel), List.mem_of_getElem? (i := 1058) (by decide +kernel), List.mem_of_getElem? (i := 1059) (by decide +kernel)⟩
theorem lw_p44 : lw_okq (⟨"HiccupTown$Sentence", "readCond", "(LHiccupTown$Tape;LHiccupTown$Plan;I)Z"⟩, 5) := ⟨⟨by decide +kernel, by decide +kernel⟩, List.mem_of_getElem? (i := 226) (by decide +kernel), List.mem_of_getElem? (i := 1094) (by decide +kernel), List.mem_of_getElem? (i := 1095) (by decide +kernel)⟩
theorem lw_p45 : lw_okq (⟨"HiccupTown$Sentence", "readAll", "(LHiccupTown$Tape;LHiccupTown$Plan;I)Z"⟩, 5) := ⟨⟨by decide +kernel, by decide +kernel⟩, List.mem_of_getElem? (i := 226) (by decide +kernel), List.mem_of_getElem? (i := 1098) (by decide +kernel), List.mem_of_getElem? (i := 1099) (by decide +kernel)⟩
theorem lw_p46 : lw_okq (⟨"HiccupTown$Sentence", "readOne", "(LHiccupTown$Tape;LHiccupTown$Plan;I)Z"⟩, 5) := ⟨⟨by decide +kernel, by decide +kernel⟩, List.mem_of_getElem? (i := 226) (by decide +kernel), List.mem_of_getElem? (i := 1102) (by decide +kernel), List.mem_of_getElem? (i := 1103) (by decide +kernel)⟩
theorem lw_p47 : lw_okq (⟨"HiccupTown$Sentence", "add", "(LHiccupTown$Word;LHiccupTown$Word;I)Z"⟩, 5) := ⟨⟨by decide +kernel, by decide +kernel⟩, List.mem_of_getElem? (i := 226) (by decide +kernel), List.mem_of_getElem? (i := 1130) (by decide +kernel), List.mem_of_getElem? (i := 1131) (by decide +kernel)⟩
def lw_privs_3 : List (MethodName × Nat) := [(⟨"HiccupTown$Moment", "votesBehind", "(LHiccupTown$Plan;II)I"⟩, 9), (⟨"HiccupTown$Moment", "willBeNear", "(LHiccupTown$Plan;II)Z"⟩, 9), (⟨"HiccupTown", "tagName", "(J)V"⟩, 15), (⟨"HiccupTown", "tagByte", "(I)V"⟩, 15), (⟨"HiccupTown", "tagText", "(Ljava/lang/String;)V"⟩, 15), (⟨"HiccupTown", "tagNumber", "(I)V"⟩, 15), (⟨"HiccupTown$Moment", "passDrawnSecond", "(LHiccupTown$Plan;I)I"⟩, 9), (⟨"HiccupTown$Moment", "leaveOrJoin", "(LHiccupTown$Plan;I)V"⟩, 9), (⟨"HiccupTown$Book", "readLine", "(LHiccupTown$Tape;LHiccupTown$Plan;)Z"⟩, 8), (⟨"HiccupTown$Book", "readRelieve", "(LHiccupTown$Tape;LHiccupTown$Plan;)Z"⟩, 8), (⟨"HiccupTown$Book", "add", "(II)Z"⟩, 8), (⟨"HiccupTown$Book", "readWalk", "(LHiccupTown$Tape;I)Z"⟩, 8), (⟨"HiccupTown$Sentence", "readCond", "(LHiccupTown$Tape;LHiccupTown$Plan;I)Z"⟩, 5), (⟨"HiccupTown$Sentence", "readAll", "(LHiccupTown$Tape;LHiccupTown$Plan;I)Z"⟩, 5), (⟨"HiccupTown$Sentence", "readOne", "(LHiccupTown$Tape;LHiccupTown$Plan;I)Z"⟩, 5), (⟨"HiccupTown$Sentence", "add", "(LHiccupTown$Word;LHiccupTown$Word;I)Z"⟩, 5)]
theorem lw_r3 : ∀ q ∈ lw_privs_3, lw_okq q := List.forall_mem_cons.mpr ⟨lw_p32, List.forall_mem_cons.mpr ⟨lw_p33, List.forall_mem_cons.mpr ⟨lw_p34, List.forall_mem_cons.mpr ⟨lw_p35, List.forall_mem_cons.mpr ⟨lw_p36, List.forall_mem_cons.mpr ⟨lw_p37, List.forall_mem_cons.mpr ⟨lw_p38, List.forall_mem_cons.mpr ⟨lw_p39, List.forall_mem_cons.mpr ⟨lw_p40, List.forall_mem_cons.mpr ⟨lw_p41, List.forall_mem_cons.mpr ⟨lw_p42, List.forall_mem_cons.mpr ⟨lw_p43, List.forall_mem_cons.mpr ⟨lw_p44, List.forall_mem_cons.mpr ⟨lw_p45, List.forall_mem_cons.mpr ⟨lw_p46, List.forall_mem_cons.mpr ⟨lw_p47, fun _ h => absurd h List.not_mem_nil⟩⟩⟩⟩⟩⟩⟩⟩⟩⟩⟩⟩⟩⟩⟩⟩
theorem lw_p48 : lw_okq (⟨"HiccupTown$Sentence", "readCompared", "(LHiccupTown$Tape;LHiccupTown$Word;)Z"⟩, 5) := ⟨⟨by decide +kernel, by decide +kernel⟩, List.mem_of_getElem? (i := 226) (by decide +kernel), List.mem_of_getElem? (i := 1138) (by decide +kernel), List.mem_of_getElem? (i := 1139) (by decide +kernel)⟩
theorem lw_p49 : lw_okq (⟨"HiccupTown$Sentence", "holdsAlone", "(LHiccupTown$Plan;LHiccupTown$Moment;II)Z"⟩, 5) := ⟨⟨by decide +kernel, by decide +kernel⟩, List.mem_of_getElem? (i := 226) (by decide +kernel), List.mem_of_getElem? (i := 1170) (by decide +kernel), List.mem_of_getElem? (i := 1171) (by decide +kernel)⟩
theorem lw_p50 : lw_okq (⟨"java/lang/Throwable", "fillInStackTrace", "(I)Ljava/lang/Throwable;"⟩, 6) := ⟨⟨by decide +kernel, by decide +kernel⟩, List.mem_of_getElem? (i := 1248) (by decide +kernel), List.mem_of_getElem? (i := 1246) (by decide +kernel), List.mem_of_getElem? (i := 1247) (by decide +kernel)⟩
theorem lw_p51 : lw_okq (⟨"HiccupTownModel", "come", "(I)V"⟩, 47) := ⟨⟨by decide +kernel, by decide +kernel⟩, List.mem_of_getElem? (i := 1289) (by decide +kernel), List.mem_of_getElem? (i := 1287) (by decide +kernel), List.mem_of_getElem? (i := 1288) (by decide +kernel)⟩
theorem lw_p52 : lw_okq (⟨"HiccupTownModel", "startRead", "()V"⟩, 47) := ⟨⟨by decide +kernel, by decide +kernel⟩, List.mem_of_getElem? (i := 1289) (by decide +kernel), List.mem_of_getElem? (i := 1301) (by decide +kernel), List.mem_of_getElem? (i := 1302) (by decide +kernel)⟩
theorem lw_p53 : lw_okq (⟨"HiccupTownModel", "startSo", "()V"⟩, 47) := ⟨⟨by decide +kernel, by decide +kernel⟩, List.mem_of_getElem? (i := 1289) (by decide +kernel), List.mem_of_getElem? (i := 1305) (by decide +kernel), List.mem_of_getElem? (i := 1306) (by decide +kernel)⟩
theorem lw_p54 : lw_okq (⟨"HiccupTownModel", "begin", "(I)V"⟩, 47) := ⟨⟨by decide +kernel, by decide +kernel⟩, List.mem_of_getElem? (i := 1289) (by decide +kernel), List.mem_of_getElem? (i := 1455) (by decide +kernel), List.mem_of_getElem? (i := 1456) (by decide +kernel)⟩
theorem lw_p55 : lw_okq (⟨"HiccupTownModel", "take", "()I"⟩, 47) := ⟨⟨by decide +kernel, by decide +kernel⟩, List.mem_of_getElem? (i := 1289) (by decide +kernel), List.mem_of_getElem? (i := 1459) (by decide +kernel), List.mem_of_getElem? (i := 1460) (by decide +kernel)⟩
theorem lw_p56 : lw_okq (⟨"HiccupTownModel", "go", "()V"⟩, 47) := ⟨⟨by decide +kernel, by decide +kernel⟩, List.mem_of_getElem? (i := 1289) (by decide +kernel), List.mem_of_getElem? (i := 1463) (by decide +kernel), List.mem_of_getElem? (i := 1464) (by decide +kernel)⟩
theorem lw_p57 : lw_okq (⟨"HiccupTownModel", "tapeAt", "(I)I"⟩, 47) := ⟨⟨by decide +kernel, by decide +kernel⟩, List.mem_of_getElem? (i := 1289) (by decide +kernel), List.mem_of_getElem? (i := 1473) (by decide +kernel), List.mem_of_getElem? (i := 1474) (by decide +kernel)⟩
theorem lw_p58 : lw_okq (⟨"HiccupTownModel", "readLine", "()Z"⟩, 47) := ⟨⟨by decide +kernel, by decide +kernel⟩, List.mem_of_getElem? (i := 1289) (by decide +kernel), List.mem_of_getElem? (i := 1479) (by decide +kernel), List.mem_of_getElem? (i := 1480) (by decide +kernel)⟩
theorem lw_p59 : lw_okq (⟨"HiccupTownModel", "isWord", "(I)Z"⟩, 47) := ⟨⟨by decide +kernel, by decide +kernel⟩, List.mem_of_getElem? (i := 1289) (by decide +kernel), List.mem_of_getElem? (i := 1483) (by decide +kernel), List.mem_of_getElem? (i := 1484) (by decide +kernel)⟩
theorem lw_p60 : lw_okq (⟨"HiccupTownModel", "readRing", "()Z"⟩, 47) := ⟨⟨by decide +kernel, by decide +kernel⟩, List.mem_of_getElem? (i := 1289) (by decide +kernel), List.mem_of_getElem? (i := 1493) (by decide +kernel), List.mem_of_getElem? (i := 1494) (by decide +kernel)⟩
theorem lw_p61 : lw_okq (⟨"HiccupTownModel", "bad", "(I)Z"⟩, 47) := ⟨⟨by decide +kernel, by decide +kernel⟩, List.mem_of_getElem? (i := 1289) (by decide +kernel), List.mem_of_getElem? (i := 1497) (by decide +kernel), List.mem_of_getElem? (i := 1498) (by decide +kernel)⟩
theorem lw_p62 : lw_okq (⟨"HiccupTownModel", "isFresh", "(I)Z"⟩, 47) := ⟨⟨by decide +kernel, by decide +kernel⟩, List.mem_of_getElem? (i := 1289) (by decide +kernel), List.mem_of_getElem? (i := 1501) (by decide +kernel), List.mem_of_getElem? (i := 1502) (by decide +kernel)⟩
theorem lw_p63 : lw_okq (⟨"HiccupTownModel", "readNumber", "(II)Z"⟩, 47) := ⟨⟨by decide +kernel, by decide +kernel⟩, List.mem_of_getElem? (i := 1289) (by decide +kernel), List.mem_of_getElem? (i := 1505) (by decide +kernel), List.mem_of_getElem? (i := 1506) (by decide +kernel)⟩
def lw_privs_4 : List (MethodName × Nat) := [(⟨"HiccupTown$Sentence", "readCompared", "(LHiccupTown$Tape;LHiccupTown$Word;)Z"⟩, 5), (⟨"HiccupTown$Sentence", "holdsAlone", "(LHiccupTown$Plan;LHiccupTown$Moment;II)Z"⟩, 5), (⟨"java/lang/Throwable", "fillInStackTrace", "(I)Ljava/lang/Throwable;"⟩, 6), (⟨"HiccupTownModel", "come", "(I)V"⟩, 47), (⟨"HiccupTownModel", "startRead", "()V"⟩, 47), (⟨"HiccupTownModel", "startSo", "()V"⟩, 47), (⟨"HiccupTownModel", "begin", "(I)V"⟩, 47), (⟨"HiccupTownModel", "take", "()I"⟩, 47), (⟨"HiccupTownModel", "go", "()V"⟩, 47), (⟨"HiccupTownModel", "tapeAt", "(I)I"⟩, 47), (⟨"HiccupTownModel", "readLine", "()Z"⟩, 47), (⟨"HiccupTownModel", "isWord", "(I)Z"⟩, 47), (⟨"HiccupTownModel", "readRing", "()Z"⟩, 47), (⟨"HiccupTownModel", "bad", "(I)Z"⟩, 47), (⟨"HiccupTownModel", "isFresh", "(I)Z"⟩, 47), (⟨"HiccupTownModel", "readNumber", "(II)Z"⟩, 47)]
theorem lw_r4 : ∀ q ∈ lw_privs_4, lw_okq q := List.forall_mem_cons.mpr ⟨lw_p48, List.forall_mem_cons.mpr ⟨lw_p49, List.forall_mem_cons.mpr ⟨lw_p50, List.forall_mem_cons.mpr ⟨lw_p51, List.forall_mem_cons.mpr ⟨lw_p52, List.forall_mem_cons.mpr ⟨lw_p53, List.forall_mem_cons.mpr ⟨lw_p54, List.forall_mem_cons.mpr ⟨lw_p55, List.forall_mem_cons.mpr ⟨lw_p56, List.forall_mem_cons.mpr ⟨lw_p57, List.forall_mem_cons.mpr ⟨lw_p58, List.forall_mem_cons.mpr ⟨lw_p59, List.forall_mem_cons.mpr ⟨lw_p60, List.forall_mem_cons.mpr ⟨lw_p61, List.forall_mem_cons.mpr ⟨lw_p62, List.forall_mem_cons.mpr ⟨lw_p63, fun _ h => absurd h List.not_mem_nil⟩⟩⟩⟩⟩⟩⟩⟩⟩⟩⟩⟩⟩⟩⟩⟩
theorem lw_p64 : lw_okq (⟨"HiccupTownModel", "put", "(IZ)Z"⟩, 47) := ⟨⟨by decide +kernel, by decide +kernel⟩, List.mem_of_getElem? (i := 1289) (by decide +kernel), List.mem_of_getElem? (i := 1512) (by decide +kernel), List.mem_of_getElem? (i := 1513) (by decide +kernel)⟩
theorem lw_p65 : lw_okq (⟨"HiccupTownModel", "readCousin", "()Z"⟩, 47) := ⟨⟨by decide +kernel, by decide +kernel⟩, List.mem_of_getElem? (i := 1289) (by decide +kernel), List.mem_of_getElem? (i := 1516) (by decide +kernel), List.mem_of_getElem? (i := 1517) (by decide +kernel)⟩
theorem lw_p66 : lw_okq (⟨"HiccupTownModel", "readFirst", "(II)Z"⟩, 47) := ⟨⟨by decide +kernel, by decide +kernel⟩, List.mem_of_getElem? (i := 1289) (by decide +kernel), List.mem_of_getElem? (i := 1520) (by decide +kernel), List.mem_of_getElem? (i := 1521) (by decide +kernel)⟩
theorem lw_p67 : lw_okq (⟨"HiccupTownModel", "readNew", "(I)Z"⟩, 47) := ⟨⟨by decide +kernel, by decide +kernel⟩, List.mem_of_getElem? (i := 1289) (by decide +kernel), List.mem_of_getElem? (i := 1524) (by decide +kernel), List.mem_of_getElem? (i := 1525) (by decide +kernel)⟩
theorem lw_p68 : lw_okq (⟨"HiccupTownModel", "isName", "()Z"⟩, 47) := ⟨⟨by decide +kernel, by decide +kernel⟩, List.mem_of_getElem? (i := 1289) (by decide +kernel), List.mem_of_getElem? (i := 1528) (by decide +kernel), List.mem_of_getElem? (i := 1529) (by decide +kernel)⟩
theorem lw_p69 : lw_okq (⟨"HiccupTownModel", "isTaken", "()Z"⟩, 47) := ⟨⟨by decide +kernel, by decide +kernel⟩, List.mem_of_getElem? (i := 1289) (by decide +kernel), List.mem_of_getElem? (i := 1532) (by decide +kernel), List.mem_of_getElem? (i := 1533) (by decide +kernel)⟩
theorem lw_p70 : lw_okq (⟨"HiccupTownModel", "readPerson", "()Z"⟩, 47) := ⟨⟨by decide +kernel, by decide +kernel⟩, List.mem_of_getElem? (i := 1289) (by decide +kernel), List.mem_of_getElem? (i := 1539) (by decide +kernel), List.mem_of_getElem? (i := 1540) (by decide +kernel)⟩
theorem lw_p71 : lw_okq (⟨"HiccupTownModel", "readPlace", "(I)Z"⟩, 47) := ⟨⟨by decide +kernel, by decide +kernel⟩, List.mem_of_getElem? (i := 1289) (by decide +kernel), List.mem_of_getElem? (i := 1543) (by decide +kernel), List.mem_of_getElem? (i := 1544) (by decide +kernel)⟩
theorem lw_p72 : lw_okq (⟨"HiccupTownModel", "readWork", "()Z"⟩, 47) := ⟨⟨by decide +kernel, by decide +kernel⟩, List.mem_of_getElem? (i := 1289) (by decide +kernel), List.mem_of_getElem? (i := 1547) (by decide +kernel), List.mem_of_getElem? (i := 1548) (by decide +kernel)⟩
theorem lw_p73 : lw_okq (⟨"HiccupTownModel", "readAfter", "()Z"⟩, 47) := ⟨⟨by decide +kernel, by decide +kernel⟩, List.mem_of_getElem? (i := 1289) (by decide +kernel), List.mem_of_getElem? (i := 1551) (by decide +kernel), List.mem_of_getElem? (i := 1552) (by decide +kernel)⟩
theorem lw_p74 : lw_okq (⟨"HiccupTownModel", "isWorkHere", "()Z"⟩, 47) := ⟨⟨by decide +kernel, by decide +kernel⟩, List.mem_of_getElem? (i := 1289) (by decide +kernel), List.mem_of_getElem? (i := 1555) (by decide +kernel), List.mem_of_getElem? (i := 1556) (by decide +kernel)⟩
theorem lw_p75 : lw_okq (⟨"HiccupTownModel", "readThing", "()Z"⟩, 47) := ⟨⟨by decide +kernel, by decide +kernel⟩, List.mem_of_getElem? (i := 1289) (by decide +kernel), List.mem_of_getElem? (i := 1562) (by decide +kernel), List.mem_of_getElem? (i := 1563) (by decide +kernel)⟩
theorem lw_p76 : lw_okq (⟨"HiccupTownModel", "readEnd", "()Z"⟩, 47) := ⟨⟨by decide +kernel, by decide +kernel⟩, List.mem_of_getElem? (i := 1289) (by decide +kernel), List.mem_of_getElem? (i := 1566) (by decide +kernel), List.mem_of_getElem? (i := 1567) (by decide +kernel)⟩
theorem lw_p77 : lw_okq (⟨"HiccupTownModel", "isSign", "(I)Z"⟩, 47) := ⟨⟨by decide +kernel, by decide +kernel⟩, List.mem_of_getElem? (i := 1289) (by decide +kernel), List.mem_of_getElem? (i := 1570) (by decide +kernel), List.mem_of_getElem? (i := 1571) (by decide +kernel)⟩
theorem lw_p78 : lw_okq (⟨"HiccupTownModel", "isPerson", "(I)Z"⟩, 47) := ⟨⟨by decide +kernel, by decide +kernel⟩, List.mem_of_getElem? (i := 1289) (by decide +kernel), List.mem_of_getElem? (i := 1582) (by decide +kernel), List.mem_of_getElem? (i := 1583) (by decide +kernel)⟩
theorem lw_p79 : lw_okq (⟨"HiccupTownModel", "refuse", "()I"⟩, 47) := ⟨⟨by decide +kernel, by decide +kernel⟩, List.mem_of_getElem? (i := 1289) (by decide +kernel), List.mem_of_getElem? (i := 1586) (by decide +kernel), List.mem_of_getElem? (i := 1587) (by decide +kernel)⟩
def lw_privs_5 : List (MethodName × Nat) := [(⟨"HiccupTownModel", "put", "(IZ)Z"⟩, 47), (⟨"HiccupTownModel", "readCousin", "()Z"⟩, 47), (⟨"HiccupTownModel", "readFirst", "(II)Z"⟩, 47), (⟨"HiccupTownModel", "readNew", "(I)Z"⟩, 47), (⟨"HiccupTownModel", "isName", "()Z"⟩, 47), (⟨"HiccupTownModel", "isTaken", "()Z"⟩, 47), (⟨"HiccupTownModel", "readPerson", "()Z"⟩, 47), (⟨"HiccupTownModel", "readPlace", "(I)Z"⟩, 47), (⟨"HiccupTownModel", "readWork", "()Z"⟩, 47), (⟨"HiccupTownModel", "readAfter", "()Z"⟩, 47), (⟨"HiccupTownModel", "isWorkHere", "()Z"⟩, 47), (⟨"HiccupTownModel", "readThing", "()Z"⟩, 47), (⟨"HiccupTownModel", "readEnd", "()Z"⟩, 47), (⟨"HiccupTownModel", "isSign", "(I)Z"⟩, 47), (⟨"HiccupTownModel", "isPerson", "(I)Z"⟩, 47), (⟨"HiccupTownModel", "refuse", "()I"⟩, 47)]
theorem lw_r5 : ∀ q ∈ lw_privs_5, lw_okq q := List.forall_mem_cons.mpr ⟨lw_p64, List.forall_mem_cons.mpr ⟨lw_p65, List.forall_mem_cons.mpr ⟨lw_p66, List.forall_mem_cons.mpr ⟨lw_p67, List.forall_mem_cons.mpr ⟨lw_p68, List.forall_mem_cons.mpr ⟨lw_p69, List.forall_mem_cons.mpr ⟨lw_p70, List.forall_mem_cons.mpr ⟨lw_p71, List.forall_mem_cons.mpr ⟨lw_p72, List.forall_mem_cons.mpr ⟨lw_p73, List.forall_mem_cons.mpr ⟨lw_p74, List.forall_mem_cons.mpr ⟨lw_p75, List.forall_mem_cons.mpr ⟨lw_p76, List.forall_mem_cons.mpr ⟨lw_p77, List.forall_mem_cons.mpr ⟨lw_p78, List.forall_mem_cons.mpr ⟨lw_p79, fun _ h => absurd h List.not_mem_nil⟩⟩⟩⟩⟩⟩⟩⟩⟩⟩⟩⟩⟩⟩⟩⟩
theorem lw_p80 : lw_okq (⟨"HiccupTownModel", "isOut", "(I)Z"⟩, 47) := ⟨⟨by decide +kernel, by decide +kernel⟩, List.mem_of_getElem? (i := 1289) (by decide +kernel), List.mem_of_getElem? (i := 1590) (by decide +kernel), List.mem_of_getElem? (i := 1591) (by decide +kernel)⟩
theorem lw_p81 : lw_okq (⟨"HiccupTownModel", "isBusy", "(I)Z"⟩, 47) := ⟨⟨by decide +kernel, by decide +kernel⟩, List.mem_of_getElem? (i := 1289) (by decide +kernel), List.mem_of_getElem? (i := 1594) (by decide +kernel), List.mem_of_getElem? (i := 1595) (by decide +kernel)⟩
theorem lw_p82 : lw_okq (⟨"HiccupTownModel", "openWorks", "()I"⟩, 47) := ⟨⟨by decide +kernel, by decide +kernel⟩, List.mem_of_getElem? (i := 1289) (by decide +kernel), List.mem_of_getElem? (i := 1598) (by decide +kernel), List.mem_of_getElem? (i := 1599) (by decide +kernel)⟩
theorem lw_p83 : lw_okq (⟨"HiccupTownModel", "doneWorks", "()I"⟩, 47) := ⟨⟨by decide +kernel, by decide +kernel⟩, List.mem_of_getElem? (i := 1289) (by decide +kernel), List.mem_of_getElem? (i := 1602) (by decide +kernel), List.mem_of_getElem? (i := 1603) (by decide +kernel)⟩
theorem lw_p84 : lw_okq (⟨"HiccupTownModel", "isWork", "(I)Z"⟩, 47) := ⟨⟨by decide +kernel, by decide +kernel⟩, List.mem_of_getElem? (i := 1289) (by decide +kernel), List.mem_of_getElem? (i := 1610) (by decide +kernel), List.mem_of_getElem? (i := 1611) (by decide +kernel)⟩
theorem lw_p85 : lw_okq (⟨"HiccupTownModel", "isBeater", "(I)Z"⟩, 47) := ⟨⟨by decide +kernel, by decide +kernel⟩, List.mem_of_getElem? (i := 1289) (by decide +kernel), List.mem_of_getElem? (i := 1618) (by decide +kernel), List.mem_of_getElem? (i := 1619) (by decide +kernel)⟩
theorem lw_p86 : lw_okq (⟨"HiccupTownModel", "act", "(IIZ)I"⟩, 47) := ⟨⟨by decide +kernel, by decide +kernel⟩, List.mem_of_getElem? (i := 1289) (by decide +kernel), List.mem_of_getElem? (i := 1630) (by decide +kernel), List.mem_of_getElem? (i := 1631) (by decide +kernel)⟩
theorem lw_p87 : lw_okq (⟨"HiccupTownModel", "why", "(II)I"⟩, 47) := ⟨⟨by decide +kernel, by decide +kernel⟩, List.mem_of_getElem? (i := 1289) (by decide +kernel), List.mem_of_getElem? (i := 1634) (by decide +kernel), List.mem_of_getElem? (i := 1635) (by decide +kernel)⟩
theorem lw_p88 : lw_okq (⟨"HiccupTownModel", "isCrowded", "(I)Z"⟩, 47) := ⟨⟨by decide +kernel, by decide +kernel⟩, List.mem_of_getElem? (i := 1289) (by decide +kernel), List.mem_of_getElem? (i := 1638) (by decide +kernel), List.mem_of_getElem? (i := 1639) (by decide +kernel)⟩
theorem lw_p89 : lw_okq (⟨"HiccupTownModel", "snap", "()V"⟩, 47) := ⟨⟨by decide +kernel, by decide +kernel⟩, List.mem_of_getElem? (i := 1289) (by decide +kernel), List.mem_of_getElem? (i := 1642) (by decide +kernel), List.mem_of_getElem? (i := 1643) (by decide +kernel)⟩
theorem lw_p90 : lw_okq (⟨"HiccupTownModel", "live", "(II)V"⟩, 47) := ⟨⟨by decide +kernel, by decide +kernel⟩, List.mem_of_getElem? (i := 1289) (by decide +kernel), List.mem_of_getElem? (i := 1646) (by decide +kernel), List.mem_of_getElem? (i := 1647) (by decide +kernel)⟩
theorem lw_p91 : lw_okq (⟨"HiccupTownModel", "relieved", "(I)V"⟩, 47) := ⟨⟨by decide +kernel, by decide +kernel⟩, List.mem_of_getElem? (i := 1289) (by decide +kernel), List.mem_of_getElem? (i := 1653) (by decide +kernel), List.mem_of_getElem? (i := 1654) (by decide +kernel)⟩
theorem lw_p92 : lw_okq (⟨"HiccupTownModel", "passSeconds", "(I)I"⟩, 47) := ⟨⟨by decide +kernel, by decide +kernel⟩, List.mem_of_getElem? (i := 1289) (by decide +kernel), List.mem_of_getElem? (i := 1685) (by decide +kernel), List.mem_of_getElem? (i := 1686) (by decide +kernel)⟩
theorem lw_p93 : lw_okq (⟨"HiccupTownModel", "oneSecond", "()V"⟩, 47) := ⟨⟨by decide +kernel, by decide +kernel⟩, List.mem_of_getElem? (i := 1289) (by decide +kernel), List.mem_of_getElem? (i := 1689) (by decide +kernel), List.mem_of_getElem? (i := 1690) (by decide +kernel)⟩
theorem lw_p94 : lw_okq (⟨"HiccupTownModel", "isStanding", "()Z"⟩, 47) := ⟨⟨by decide +kernel, by decide +kernel⟩, List.mem_of_getElem? (i := 1289) (by decide +kernel), List.mem_of_getElem? (i := 1693) (by decide +kernel), List.mem_of_getElem? (i := 1694) (by decide +kernel)⟩
theorem lw_p95 : lw_okq (⟨"HiccupTownModel", "beat", "()V"⟩, 47) := ⟨⟨by decide +kernel, by decide +kernel⟩, List.mem_of_getElem? (i := 1289) (by decide +kernel), List.mem_of_getElem? (i := 1697) (by decide +kernel), List.mem_of_getElem? (i := 1698) (by decide +kernel)⟩
def lw_privs_6 : List (MethodName × Nat) := [(⟨"HiccupTownModel", "isOut", "(I)Z"⟩, 47), (⟨"HiccupTownModel", "isBusy", "(I)Z"⟩, 47), (⟨"HiccupTownModel", "openWorks", "()I"⟩, 47), (⟨"HiccupTownModel", "doneWorks", "()I"⟩, 47), (⟨"HiccupTownModel", "isWork", "(I)Z"⟩, 47), (⟨"HiccupTownModel", "isBeater", "(I)Z"⟩, 47), (⟨"HiccupTownModel", "act", "(IIZ)I"⟩, 47), (⟨"HiccupTownModel", "why", "(II)I"⟩, 47), (⟨"HiccupTownModel", "isCrowded", "(I)Z"⟩, 47), (⟨"HiccupTownModel", "snap", "()V"⟩, 47), (⟨"HiccupTownModel", "live", "(II)V"⟩, 47), (⟨"HiccupTownModel", "relieved", "(I)V"⟩, 47), (⟨"HiccupTownModel", "passSeconds", "(I)I"⟩, 47), (⟨"HiccupTownModel", "oneSecond", "()V"⟩, 47), (⟨"HiccupTownModel", "isStanding", "()Z"⟩, 47), (⟨"HiccupTownModel", "beat", "()V"⟩, 47)]
theorem lw_r6 : ∀ q ∈ lw_privs_6, lw_okq q := List.forall_mem_cons.mpr ⟨lw_p80, List.forall_mem_cons.mpr ⟨lw_p81, List.forall_mem_cons.mpr ⟨lw_p82, List.forall_mem_cons.mpr ⟨lw_p83, List.forall_mem_cons.mpr ⟨lw_p84, List.forall_mem_cons.mpr ⟨lw_p85, List.forall_mem_cons.mpr ⟨lw_p86, List.forall_mem_cons.mpr ⟨lw_p87, List.forall_mem_cons.mpr ⟨lw_p88, List.forall_mem_cons.mpr ⟨lw_p89, List.forall_mem_cons.mpr ⟨lw_p90, List.forall_mem_cons.mpr ⟨lw_p91, List.forall_mem_cons.mpr ⟨lw_p92, List.forall_mem_cons.mpr ⟨lw_p93, List.forall_mem_cons.mpr ⟨lw_p94, List.forall_mem_cons.mpr ⟨lw_p95, fun _ h => absurd h List.not_mem_nil⟩⟩⟩⟩⟩⟩⟩⟩⟩⟩⟩⟩⟩⟩⟩⟩
theorem lw_p96 : lw_okq (⟨"HiccupTownModel", "placeBehind", "(II)I"⟩, 47) := ⟨⟨by decide +kernel, by decide +kernel⟩, List.mem_of_getElem? (i := 1289) (by decide +kernel), List.mem_of_getElem? (i := 1705) (by decide +kernel), List.mem_of_getElem? (i := 1706) (by decide +kernel)⟩
theorem lw_p97 : lw_okq (⟨"HiccupTownModel", "doneBy", "(II)I"⟩, 47) := ⟨⟨by decide +kernel, by decide +kernel⟩, List.mem_of_getElem? (i := 1289) (by decide +kernel), List.mem_of_getElem? (i := 1717) (by decide +kernel), List.mem_of_getElem? (i := 1718) (by decide +kernel)⟩
theorem lw_p98 : lw_okq (⟨"HiccupTownModel", "layAside", "()V"⟩, 47) := ⟨⟨by decide +kernel, by decide +kernel⟩, List.mem_of_getElem? (i := 1289) (by decide +kernel), List.mem_of_getElem? (i := 1721) (by decide +kernel), List.mem_of_getElem? (i := 1722) (by decide +kernel)⟩
theorem lw_p99 : lw_okq (⟨"HiccupTownModel", "takeBack", "()V"⟩, 47) := ⟨⟨by decide +kernel, by decide +kernel⟩, List.mem_of_getElem? (i := 1289) (by decide +kernel), List.mem_of_getElem? (i := 1726) (by decide +kernel), List.mem_of_getElem? (i := 1727) (by decide +kernel)⟩
theorem lw_p100 : lw_okq (⟨"HiccupTownModel", "hasStood", "(II)Z"⟩, 47) := ⟨⟨by decide +kernel, by decide +kernel⟩, List.mem_of_getElem? (i := 1289) (by decide +kernel), List.mem_of_getElem? (i := 1749) (by decide +kernel), List.mem_of_getElem? (i := 1750) (by decide +kernel)⟩
theorem lw_p101 : lw_okq (⟨"HiccupTownModel", "leftBy", "(II)I"⟩, 47) := ⟨⟨by decide +kernel, by decide +kernel⟩, List.mem_of_getElem? (i := 1289) (by decide +kernel), List.mem_of_getElem? (i := 1753) (by decide +kernel), List.mem_of_getElem? (i := 1754) (by decide +kernel)⟩
theorem lw_p102 : lw_okq (⟨"HiccupTownModel", "layRows", "(I)V"⟩, 47) := ⟨⟨by decide +kernel, by decide +kernel⟩, List.mem_of_getElem? (i := 1289) (by decide +kernel), List.mem_of_getElem? (i := 1773) (by decide +kernel), List.mem_of_getElem? (i := 1774) (by decide +kernel)⟩
theorem lw_p103 : lw_okq (⟨"HiccupTownModel", "rowsOf", "(II)I"⟩, 47) := ⟨⟨by decide +kernel, by decide +kernel⟩, List.mem_of_getElem? (i := 1289) (by decide +kernel), List.mem_of_getElem? (i := 1777) (by decide +kernel), List.mem_of_getElem? (i := 1778) (by decide +kernel)⟩
theorem lw_p104 : lw_okq (⟨"HiccupTownModel", "isFor", "(II)Z"⟩, 47) := ⟨⟨by decide +kernel, by decide +kernel⟩, List.mem_of_getElem? (i := 1289) (by decide +kernel), List.mem_of_getElem? (i := 1789) (by decide +kernel), List.mem_of_getElem? (i := 1790) (by decide +kernel)⟩
theorem lw_p105 : lw_okq (⟨"HiccupTownModel", "areNear", "(II)Z"⟩, 47) := ⟨⟨by decide +kernel, by decide +kernel⟩, List.mem_of_getElem? (i := 1289) (by decide +kernel), List.mem_of_getElem? (i := 1793) (by decide +kernel), List.mem_of_getElem? (i := 1794) (by decide +kernel)⟩
theorem lw_p106 : lw_okq (⟨"HiccupTownModel", "writeWord", "(J)V"⟩, 47) := ⟨⟨by decide +kernel, by decide +kernel⟩, List.mem_of_getElem? (i := 1289) (by decide +kernel), List.mem_of_getElem? (i := 1808) (by decide +kernel), List.mem_of_getElem? (i := 1809) (by decide +kernel)⟩
theorem lw_p107 : lw_okq (⟨"HiccupTownModel", "write", "(I)V"⟩, 47) := ⟨⟨by decide +kernel, by decide +kernel⟩, List.mem_of_getElem? (i := 1289) (by decide +kernel), List.mem_of_getElem? (i := 1812) (by decide +kernel), List.mem_of_getElem? (i := 1813) (by decide +kernel)⟩
theorem lw_p108 : lw_okq (⟨"HiccupTownModel", "writeNext", "(J)V"⟩, 47) := ⟨⟨by decide +kernel, by decide +kernel⟩, List.mem_of_getElem? (i := 1289) (by decide +kernel), List.mem_of_getElem? (i := 1816) (by decide +kernel), List.mem_of_getElem? (i := 1817) (by decide +kernel)⟩
theorem lw_p109 : lw_okq (⟨"HiccupTownModel", "writeNumber", "(I)V"⟩, 47) := ⟨⟨by decide +kernel, by decide +kernel⟩, List.mem_of_getElem? (i := 1289) (by decide +kernel), List.mem_of_getElem? (i := 1820) (by decide +kernel), List.mem_of_getElem? (i := 1821) (by decide +kernel)⟩
theorem lw_p110 : lw_okq (⟨"HiccupTownModel", "drawSeconds", "(II)I"⟩, 47) := ⟨⟨by decide +kernel, by decide +kernel⟩, List.mem_of_getElem? (i := 1289) (by decide +kernel), List.mem_of_getElem? (i := 1832) (by decide +kernel), List.mem_of_getElem? (i := 1833) (by decide +kernel)⟩
theorem lw_p111 : lw_okq (⟨"HiccupTownModel", "draw", "(I)I"⟩, 47) := ⟨⟨by decide +kernel, by decide +kernel⟩, List.mem_of_getElem? (i := 1289) (by decide +kernel), List.mem_of_getElem? (i := 1836) (by decide +kernel), List.mem_of_getElem? (i := 1837) (by decide +kernel)⟩
def lw_privs_7 : List (MethodName × Nat) := [(⟨"HiccupTownModel", "placeBehind", "(II)I"⟩, 47), (⟨"HiccupTownModel", "doneBy", "(II)I"⟩, 47), (⟨"HiccupTownModel", "layAside", "()V"⟩, 47), (⟨"HiccupTownModel", "takeBack", "()V"⟩, 47), (⟨"HiccupTownModel", "hasStood", "(II)Z"⟩, 47), (⟨"HiccupTownModel", "leftBy", "(II)I"⟩, 47), (⟨"HiccupTownModel", "layRows", "(I)V"⟩, 47), (⟨"HiccupTownModel", "rowsOf", "(II)I"⟩, 47), (⟨"HiccupTownModel", "isFor", "(II)Z"⟩, 47), (⟨"HiccupTownModel", "areNear", "(II)Z"⟩, 47), (⟨"HiccupTownModel", "writeWord", "(J)V"⟩, 47), (⟨"HiccupTownModel", "write", "(I)V"⟩, 47), (⟨"HiccupTownModel", "writeNext", "(J)V"⟩, 47), (⟨"HiccupTownModel", "writeNumber", "(I)V"⟩, 47), (⟨"HiccupTownModel", "drawSeconds", "(II)I"⟩, 47), (⟨"HiccupTownModel", "draw", "(I)I"⟩, 47)]
theorem lw_r7 : ∀ q ∈ lw_privs_7, lw_okq q := List.forall_mem_cons.mpr ⟨lw_p96, List.forall_mem_cons.mpr ⟨lw_p97, List.forall_mem_cons.mpr ⟨lw_p98, List.forall_mem_cons.mpr ⟨lw_p99, List.forall_mem_cons.mpr ⟨lw_p100, List.forall_mem_cons.mpr ⟨lw_p101, List.forall_mem_cons.mpr ⟨lw_p102, List.forall_mem_cons.mpr ⟨lw_p103, List.forall_mem_cons.mpr ⟨lw_p104, List.forall_mem_cons.mpr ⟨lw_p105, List.forall_mem_cons.mpr ⟨lw_p106, List.forall_mem_cons.mpr ⟨lw_p107, List.forall_mem_cons.mpr ⟨lw_p108, List.forall_mem_cons.mpr ⟨lw_p109, List.forall_mem_cons.mpr ⟨lw_p110, List.forall_mem_cons.mpr ⟨lw_p111, fun _ h => absurd h List.not_mem_nil⟩⟩⟩⟩⟩⟩⟩⟩⟩⟩⟩⟩⟩⟩⟩⟩
theorem lw_p112 : lw_okq (⟨"HiccupTownModel", "drawsFor", "(II)V"⟩, 47) := ⟨⟨by decide +kernel, by decide +kernel⟩, List.mem_of_getElem? (i := 1289) (by decide +kernel), List.mem_of_getElem? (i := 1841) (by decide +kernel), List.mem_of_getElem? (i := 1842) (by decide +kernel)⟩
theorem lw_p113 : lw_okq (⟨"HiccupTownModel", "readBookLine", "()Z"⟩, 47) := ⟨⟨by decide +kernel, by decide +kernel⟩, List.mem_of_getElem? (i := 1289) (by decide +kernel), List.mem_of_getElem? (i := 1853) (by decide +kernel), List.mem_of_getElem? (i := 1854) (by decide +kernel)⟩
theorem lw_p114 : lw_okq (⟨"HiccupTownModel", "readDoes", "(I)Z"⟩, 47) := ⟨⟨by decide +kernel, by decide +kernel⟩, List.mem_of_getElem? (i := 1289) (by decide +kernel), List.mem_of_getElem? (i := 1857) (by decide +kernel), List.mem_of_getElem? (i := 1858) (by decide +kernel)⟩
theorem lw_p115 : lw_okq (⟨"HiccupTownModel", "readBeater", "()Z"⟩, 47) := ⟨⟨by decide +kernel, by decide +kernel⟩, List.mem_of_getElem? (i := 1289) (by decide +kernel), List.mem_of_getElem? (i := 1861) (by decide +kernel), List.mem_of_getElem? (i := 1862) (by decide +kernel)⟩
theorem lw_p116 : lw_okq (⟨"HiccupTownModel", "readNamed", "(II)Z"⟩, 47) := ⟨⟨by decide +kernel, by decide +kernel⟩, List.mem_of_getElem? (i := 1289) (by decide +kernel), List.mem_of_getElem? (i := 1865) (by decide +kernel), List.mem_of_getElem? (i := 1866) (by decide +kernel)⟩
theorem lw_p117 : lw_okq (⟨"HiccupTownModel", "keep", "(IZ)Z"⟩, 47) := ⟨⟨by decide +kernel, by decide +kernel⟩, List.mem_of_getElem? (i := 1289) (by decide +kernel), List.mem_of_getElem? (i := 1869) (by decide +kernel), List.mem_of_getElem? (i := 1870) (by decide +kernel)⟩
theorem lw_p118 : lw_okq (⟨"HiccupTownModel", "goBy", "(I)I"⟩, 47) := ⟨⟨by decide +kernel, by decide +kernel⟩, List.mem_of_getElem? (i := 1289) (by decide +kernel), List.mem_of_getElem? (i := 1873) (by decide +kernel), List.mem_of_getElem? (i := 1874) (by decide +kernel)⟩
theorem lw_p119 : lw_okq (⟨"HiccupTownModel", "stay", "(Z)V"⟩, 47) := ⟨⟨by decide +kernel, by decide +kernel⟩, List.mem_of_getElem? (i := 1289) (by decide +kernel), List.mem_of_getElem? (i := 1877) (by decide +kernel), List.mem_of_getElem? (i := 1878) (by decide +kernel)⟩
theorem lw_p120 : lw_okq (⟨"HiccupTownModel", "readOr", "()Z"⟩, 47) := ⟨⟨by decide +kernel, by decide +kernel⟩, List.mem_of_getElem? (i := 1289) (by decide +kernel), List.mem_of_getElem? (i := 1889) (by decide +kernel), List.mem_of_getElem? (i := 1890) (by decide +kernel)⟩
theorem lw_p121 : lw_okq (⟨"HiccupTownModel", "readAnd", "()Z"⟩, 47) := ⟨⟨by decide +kernel, by decide +kernel⟩, List.mem_of_getElem? (i := 1289) (by decide +kernel), List.mem_of_getElem? (i := 1893) (by decide +kernel), List.mem_of_getElem? (i := 1894) (by decide +kernel)⟩
theorem lw_p122 : lw_okq (⟨"HiccupTownModel", "readSaid", "()Z"⟩, 47) := ⟨⟨by decide +kernel, by decide +kernel⟩, List.mem_of_getElem? (i := 1289) (by decide +kernel), List.mem_of_getElem? (i := 1897) (by decide +kernel), List.mem_of_getElem? (i := 1898) (by decide +kernel)⟩
theorem lw_p123 : lw_okq (⟨"HiccupTownModel", "readBracket", "()Z"⟩, 47) := ⟨⟨by decide +kernel, by decide +kernel⟩, List.mem_of_getElem? (i := 1289) (by decide +kernel), List.mem_of_getElem? (i := 1901) (by decide +kernel), List.mem_of_getElem? (i := 1902) (by decide +kernel)⟩
theorem lw_p124 : lw_okq (⟨"HiccupTownModel", "readNot", "()Z"⟩, 47) := ⟨⟨by decide +kernel, by decide +kernel⟩, List.mem_of_getElem? (i := 1289) (by decide +kernel), List.mem_of_getElem? (i := 1905) (by decide +kernel), List.mem_of_getElem? (i := 1906) (by decide +kernel)⟩
theorem lw_p125 : lw_okq (⟨"HiccupTownModel", "saysOne", "(IIII)I"⟩, 47) := ⟨⟨by decide +kernel, by decide +kernel⟩, List.mem_of_getElem? (i := 1289) (by decide +kernel), List.mem_of_getElem? (i := 1909) (by decide +kernel), List.mem_of_getElem? (i := 1910) (by decide +kernel)⟩
theorem lw_p126 : lw_okq (⟨"HiccupTownModel", "readOf", "(I)Z"⟩, 47) := ⟨⟨by decide +kernel, by decide +kernel⟩, List.mem_of_getElem? (i := 1289) (by decide +kernel), List.mem_of_getElem? (i := 1913) (by decide +kernel), List.mem_of_getElem? (i := 1914) (by decide +kernel)⟩
theorem lw_p127 : lw_okq (⟨"HiccupTownModel", "readCompare", "(I)Z"⟩, 47) := ⟨⟨by decide +kernel, by decide +kernel⟩, List.mem_of_getElem? (i := 1289) (by decide +kernel), List.mem_of_getElem? (i := 1917) (by decide +kernel), List.mem_of_getElem? (i := 1918) (by decide +kernel)⟩
def lw_privs_8 : List (MethodName × Nat) := [(⟨"HiccupTownModel", "drawsFor", "(II)V"⟩, 47), (⟨"HiccupTownModel", "readBookLine", "()Z"⟩, 47), (⟨"HiccupTownModel", "readDoes", "(I)Z"⟩, 47), (⟨"HiccupTownModel", "readBeater", "()Z"⟩, 47), (⟨"HiccupTownModel", "readNamed", "(II)Z"⟩, 47), (⟨"HiccupTownModel", "keep", "(IZ)Z"⟩, 47), (⟨"HiccupTownModel", "goBy", "(I)I"⟩, 47), (⟨"HiccupTownModel", "stay", "(Z)V"⟩, 47), (⟨"HiccupTownModel", "readOr", "()Z"⟩, 47), (⟨"HiccupTownModel", "readAnd", "()Z"⟩, 47), (⟨"HiccupTownModel", "readSaid", "()Z"⟩, 47), (⟨"HiccupTownModel", "readBracket", "()Z"⟩, 47), (⟨"HiccupTownModel", "readNot", "()Z"⟩, 47), (⟨"HiccupTownModel", "saysOne", "(IIII)I"⟩, 47), (⟨"HiccupTownModel", "readOf", "(I)Z"⟩, 47), (⟨"HiccupTownModel", "readCompare", "(I)Z"⟩, 47)]
theorem lw_r8 : ∀ q ∈ lw_privs_8, lw_okq q := List.forall_mem_cons.mpr ⟨lw_p112, List.forall_mem_cons.mpr ⟨lw_p113, List.forall_mem_cons.mpr ⟨lw_p114, List.forall_mem_cons.mpr ⟨lw_p115, List.forall_mem_cons.mpr ⟨lw_p116, List.forall_mem_cons.mpr ⟨lw_p117, List.forall_mem_cons.mpr ⟨lw_p118, List.forall_mem_cons.mpr ⟨lw_p119, List.forall_mem_cons.mpr ⟨lw_p120, List.forall_mem_cons.mpr ⟨lw_p121, List.forall_mem_cons.mpr ⟨lw_p122, List.forall_mem_cons.mpr ⟨lw_p123, List.forall_mem_cons.mpr ⟨lw_p124, List.forall_mem_cons.mpr ⟨lw_p125, List.forall_mem_cons.mpr ⟨lw_p126, List.forall_mem_cons.mpr ⟨lw_p127, fun _ h => absurd h List.not_mem_nil⟩⟩⟩⟩⟩⟩⟩⟩⟩⟩⟩⟩⟩⟩⟩⟩
theorem lw_p128 : lw_okq (⟨"HiccupTownModel", "holds", "(II)Z"⟩, 47) := ⟨⟨by decide +kernel, by decide +kernel⟩, List.mem_of_getElem? (i := 1289) (by decide +kernel), List.mem_of_getElem? (i := 1925) (by decide +kernel), List.mem_of_getElem? (i := 1926) (by decide +kernel)⟩
def lw_privs_9 : List (MethodName × Nat) := [(⟨"HiccupTownModel", "holds", "(II)Z"⟩, 47)]
theorem lw_r9 : ∀ q ∈ lw_privs_9, lw_okq q := List.forall_mem_cons.mpr ⟨lw_p128, fun _ h => absurd h List.not_mem_nil⟩
def lw_privs : List (MethodName × Nat) := lw_privs_1 ++ (lw_privs_2 ++ (lw_privs_3 ++ (lw_privs_4 ++ (lw_privs_5 ++ (lw_privs_6 ++ (lw_privs_7 ++ (lw_privs_8 ++ (lw_privs_9))))))))
def lw_tbl : List Cond := k2_sels lw_privs ++ tables_1
theorem lw_privs_ok : ∀ q ∈ lw_privs, lw_okq q := by
  show ∀ q ∈ lw_privs_1 ++ (lw_privs_2 ++ (lw_privs_3 ++ (lw_privs_4 ++ (lw_privs_5 ++ (lw_privs_6 ++ (lw_privs_7 ++ (lw_privs_8 ++ (lw_privs_9)))))))), lw_okq q
  exact List.forall_mem_append.mpr ⟨lw_r1, List.forall_mem_append.mpr ⟨lw_r2, List.forall_mem_append.mpr ⟨lw_r3, List.forall_mem_append.mpr ⟨lw_r4, List.forall_mem_append.mpr ⟨lw_r5, List.forall_mem_append.mpr ⟨lw_r6, List.forall_mem_append.mpr ⟨lw_r7, List.forall_mem_append.mpr ⟨lw_r8, lw_r9⟩⟩⟩⟩⟩⟩⟩⟩
end
section
/-! ===== BEGIN printed: names, fields, word lists, decode rows ===== -/
def RX0 : String := "HiccupTown$Book"
def TX0 : u_T := fun k => match k with
  | 0 => ("HiccupTown$Book", "acts", "[I", true)
  | 1 => ("HiccupTown$Book", "whom", "[I", true)
  | 2 => ("HiccupTown$Book", "lines", "I", false)
  | 3 => ("HiccupTown$Book", "judged", "Z", false)
  | 4 => ("HiccupTown$Book", "why", "I", false)
  | 5 => ("HiccupTown$Book", "rightLines", "I", false)
  | 6 => ("HiccupTown$Book", "secondThen", "I", false)
  | _ => ("HiccupTown$Book", "doneThen", "I", false)
def tyX0 : Nat → FieldType := fun k => match k with
  | 0 => .array .int
  | 1 => .array .int
  | 2 => .int
  | 3 => .boolean
  | 4 => .int
  | 5 => .int
  | 6 => .int
  | _ => .int
abbrev wsX00 : List Cond := u_ws RX0 TX0 8
theorem nmX0 : ∀ a, a < 8 → ∀ b, b < 8 → a ≠ b → (TX0 a).2.1 ≠ (TX0 b).2.1 := by decide +kernel
theorem tyX0_ok : ∀ k, k < 8 → parseFieldDescriptor (TX0 k).2.2.1 = some (tyX0 k) := by decide +kernel
abbrev cX0_init : ByteArray := prog_2_method_1_code
def yX0_init : MethodName := ⟨RX0, "<init>", "()V"⟩
abbrev cX0_readBook : ByteArray := prog_2_method_2_code
def yX0_readBook : MethodName := ⟨RX0, "readBook", "(LHiccupTown$Tape;LHiccupTown$Plan;)Z"⟩
abbrev cX0_readLine : ByteArray := prog_2_method_3_code
def yX0_readLine : MethodName := ⟨RX0, "readLine", "(LHiccupTown$Tape;LHiccupTown$Plan;)Z"⟩
abbrev cX0_isAct : ByteArray := prog_2_method_4_code
def yX0_isAct : MethodName := ⟨RX0, "isAct", "(LHiccupTown$Word;)Z"⟩
abbrev cX0_actOf : ByteArray := prog_2_method_5_code
def yX0_actOf : MethodName := ⟨RX0, "actOf", "(LHiccupTown$Word;)I"⟩
abbrev cX0_readRelieve : ByteArray := prog_2_method_6_code
def yX0_readRelieve : MethodName := ⟨RX0, "readRelieve", "(LHiccupTown$Tape;LHiccupTown$Plan;)Z"⟩
abbrev cX0_readWalk : ByteArray := prog_2_method_7_code
def yX0_readWalk : MethodName := ⟨RX0, "readWalk", "(LHiccupTown$Tape;I)Z"⟩
abbrev cX0_add : ByteArray := prog_2_method_8_code
def yX0_add : MethodName := ⟨RX0, "add", "(II)Z"⟩
abbrev cX0_live : ByteArray := prog_2_method_9_code
def yX0_live : MethodName := ⟨RX0, "live", "(LHiccupTown$Plan;LHiccupTown$Moment;)I"⟩
abbrev cX0_tell : ByteArray := prog_2_method_10_code
def yX0_tell : MethodName := ⟨RX0, "tell", "(I)I"⟩
def RX1 : String := "HiccupTown$Clues"
def TX1 : u_T := fun k => match k with
  | 0 => ("HiccupTown$Clues", "fits", "[Z", true)
  | 1 => ("HiccupTown$Clues", "least", "I", false)
  | 2 => ("HiccupTown$Clues", "greatest", "I", false)
  | _ => ("HiccupTown$Clues", "nextThing", "I", false)
def tyX1 : Nat → FieldType := fun k => match k with
  | 0 => .array .boolean
  | 1 => .int
  | 2 => .int
  | _ => .int
abbrev wsX10 : List Cond := u_ws RX1 TX1 4
theorem nmX1 : ∀ a, a < 4 → ∀ b, b < 4 → a ≠ b → (TX1 a).2.1 ≠ (TX1 b).2.1 := by decide +kernel
theorem tyX1_ok : ∀ k, k < 4 → parseFieldDescriptor (TX1 k).2.2.1 = some (tyX1 k) := by decide +kernel
abbrev cX1_init : ByteArray := prog_3_method_1_code
def yX1_init : MethodName := ⟨RX1, "<init>", "()V"⟩
abbrev cX1_judge : ByteArray := prog_3_method_2_code
def yX1_judge : MethodName := ⟨RX1, "judge", "(LHiccupTown$Tape;LHiccupTown$Plan;)I"⟩
abbrev cX1_arePairs : ByteArray := prog_3_method_3_code
def yX1_arePairs : MethodName := ⟨RX1, "arePairs", "(LHiccupTown$Tape;LHiccupTown$Plan;)Z"⟩
abbrev cX1_leavesRests : ByteArray := prog_3_method_4_code
def yX1_leavesRests : MethodName := ⟨RX1, "leavesRests", "(LHiccupTown$Tape;LHiccupTown$Plan;I)Z"⟩
abbrev cX1_keepBounds : ByteArray := prog_3_method_5_code
def yX1_keepBounds : MethodName := ⟨RX1, "keepBounds", "()V"⟩
abbrev cX1_thingToLookAt : ByteArray := prog_3_method_6_code
def yX1_thingToLookAt : MethodName := ⟨RX1, "thingToLookAt", "(LHiccupTown$Plan;)I"⟩
abbrev cX1_mostLeftBy : ByteArray := prog_3_method_7_code
def yX1_mostLeftBy : MethodName := ⟨RX1, "mostLeftBy", "(I)I"⟩
def RX2 : String := "HiccupTown$Moment"
def TX2 : u_T := fun k => match k with
  | 0 => ("HiccupTown$Moment", "second", "I", false)
  | 1 => ("HiccupTown$Moment", "beater", "I", false)
  | 2 => ("HiccupTown$Moment", "waits", "I", false)
  | 3 => ("HiccupTown$Moment", "stands", "Z", false)
  | 4 => ("HiccupTown$Moment", "beats", "I", false)
  | 5 => ("HiccupTown$Moment", "out", "I", false)
  | 6 => ("HiccupTown$Moment", "place", "[I", true)
  | 7 => ("HiccupTown$Moment", "steps", "[I", true)
  | _ => ("HiccupTown$Moment", "left", "[I", true)
def tyX2 : Nat → FieldType := fun k => match k with
  | 0 => .int
  | 1 => .int
  | 2 => .int
  | 3 => .boolean
  | 4 => .int
  | 5 => .int
  | 6 => .array .int
  | 7 => .array .int
  | _ => .array .int
abbrev wsX20 : List Cond := u_ws RX2 TX2 9
theorem nmX2 : ∀ a, a < 9 → ∀ b, b < 9 → a ≠ b → (TX2 a).2.1 ≠ (TX2 b).2.1 := by decide +kernel
theorem tyX2_ok : ∀ k, k < 9 → parseFieldDescriptor (TX2 k).2.2.1 = some (tyX2 k) := by decide +kernel
abbrev cX2_init : ByteArray := prog_4_method_1_code
def yX2_init : MethodName := ⟨RX2, "<init>", "()V"⟩
abbrev cX2_begin : ByteArray := prog_4_method_2_code
def yX2_begin : MethodName := ⟨RX2, "begin", "(LHiccupTown$Plan;)V"⟩
abbrev cX2_copyFrom : ByteArray := prog_4_method_3_code
def yX2_copyFrom : MethodName := ⟨RX2, "copyFrom", "(LHiccupTown$Moment;)V"⟩
abbrev cX2_isOut : ByteArray := prog_4_method_4_code
def yX2_isOut : MethodName := ⟨RX2, "isOut", "(I)Z"⟩
abbrev cX2_isDone : ByteArray := prog_4_method_5_code
def yX2_isDone : MethodName := ⟨RX2, "isDone", "(I)Z"⟩
abbrev cX2_secondsLeft : ByteArray := prog_4_method_6_code
def yX2_secondsLeft : MethodName := ⟨RX2, "secondsLeft", "()I"⟩
abbrev cX2_doneWorks : ByteArray := prog_4_method_7_code
def yX2_doneWorks : MethodName := ⟨RX2, "doneWorks", "(LHiccupTown$Plan;)I"⟩
abbrev cX2_openWorks : ByteArray := prog_4_method_8_code
def yX2_openWorks : MethodName := ⟨RX2, "openWorks", "(LHiccupTown$Plan;)I"⟩
abbrev cX2_howWorkIs : ByteArray := prog_4_method_9_code
def yX2_howWorkIs : MethodName := ⟨RX2, "howWorkIs", "(LHiccupTown$Plan;I)I"⟩
abbrev cX2_isBusy : ByteArray := prog_4_method_10_code
def yX2_isBusy : MethodName := ⟨RX2, "isBusy", "(LHiccupTown$Plan;I)Z"⟩
abbrev cX2_placeBehind : ByteArray := prog_4_method_11_code
def yX2_placeBehind : MethodName := ⟨RX2, "placeBehind", "(LHiccupTown$Plan;II)I"⟩
abbrev cX2_somebodyWalksAt : ByteArray := prog_4_method_12_code
def yX2_somebodyWalksAt : MethodName := ⟨RX2, "somebodyWalksAt", "(LHiccupTown$Plan;I)Z"⟩
abbrev cX2_act : ByteArray := prog_4_method_13_code
def yX2_act : MethodName := ⟨RX2, "act", "(LHiccupTown$Plan;II)I"⟩
abbrev cX2_takeFright : ByteArray := prog_4_method_14_code
def yX2_takeFright : MethodName := ⟨RX2, "takeFright", "(LHiccupTown$Plan;)I"⟩
abbrev cX2_takeCure : ByteArray := prog_4_method_15_code
def yX2_takeCure : MethodName := ⟨RX2, "takeCure", "()I"⟩
abbrev cX2_takeFly : ByteArray := prog_4_method_16_code
def yX2_takeFly : MethodName := ⟨RX2, "takeFly", "()I"⟩
abbrev cX2_changeBeater : ByteArray := prog_4_method_17_code
def yX2_changeBeater : MethodName := ⟨RX2, "changeBeater", "(LHiccupTown$Plan;I)I"⟩
abbrev cX2_goOut : ByteArray := prog_4_method_18_code
def yX2_goOut : MethodName := ⟨RX2, "goOut", "(I)I"⟩
abbrev cX2_comeIn : ByteArray := prog_4_method_19_code
def yX2_comeIn : MethodName := ⟨RX2, "comeIn", "(LHiccupTown$Plan;I)I"⟩
abbrev cX2_passAll : ByteArray := prog_4_method_20_code
def yX2_passAll : MethodName := ⟨RX2, "passAll", "(LHiccupTown$Plan;I)I"⟩
abbrev cX2_passSecond : ByteArray := prog_4_method_21_code
def yX2_passSecond : MethodName := ⟨RX2, "passSecond", "(LHiccupTown$Plan;)V"⟩
abbrev cX2_beat : ByteArray := prog_4_method_22_code
def yX2_beat : MethodName := ⟨RX2, "beat", "(LHiccupTown$Plan;)V"⟩
abbrev cX2_secondsTillDone : ByteArray := prog_4_method_23_code
def yX2_secondsTillDone : MethodName := ⟨RX2, "secondsTillDone", "(LHiccupTown$Plan;I)I"⟩
abbrev cX2_secondsTillFree : ByteArray := prog_4_method_24_code
def yX2_secondsTillFree : MethodName := ⟨RX2, "secondsTillFree", "(LHiccupTown$Plan;I)I"⟩
abbrev cX2_passDrawn : ByteArray := prog_4_method_25_code
def yX2_passDrawn : MethodName := ⟨RX2, "passDrawn", "(LHiccupTown$Plan;II)I"⟩
abbrev cX2_passDrawnSecond : ByteArray := prog_4_method_26_code
def yX2_passDrawnSecond : MethodName := ⟨RX2, "passDrawnSecond", "(LHiccupTown$Plan;I)I"⟩
abbrev cX2_leaveOrJoin : ByteArray := prog_4_method_27_code
def yX2_leaveOrJoin : MethodName := ⟨RX2, "leaveOrJoin", "(LHiccupTown$Plan;I)V"⟩
abbrev cX2_stir : ByteArray := prog_4_method_28_code
def yX2_stir : MethodName := ⟨RX2, "stir", "(I)I"⟩
abbrev cX2_drawOf : ByteArray := prog_4_method_29_code
def yX2_drawOf : MethodName := ⟨RX2, "drawOf", "(II)I"⟩
abbrev cX2_votesBehindRound : ByteArray := prog_4_method_30_code
def yX2_votesBehindRound : MethodName := ⟨RX2, "votesBehindRound", "(LHiccupTown$Plan;I)I"⟩
abbrev cX2_votesBehind : ByteArray := prog_4_method_31_code
def yX2_votesBehind : MethodName := ⟨RX2, "votesBehind", "(LHiccupTown$Plan;II)I"⟩
abbrev cX2_willBeNear : ByteArray := prog_4_method_32_code
def yX2_willBeNear : MethodName := ⟨RX2, "willBeNear", "(LHiccupTown$Plan;II)Z"⟩
def RX3 : String := "HiccupTown$Past"
def TX3 : u_T := fun k => match k with
  | 0 => ("HiccupTown$Past", "moments", "[LHiccupTown$Moment;", true)
  | 1 => ("HiccupTown$Past", "newest", "I", false)
  | _ => ("HiccupTown$Past", "size", "I", false)
def tyX3 : Nat → FieldType := fun k => match k with
  | 0 => .array (.object "HiccupTown$Moment")
  | 1 => .int
  | _ => .int
abbrev wsX30 : List Cond := u_ws RX3 TX3 3
theorem nmX3 : ∀ a, a < 3 → ∀ b, b < 3 → a ≠ b → (TX3 a).2.1 ≠ (TX3 b).2.1 := by decide +kernel
theorem tyX3_ok : ∀ k, k < 3 → parseFieldDescriptor (TX3 k).2.2.1 = some (tyX3 k) := by decide +kernel
abbrev cX3_init : ByteArray := prog_5_method_1_code
def yX3_init : MethodName := ⟨RX3, "<init>", "()V"⟩
abbrev cX3_forget : ByteArray := prog_5_method_2_code
def yX3_forget : MethodName := ⟨RX3, "forget", "()V"⟩
abbrev cX3_keep : ByteArray := prog_5_method_3_code
def yX3_keep : MethodName := ⟨RX3, "keep", "(LHiccupTown$Moment;)V"⟩
abbrev cX3_takeBack : ByteArray := prog_5_method_4_code
def yX3_takeBack : MethodName := ⟨RX3, "takeBack", "(LHiccupTown$Moment;)I"⟩
def RX4 : String := "HiccupTown$Plan"
def TX4 : u_T := fun k => match k with
  | 0 => ("HiccupTown$Plan", "ring", "I", false)
  | 1 => ("HiccupTown$Plan", "outAtFirst", "I", false)
  | 2 => ("HiccupTown$Plan", "counts", "[I", true)
  | 3 => ("HiccupTown$Plan", "names", "[J", true)
  | 4 => ("HiccupTown$Plan", "gaps", "[I", true)
  | 5 => ("HiccupTown$Plan", "personPlace", "[I", true)
  | 6 => ("HiccupTown$Plan", "personPace", "[I", true)
  | 7 => ("HiccupTown$Plan", "workPlace", "[I", true)
  | 8 => ("HiccupTown$Plan", "workBeats", "[I", true)
  | 9 => ("HiccupTown$Plan", "workBehind", "[I", true)
  | _ => ("HiccupTown$Plan", "every", "[I", true)
def tyX4 : Nat → FieldType := fun k => match k with
  | 0 => .int
  | 1 => .int
  | 2 => .array .int
  | 3 => .array .long
  | 4 => .array .int
  | 5 => .array .int
  | 6 => .array .int
  | 7 => .array .int
  | 8 => .array .int
  | 9 => .array .int
  | _ => .array .int
abbrev wsX40 : List Cond := u_ws RX4 TX4 11
theorem nmX4 : ∀ a, a < 11 → ∀ b, b < 11 → a ≠ b → (TX4 a).2.1 ≠ (TX4 b).2.1 := by decide +kernel
theorem tyX4_ok : ∀ k, k < 11 → parseFieldDescriptor (TX4 k).2.2.1 = some (tyX4 k) := by decide +kernel
abbrev cX4_init : ByteArray := prog_6_method_1_code
def yX4_init : MethodName := ⟨RX4, "<init>", "()V"⟩
abbrev cX4_clear : ByteArray := prog_6_method_2_code
def yX4_clear : MethodName := ⟨RX4, "clear", "()V"⟩
abbrev cX4_copyFrom : ByteArray := prog_6_method_3_code
def yX4_copyFrom : MethodName := ⟨RX4, "copyFrom", "(LHiccupTown$Plan;)V"⟩
abbrev cX4_has : ByteArray := prog_6_method_4_code
def yX4_has : MethodName := ⟨RX4, "has", "(II)Z"⟩
abbrev cX4_isFull : ByteArray := prog_6_method_5_code
def yX4_isFull : MethodName := ⟨RX4, "isFull", "(I)Z"⟩
abbrev cX4_beaters : ByteArray := prog_6_method_6_code
def yX4_beaters : MethodName := ⟨RX4, "beaters", "()I"⟩
abbrev cX4_mayBeat : ByteArray := prog_6_method_7_code
def yX4_mayBeat : MethodName := ⟨RX4, "mayBeat", "(I)Z"⟩
abbrev cX4_gapOf : ByteArray := prog_6_method_8_code
def yX4_gapOf : MethodName := ⟨RX4, "gapOf", "(I)I"⟩
abbrev cX4_addName : ByteArray := prog_6_method_9_code
def yX4_addName : MethodName := ⟨RX4, "addName", "(IJ)I"⟩
abbrev cX4_nameOf : ByteArray := prog_6_method_10_code
def yX4_nameOf : MethodName := ⟨RX4, "nameOf", "(II)J"⟩
abbrev cX4_numberOf : ByteArray := prog_6_method_11_code
def yX4_numberOf : MethodName := ⟨RX4, "numberOf", "(IJ)I"⟩
abbrev cX4_knows : ByteArray := prog_6_method_12_code
def yX4_knows : MethodName := ⟨RX4, "knows", "(J)Z"⟩
abbrev cX4_placeOn : ByteArray := prog_6_method_13_code
def yX4_placeOn : MethodName := ⟨RX4, "placeOn", "(II)I"⟩
def RX5 : String := "HiccupTown$Rows"
def TX5 : u_T := fun k => match k with
  | 0 => ("HiccupTown$Rows", "ways", "[[I", true)
  | 1 => ("HiccupTown$Rows", "first", "[I", true)
  | _ => ("HiccupTown$Rows", "firstLength", "I", false)
def tyX5 : Nat → FieldType := fun k => match k with
  | 0 => .array (.array .int)
  | 1 => .array .int
  | _ => .int
abbrev wsX50 : List Cond := u_ws RX5 TX5 3
theorem nmX5 : ∀ a, a < 3 → ∀ b, b < 3 → a ≠ b → (TX5 a).2.1 ≠ (TX5 b).2.1 := by decide +kernel
theorem tyX5_ok : ∀ k, k < 3 → parseFieldDescriptor (TX5 k).2.2.1 = some (tyX5 k) := by decide +kernel
abbrev cX5_init : ByteArray := prog_7_method_1_code
def yX5_init : MethodName := ⟨RX5, "<init>", "()V"⟩
abbrev cX5_countFor : ByteArray := prog_7_method_2_code
def yX5_countFor : MethodName := ⟨RX5, "countFor", "(LHiccupTown$Plan;II)I"⟩
abbrev cX5_waysWithOneMore : ByteArray := prog_7_method_3_code
def yX5_waysWithOneMore : MethodName := ⟨RX5, "waysWithOneMore", "(LHiccupTown$Plan;II)I"⟩
abbrev cX5_keepFirst : ByteArray := prog_7_method_4_code
def yX5_keepFirst : MethodName := ⟨RX5, "keepFirst", "(LHiccupTown$Plan;II)V"⟩
abbrev cX5_leastBeater : ByteArray := prog_7_method_5_code
def yX5_leastBeater : MethodName := ⟨RX5, "leastBeater", "(LHiccupTown$Plan;II)I"⟩
def RX6 : String := "HiccupTown$Scene"
def TX6 : u_T := fun k => match k with
  | 0 => ("HiccupTown$Scene", "plan", "LHiccupTown$Plan;", true)
  | 1 => ("HiccupTown$Scene", "moment", "LHiccupTown$Moment;", true)
  | 2 => ("HiccupTown$Scene", "sentence", "LHiccupTown$Sentence;", true)
  | _ => ("HiccupTown$Scene", "kept", "Z", false)
def tyX6 : Nat → FieldType := fun k => match k with
  | 0 => .object "HiccupTown$Plan"
  | 1 => .object "HiccupTown$Moment"
  | 2 => .object "HiccupTown$Sentence"
  | _ => .boolean
abbrev wsX60 : List Cond := u_ws RX6 TX6 4
theorem nmX6 : ∀ a, a < 4 → ∀ b, b < 4 → a ≠ b → (TX6 a).2.1 ≠ (TX6 b).2.1 := by decide +kernel
theorem tyX6_ok : ∀ k, k < 4 → parseFieldDescriptor (TX6 k).2.2.1 = some (tyX6 k) := by decide +kernel
abbrev cX6_init : ByteArray := prog_8_method_1_code
def yX6_init : MethodName := ⟨RX6, "<init>", "()V"⟩
abbrev cX6_begin : ByteArray := prog_8_method_2_code
def yX6_begin : MethodName := ⟨RX6, "begin", "(LHiccupTown$Plan;)V"⟩
abbrev cX6_copyFrom : ByteArray := prog_8_method_3_code
def yX6_copyFrom : MethodName := ⟨RX6, "copyFrom", "(LHiccupTown$Scene;)V"⟩
def RX7 : String := "HiccupTown$Sentence"
def TX7 : u_T := fun k => match k with
  | 0 => ("HiccupTown$Sentence", "parts", "[LHiccupTown$Word;", true)
  | 1 => ("HiccupTown$Sentence", "signs", "[LHiccupTown$Word;", true)
  | 2 => ("HiccupTown$Sentence", "numbers", "[I", true)
  | 3 => ("HiccupTown$Sentence", "size", "I", false)
  | _ => ("HiccupTown$Sentence", "ones", "I", false)
def tyX7 : Nat → FieldType := fun k => match k with
  | 0 => .array (.object "HiccupTown$Word")
  | 1 => .array (.object "HiccupTown$Word")
  | 2 => .array .int
  | 3 => .int
  | _ => .int
abbrev wsX70 : List Cond := u_ws RX7 TX7 5
theorem nmX7 : ∀ a, a < 5 → ∀ b, b < 5 → a ≠ b → (TX7 a).2.1 ≠ (TX7 b).2.1 := by decide +kernel
theorem tyX7_ok : ∀ k, k < 5 → parseFieldDescriptor (TX7 k).2.2.1 = some (tyX7 k) := by decide +kernel
abbrev cX7_init : ByteArray := prog_9_method_1_code
def yX7_init : MethodName := ⟨RX7, "<init>", "()V"⟩
abbrev cX7_clear : ByteArray := prog_9_method_2_code
def yX7_clear : MethodName := ⟨RX7, "clear", "()V"⟩
abbrev cX7_isTold : ByteArray := prog_9_method_3_code
def yX7_isTold : MethodName := ⟨RX7, "isTold", "()Z"⟩
abbrev cX7_copyFrom : ByteArray := prog_9_method_4_code
def yX7_copyFrom : MethodName := ⟨RX7, "copyFrom", "(LHiccupTown$Sentence;)V"⟩
abbrev cX7_readSentence : ByteArray := prog_9_method_5_code
def yX7_readSentence : MethodName := ⟨RX7, "readSentence", "(LHiccupTown$Tape;LHiccupTown$Plan;)Z"⟩
abbrev cX7_readCond : ByteArray := prog_9_method_6_code
def yX7_readCond : MethodName := ⟨RX7, "readCond", "(LHiccupTown$Tape;LHiccupTown$Plan;I)Z"⟩
abbrev cX7_readAll : ByteArray := prog_9_method_7_code
def yX7_readAll : MethodName := ⟨RX7, "readAll", "(LHiccupTown$Tape;LHiccupTown$Plan;I)Z"⟩
abbrev cX7_readOne : ByteArray := prog_9_method_8_code
def yX7_readOne : MethodName := ⟨RX7, "readOne", "(LHiccupTown$Tape;LHiccupTown$Plan;I)Z"⟩
abbrev cX7_beginsOne : ByteArray := prog_9_method_9_code
def yX7_beginsOne : MethodName := ⟨RX7, "beginsOne", "(LHiccupTown$Word;)Z"⟩
abbrev cX7_readCompared : ByteArray := prog_9_method_10_code
def yX7_readCompared : MethodName := ⟨RX7, "readCompared", "(LHiccupTown$Tape;LHiccupTown$Word;)Z"⟩
abbrev cX7_add : ByteArray := prog_9_method_11_code
def yX7_add : MethodName := ⟨RX7, "add", "(LHiccupTown$Word;LHiccupTown$Word;I)Z"⟩
abbrev cX7_holds : ByteArray := prog_9_method_12_code
def yX7_holds : MethodName := ⟨RX7, "holds", "(LHiccupTown$Plan;LHiccupTown$Moment;I)Z"⟩
abbrev cX7_holdsAlone : ByteArray := prog_9_method_13_code
def yX7_holdsAlone : MethodName := ⟨RX7, "holdsAlone", "(LHiccupTown$Plan;LHiccupTown$Moment;II)Z"⟩
abbrev cX7_measure : ByteArray := prog_9_method_14_code
def yX7_measure : MethodName := ⟨RX7, "measure", "(LHiccupTown$Plan;LHiccupTown$Moment;ILHiccupTown$Word;)I"⟩
abbrev cX7_compares : ByteArray := prog_9_method_15_code
def yX7_compares : MethodName := ⟨RX7, "compares", "(ILHiccupTown$Word;I)Z"⟩
def RX8 : String := "HiccupTown$Tape"
def TX8 : u_T := fun k => match k with
  | 0 => ("HiccupTown$Tape", "bytes", "[B", true)
  | 1 => ("HiccupTown$Tape", "length", "I", false)
  | 2 => ("HiccupTown$Tape", "most", "I", false)
  | 3 => ("HiccupTown$Tape", "position", "I", false)
  | 4 => ("HiccupTown$Tape", "kind", "LHiccupTown$Word;", false)
  | 5 => ("HiccupTown$Tape", "place", "I", false)
  | 6 => ("HiccupTown$Tape", "number", "I", false)
  | 7 => ("HiccupTown$Tape", "key", "J", false)
  | 8 => ("HiccupTown$Tape", "fault", "I", false)
  | _ => ("HiccupTown$Tape", "faultPlace", "I", false)
def tyX8 : Nat → FieldType := fun k => match k with
  | 0 => .array .byte
  | 1 => .int
  | 2 => .int
  | 3 => .int
  | 4 => .object "HiccupTown$Word"
  | 5 => .int
  | 6 => .int
  | 7 => .long
  | 8 => .int
  | _ => .int
abbrev wsX80 : List Cond := u_ws RX8 TX8 10
theorem nmX8 : ∀ a, a < 10 → ∀ b, b < 10 → a ≠ b → (TX8 a).2.1 ≠ (TX8 b).2.1 := by decide +kernel
theorem tyX8_ok : ∀ k, k < 10 → parseFieldDescriptor (TX8 k).2.2.1 = some (tyX8 k) := by decide +kernel
abbrev cX8_init : ByteArray := prog_10_method_1_code
def yX8_init : MethodName := ⟨RX8, "<init>", "()V"⟩
abbrev cX8_append : ByteArray := prog_10_method_2_code
def yX8_append : MethodName := ⟨RX8, "append", "(I)V"⟩
abbrev cX8_get : ByteArray := prog_10_method_3_code
def yX8_get : MethodName := ⟨RX8, "get", "(I)I"⟩
abbrev cX8_beginText : ByteArray := prog_10_method_4_code
def yX8_beginText : MethodName := ⟨RX8, "beginText", "(I)V"⟩
abbrev cX8_advance : ByteArray := prog_10_method_5_code
def yX8_advance : MethodName := ⟨RX8, "advance", "()V"⟩
abbrev cX8_skipBlanks : ByteArray := prog_10_method_6_code
def yX8_skipBlanks : MethodName := ⟨RX8, "skipBlanks", "()V"⟩
abbrev cX8_readToken : ByteArray := prog_10_method_7_code
def yX8_readToken : MethodName := ⟨RX8, "readToken", "()V"⟩
abbrev cX8_joinLetters : ByteArray := prog_10_method_8_code
def yX8_joinLetters : MethodName := ⟨RX8, "joinLetters", "()V"⟩
abbrev cX8_joinDigits : ByteArray := prog_10_method_9_code
def yX8_joinDigits : MethodName := ⟨RX8, "joinDigits", "()V"⟩
abbrev cX8_failAt : ByteArray := prog_10_method_10_code
def yX8_failAt : MethodName := ⟨RX8, "failAt", "(II)Z"⟩
abbrev cX8_fail : ByteArray := prog_10_method_11_code
def yX8_fail : MethodName := ⟨RX8, "fail", "(I)Z"⟩
abbrev cX8_take : ByteArray := prog_10_method_12_code
def yX8_take : MethodName := ⟨RX8, "take", "(LHiccupTown$Word;)Z"⟩
abbrev cX8_takeNumber : ByteArray := prog_10_method_13_code
def yX8_takeNumber : MethodName := ⟨RX8, "takeNumber", "(II)I"⟩
abbrev cX8_takeOneOf : ByteArray := prog_10_method_14_code
def yX8_takeOneOf : MethodName := ⟨RX8, "takeOneOf", "(LHiccupTown$Plan;I)I"⟩
def RX9 : String := "HiccupTown$TownReader"
def TX9 : u_T := fun k => match k with
  | 0 => ("HiccupTown$TownReader", "plan", "LHiccupTown$Plan;", true)
  | 1 => ("HiccupTown$TownReader", "ringTold", "Z", false)
  | _ => ("HiccupTown$TownReader", "gapTold", "Z", false)
def tyX9 : Nat → FieldType := fun k => match k with
  | 0 => .object "HiccupTown$Plan"
  | 1 => .boolean
  | _ => .boolean
abbrev wsX90 : List Cond := u_ws RX9 TX9 3
theorem nmX9 : ∀ a, a < 3 → ∀ b, b < 3 → a ≠ b → (TX9 a).2.1 ≠ (TX9 b).2.1 := by decide +kernel
theorem tyX9_ok : ∀ k, k < 3 → parseFieldDescriptor (TX9 k).2.2.1 = some (tyX9 k) := by decide +kernel
abbrev cX9_init : ByteArray := prog_11_method_1_code
def yX9_init : MethodName := ⟨RX9, "<init>", "()V"⟩
abbrev cX9_readTown : ByteArray := prog_11_method_2_code
def yX9_readTown : MethodName := ⟨RX9, "readTown", "(LHiccupTown$Tape;)I"⟩
abbrev cX9_readLine : ByteArray := prog_11_method_3_code
def yX9_readLine : MethodName := ⟨RX9, "readLine", "(LHiccupTown$Tape;)Z"⟩
abbrev cX9_readRing : ByteArray := prog_11_method_4_code
def yX9_readRing : MethodName := ⟨RX9, "readRing", "(LHiccupTown$Tape;)Z"⟩
abbrev cX9_readGap : ByteArray := prog_11_method_5_code
def yX9_readGap : MethodName := ⟨RX9, "readGap", "(LHiccupTown$Tape;)Z"⟩
abbrev cX9_readNewOne : ByteArray := prog_11_method_6_code
def yX9_readNewOne : MethodName := ⟨RX9, "readNewOne", "(LHiccupTown$Tape;I)I"⟩
abbrev cX9_readCousin : ByteArray := prog_11_method_7_code
def yX9_readCousin : MethodName := ⟨RX9, "readCousin", "(LHiccupTown$Tape;)Z"⟩
abbrev cX9_readPerson : ByteArray := prog_11_method_8_code
def yX9_readPerson : MethodName := ⟨RX9, "readPerson", "(LHiccupTown$Tape;)Z"⟩
abbrev cX9_readWork : ByteArray := prog_11_method_9_code
def yX9_readWork : MethodName := ⟨RX9, "readWork", "(LHiccupTown$Tape;)Z"⟩
abbrev cX9_readAfter : ByteArray := prog_11_method_10_code
def yX9_readAfter : MethodName := ⟨RX9, "readAfter", "(LHiccupTown$Tape;)Z"⟩
abbrev cX9_readThing : ByteArray := prog_11_method_11_code
def yX9_readThing : MethodName := ⟨RX9, "readThing", "(LHiccupTown$Tape;)Z"⟩
def RX10 : String := "HiccupTown$Word"
def TX10 : u_T := fun k => match k with
  | _ => ("", "", "", false)
def tyX10 : Nat → FieldType := fun k => match k with
  | _ => .int
abbrev wsX100 : List Cond := u_ws RX10 TX10 0
theorem nmX10 : ∀ a, a < 0 → ∀ b, b < 0 → a ≠ b → (TX10 a).2.1 ≠ (TX10 b).2.1 := by decide +kernel
theorem tyX10_ok : ∀ k, k < 0 → parseFieldDescriptor (TX10 k).2.2.1 = some (tyX10 k) := by decide +kernel
abbrev cX10_find : ByteArray := prog_12_method_5_code
def yX10_find : MethodName := ⟨RX10, "find", "(JLHiccupTown$Word;)LHiccupTown$Word;"⟩
def RX11 : String := "HiccupTown"
def TX11 : u_T := fun k => match k with
  | 0 => ("HiccupTown", "tape", "LHiccupTown$Tape;", true)
  | 1 => ("HiccupTown", "townReader", "LHiccupTown$TownReader;", true)
  | 2 => ("HiccupTown", "scene", "LHiccupTown$Scene;", true)
  | 3 => ("HiccupTown", "images", "[LHiccupTown$Scene;", true)
  | 4 => ("HiccupTown", "past", "LHiccupTown$Past;", true)
  | 5 => ("HiccupTown", "before", "LHiccupTown$Moment;", true)
  | 6 => ("HiccupTown", "trial", "LHiccupTown$Moment;", true)
  | 7 => ("HiccupTown", "clues", "LHiccupTown$Clues;", true)
  | 8 => ("HiccupTown", "beatRows", "LHiccupTown$Rows;", true)
  | 9 => ("HiccupTown", "latestBook", "LHiccupTown$Book;", true)
  | 10 => ("HiccupTown", "draft", "LHiccupTown$Sentence;", true)
  | 11 => ("HiccupTown", "tagBytes", "[B", true)
  | 12 => ("HiccupTown", "tagLength", "I", false)
  | 13 => ("HiccupTown", "faultKind", "I", false)
  | _ => ("HiccupTown", "votes", "I", false)
def tyX11 : Nat → FieldType := fun k => match k with
  | 0 => .object "HiccupTown$Tape"
  | 1 => .object "HiccupTown$TownReader"
  | 2 => .object "HiccupTown$Scene"
  | 3 => .array (.object "HiccupTown$Scene")
  | 4 => .object "HiccupTown$Past"
  | 5 => .object "HiccupTown$Moment"
  | 6 => .object "HiccupTown$Moment"
  | 7 => .object "HiccupTown$Clues"
  | 8 => .object "HiccupTown$Rows"
  | 9 => .object "HiccupTown$Book"
  | 10 => .object "HiccupTown$Sentence"
  | 11 => .array .byte
  | 12 => .int
  | 13 => .int
  | _ => .int
abbrev wsX110 : List Cond := u_ws RX11 TX11 15
theorem nmX11 : ∀ a, a < 15 → ∀ b, b < 15 → a ≠ b → (TX11 a).2.1 ≠ (TX11 b).2.1 := by decide +kernel
theorem tyX11_ok : ∀ k, k < 15 → parseFieldDescriptor (TX11 k).2.2.1 = some (tyX11 k) := by decide +kernel
abbrev cX11_init : ByteArray := prog_1_method_1_code
def yX11_init : MethodName := ⟨RX11, "<init>", "()V"⟩
abbrev cX11_feed : ByteArray := prog_1_method_2_code
def yX11_feed : MethodName := ⟨RX11, "feed", "(IIIII)I"⟩
abbrev cX11_end : ByteArray := prog_1_method_3_code
def yX11_end : MethodName := ⟨RX11, "end", "(I)Z"⟩
abbrev cX11_town : ByteArray := prog_1_method_4_code
def yX11_town : MethodName := ⟨RX11, "town", "()I"⟩
abbrev cX11_fault : ByteArray := prog_1_method_5_code
def yX11_fault : MethodName := ⟨RX11, "fault", "()I"⟩
abbrev cX11_person : ByteArray := prog_1_method_6_code
def yX11_person : MethodName := ⟨RX11, "person", "(II)I"⟩
abbrev cX11_work : ByteArray := prog_1_method_7_code
def yX11_work : MethodName := ⟨RX11, "work", "(II)I"⟩
abbrev cX11_gap : ByteArray := prog_1_method_8_code
def yX11_gap : MethodName := ⟨RX11, "gap", "(I)I"⟩
abbrev cX11_now : ByteArray := prog_1_method_9_code
def yX11_now : MethodName := ⟨RX11, "now", "(I)I"⟩
abbrev cX11_fright : ByteArray := prog_1_method_10_code
def yX11_fright : MethodName := ⟨RX11, "fright", "()I"⟩
abbrev cX11_cure : ByteArray := prog_1_method_11_code
def yX11_cure : MethodName := ⟨RX11, "cure", "()I"⟩
abbrev cX11_fly : ByteArray := prog_1_method_12_code
def yX11_fly : MethodName := ⟨RX11, "fly", "()I"⟩
abbrev cX11_relieve : ByteArray := prog_1_method_13_code
def yX11_relieve : MethodName := ⟨RX11, "relieve", "(I)I"⟩
abbrev cX11_leave : ByteArray := prog_1_method_14_code
def yX11_leave : MethodName := ⟨RX11, "leave", "(I)I"⟩
abbrev cX11_join : ByteArray := prog_1_method_15_code
def yX11_join : MethodName := ⟨RX11, "join", "(I)I"⟩
abbrev cX11_seconds : ByteArray := prog_1_method_16_code
def yX11_seconds : MethodName := ⟨RX11, "seconds", "(I)I"⟩
abbrev cX11_undo : ByteArray := prog_1_method_17_code
def yX11_undo : MethodName := ⟨RX11, "undo", "()I"⟩
abbrev cX11_at : ByteArray := prog_1_method_18_code
def yX11_at : MethodName := ⟨RX11, "at", "(II)I"⟩
abbrev cX11_meet : ByteArray := prog_1_method_19_code
def yX11_meet : MethodName := ⟨RX11, "meet", "(II)I"⟩
abbrev cX11_when : ByteArray := prog_1_method_20_code
def yX11_when : MethodName := ⟨RX11, "when", "(I)I"⟩
abbrev cX11_once : ByteArray := prog_1_method_21_code
def yX11_once : MethodName := ⟨RX11, "once", "(II)I"⟩
abbrev cX11_stood : ByteArray := prog_1_method_22_code
def yX11_stood : MethodName := ⟨RX11, "stood", "()I"⟩
abbrev cX11_stoodLeast : ByteArray := prog_1_method_23_code
def yX11_stoodLeast : MethodName := ⟨RX11, "stoodLeast", "()I"⟩
abbrev cX11_stoodMost : ByteArray := prog_1_method_24_code
def yX11_stoodMost : MethodName := ⟨RX11, "stoodMost", "()I"⟩
abbrev cX11_next : ByteArray := prog_1_method_25_code
def yX11_next : MethodName := ⟨RX11, "next", "()I"⟩
abbrev cX11_rows : ByteArray := prog_1_method_26_code
def yX11_rows : MethodName := ⟨RX11, "rows", "(II)I"⟩
abbrev cX11_rowAt : ByteArray := prog_1_method_27_code
def yX11_rowAt : MethodName := ⟨RX11, "rowAt", "(I)I"⟩
abbrev cX11_swift : ByteArray := prog_1_method_28_code
def yX11_swift : MethodName := ⟨RX11, "swift", "(I)I"⟩
abbrev cX11_joins : ByteArray := prog_1_method_29_code
def yX11_joins : MethodName := ⟨RX11, "joins", "(I)I"⟩
abbrev cX11_vote : ByteArray := prog_1_method_30_code
def yX11_vote : MethodName := ⟨RX11, "vote", "()I"⟩
abbrev cX11_voted : ByteArray := prog_1_method_31_code
def yX11_voted : MethodName := ⟨RX11, "voted", "()I"⟩
abbrev cX11_tag : ByteArray := prog_1_method_32_code
def yX11_tag : MethodName := ⟨RX11, "tag", "(I)I"⟩
abbrev cX11_byteAt : ByteArray := prog_1_method_33_code
def yX11_byteAt : MethodName := ⟨RX11, "byteAt", "(I)I"⟩
abbrev cX11_drawn : ByteArray := prog_1_method_34_code
def yX11_drawn : MethodName := ⟨RX11, "drawn", "(II)I"⟩
abbrev cX11_odds : ByteArray := prog_1_method_35_code
def yX11_odds : MethodName := ⟨RX11, "odds", "(III)I"⟩
abbrev cX11_book : ByteArray := prog_1_method_36_code
def yX11_book : MethodName := ⟨RX11, "book", "(I)I"⟩
abbrev cX11_told : ByteArray := prog_1_method_37_code
def yX11_told : MethodName := ⟨RX11, "told", "(I)I"⟩
abbrev cX11_sentence : ByteArray := prog_1_method_38_code
def yX11_sentence : MethodName := ⟨RX11, "sentence", "()I"⟩
abbrev cX11_said : ByteArray := prog_1_method_39_code
def yX11_said : MethodName := ⟨RX11, "said", "(I)I"⟩
abbrev cX11_image : ByteArray := prog_1_method_40_code
def yX11_image : MethodName := ⟨RX11, "image", "(I)Z"⟩
abbrev cX11_restore : ByteArray := prog_1_method_41_code
def yX11_restore : MethodName := ⟨RX11, "restore", "(I)Z"⟩
abbrev cX11_count : ByteArray := prog_1_method_42_code
def yX11_count : MethodName := ⟨RX11, "count", "(I)I"⟩
abbrev cX11_endText : ByteArray := prog_1_method_43_code
def yX11_endText : MethodName := ⟨RX11, "endText", "()Z"⟩
abbrev cX11_actKept : ByteArray := prog_1_method_44_code
def yX11_actKept : MethodName := ⟨RX11, "actKept", "(II)I"⟩
abbrev cX11_keepBefore : ByteArray := prog_1_method_45_code
def yX11_keepBefore : MethodName := ⟨RX11, "keepBefore", "(Z)V"⟩
abbrev cX11_tagByte : ByteArray := prog_1_method_46_code
def yX11_tagByte : MethodName := ⟨RX11, "tagByte", "(I)V"⟩
abbrev cX11_tagName : ByteArray := prog_1_method_47_code
def yX11_tagName : MethodName := ⟨RX11, "tagName", "(J)V"⟩
abbrev cX11_tagText : ByteArray := prog_1_method_48_code
def yX11_tagText : MethodName := ⟨RX11, "tagText", "(Ljava/lang/String;)V"⟩
abbrev cX11_tagNumber : ByteArray := prog_1_method_49_code
def yX11_tagNumber : MethodName := ⟨RX11, "tagNumber", "(I)V"⟩
abbrev cX11_hasBit : ByteArray := prog_1_method_50_code
def yX11_hasBit : MethodName := ⟨RX11, "hasBit", "(II)Z"⟩
abbrev cX11_remainder : ByteArray := prog_1_method_51_code
def yX11_remainder : MethodName := ⟨RX11, "remainder", "(II)I"⟩
def RX12 : String := "HiccupTownModel"
def TX12 : u_T := fun k => match k with
  | 0 => ("HiccupTownModel", "thrown", "I", false)
  | 1 => ("HiccupTownModel", "tape", "[I", true)
  | 2 => ("HiccupTownModel", "taped", "I", false)
  | 3 => ("HiccupTownModel", "size", "I", false)
  | 4 => ("HiccupTownModel", "limit", "I", false)
  | 5 => ("HiccupTownModel", "to", "I", false)
  | 6 => ("HiccupTownModel", "from", "I", false)
  | 7 => ("HiccupTownModel", "kind", "I", false)
  | 8 => ("HiccupTownModel", "number", "I", false)
  | 9 => ("HiccupTownModel", "sign", "I", false)
  | 10 => ("HiccupTownModel", "fault", "I", false)
  | 11 => ("HiccupTownModel", "place", "I", false)
  | 12 => ("HiccupTownModel", "word", "J", false)
  | 13 => ("HiccupTownModel", "told", "I", false)
  | 14 => ("HiccupTownModel", "now", "[I", true)
  | 15 => ("HiccupTownModel", "read", "[I", true)
  | 16 => ("HiccupTownModel", "kept", "[I", true)
  | 17 => ("HiccupTownModel", "snaps", "[I", true)
  | 18 => ("HiccupTownModel", "aside", "[I", true)
  | 19 => ("HiccupTownModel", "name", "[J", true)
  | 20 => ("HiccupTownModel", "readName", "[J", true)
  | 21 => ("HiccupTownModel", "keptName", "[J", true)
  | 22 => ("HiccupTownModel", "isKept", "[Z", true)
  | 23 => ("HiccupTownModel", "onces", "[Z", true)
  | 24 => ("HiccupTownModel", "snapMany", "I", false)
  | 25 => ("HiccupTownModel", "hasPlaces", "Z", false)
  | 26 => ("HiccupTownModel", "seconds", "[I", true)
  | 27 => ("HiccupTownModel", "rests", "[I", true)
  | 28 => ("HiccupTownModel", "stoodLeast", "I", false)
  | 29 => ("HiccupTownModel", "stoodMost", "I", false)
  | 30 => ("HiccupTownModel", "nextThing", "I", false)
  | 31 => ("HiccupTownModel", "rowMany", "[I", true)
  | 32 => ("HiccupTownModel", "row", "[I", true)
  | 33 => ("HiccupTownModel", "rowLong", "I", false)
  | 34 => ("HiccupTownModel", "voted", "I", false)
  | 35 => ("HiccupTownModel", "text", "[I", true)
  | 36 => ("HiccupTownModel", "texts", "I", false)
  | 37 => ("HiccupTownModel", "seed", "I", false)
  | 38 => ("HiccupTownModel", "line", "[I", true)
  | 39 => ("HiccupTownModel", "written", "[I", true)
  | 40 => ("HiccupTownModel", "lineMany", "I", false)
  | 41 => ("HiccupTownModel", "hasWritten", "Z", false)
  | 42 => ("HiccupTownModel", "node", "[I", true)
  | 43 => ("HiccupTownModel", "nodes", "I", false)
  | 44 => ("HiccupTownModel", "onesMany", "I", false)
  | 45 => ("HiccupTownModel", "within", "I", false)
  | _ => ("HiccupTownModel", "top", "I", false)
def tyX12 : Nat → FieldType := fun k => match k with
  | 0 => .int
  | 1 => .array .int
  | 2 => .int
  | 3 => .int
  | 4 => .int
  | 5 => .int
  | 6 => .int
  | 7 => .int
  | 8 => .int
  | 9 => .int
  | 10 => .int
  | 11 => .int
  | 12 => .long
  | 13 => .int
  | 14 => .array .int
  | 15 => .array .int
  | 16 => .array .int
  | 17 => .array .int
  | 18 => .array .int
  | 19 => .array .long
  | 20 => .array .long
  | 21 => .array .long
  | 22 => .array .boolean
  | 23 => .array .boolean
  | 24 => .int
  | 25 => .boolean
  | 26 => .array .int
  | 27 => .array .int
  | 28 => .int
  | 29 => .int
  | 30 => .int
  | 31 => .array .int
  | 32 => .array .int
  | 33 => .int
  | 34 => .int
  | 35 => .array .int
  | 36 => .int
  | 37 => .int
  | 38 => .array .int
  | 39 => .array .int
  | 40 => .int
  | 41 => .boolean
  | 42 => .array .int
  | 43 => .int
  | 44 => .int
  | 45 => .int
  | _ => .int
abbrev wsX120 : List Cond := u_ws RX12 TX12 47
theorem nmX12 : ∀ a, a < 47 → ∀ b, b < 47 → a ≠ b → (TX12 a).2.1 ≠ (TX12 b).2.1 := by decide +kernel
theorem tyX12_ok : ∀ k, k < 47 → parseFieldDescriptor (TX12 k).2.2.1 = some (tyX12 k) := by decide +kernel
abbrev cX12_thrown : ByteArray := prog_14_method_1_code
def yX12_thrown : MethodName := ⟨RX12, "thrown", "()I"⟩
abbrev cX12_refuse : ByteArray := prog_14_method_2_code
def yX12_refuse : MethodName := ⟨RX12, "refuse", "()I"⟩
abbrev cX12_come : ByteArray := prog_14_method_3_code
def yX12_come : MethodName := ⟨RX12, "come", "(I)V"⟩
abbrev cX12_feed : ByteArray := prog_14_method_4_code
def yX12_feed : MethodName := ⟨RX12, "feed", "(IIIII)I"⟩
abbrev cX12_end : ByteArray := prog_14_method_5_code
def yX12_end : MethodName := ⟨RX12, "end", "(I)Z"⟩
abbrev cX12_take : ByteArray := prog_14_method_6_code
def yX12_take : MethodName := ⟨RX12, "take", "()I"⟩
abbrev cX12_isIn : ByteArray := prog_14_method_7_code
def yX12_isIn : MethodName := ⟨RX12, "isIn", "(III)Z"⟩
abbrev cX12_has : ByteArray := prog_14_method_8_code
def yX12_has : MethodName := ⟨RX12, "has", "(II)Z"⟩
abbrev cX12_least : ByteArray := prog_14_method_10_code
def yX12_least : MethodName := ⟨RX12, "least", "(II)I"⟩
abbrev cX12_size : ByteArray := prog_14_method_11_code
def yX12_size : MethodName := ⟨RX12, "size", "(I)I"⟩
abbrev cX12_common : ByteArray := prog_14_method_12_code
def yX12_common : MethodName := ⟨RX12, "common", "(II)I"⟩
abbrev cX12_tapeAt : ByteArray := prog_14_method_13_code
def yX12_tapeAt : MethodName := ⟨RX12, "tapeAt", "(I)I"⟩
abbrev cX12_isDigit : ByteArray := prog_14_method_14_code
def yX12_isDigit : MethodName := ⟨RX12, "isDigit", "(I)Z"⟩
abbrev cX12_isLetter : ByteArray := prog_14_method_15_code
def yX12_isLetter : MethodName := ⟨RX12, "isLetter", "(I)Z"⟩
abbrev cX12_go : ByteArray := prog_14_method_16_code
def yX12_go : MethodName := ⟨RX12, "go", "()V"⟩
abbrev cX12_spelt : ByteArray := prog_14_method_17_code
def yX12_spelt : MethodName := ⟨RX12, "spelt", "(IIIIIII)J"⟩
abbrev cX12_wordOf : ByteArray := prog_14_method_18_code
def yX12_wordOf : MethodName := ⟨RX12, "wordOf", "(I)J"⟩
abbrev cX12_isWord : ByteArray := prog_14_method_19_code
def yX12_isWord : MethodName := ⟨RX12, "isWord", "(I)Z"⟩
abbrev cX12_isSign : ByteArray := prog_14_method_20_code
def yX12_isSign : MethodName := ⟨RX12, "isSign", "(I)Z"⟩
abbrev cX12_isName : ByteArray := prog_14_method_21_code
def yX12_isName : MethodName := ⟨RX12, "isName", "()Z"⟩
abbrev cX12_bad : ByteArray := prog_14_method_22_code
def yX12_bad : MethodName := ⟨RX12, "bad", "(I)Z"⟩
abbrev cX12_readNumber : ByteArray := prog_14_method_23_code
def yX12_readNumber : MethodName := ⟨RX12, "readNumber", "(II)Z"⟩
abbrev cX12_readEnd : ByteArray := prog_14_method_24_code
def yX12_readEnd : MethodName := ⟨RX12, "readEnd", "()Z"⟩
abbrev cX12_begin : ByteArray := prog_14_method_25_code
def yX12_begin : MethodName := ⟨RX12, "begin", "(I)V"⟩
abbrev cX12_init : ByteArray := prog_14_method_26_code
def yX12_init : MethodName := ⟨RX12, "<init>", "()V"⟩
abbrev cX12_startRead : ByteArray := prog_14_method_27_code
def yX12_startRead : MethodName := ⟨RX12, "startRead", "()V"⟩
abbrev cX12_startSo : ByteArray := prog_14_method_28_code
def yX12_startSo : MethodName := ⟨RX12, "startSo", "()V"⟩
abbrev cX12_findIn : ByteArray := prog_14_method_29_code
def yX12_findIn : MethodName := ⟨RX12, "findIn", "([JIIJ)I"⟩
abbrev cX12_isTaken : ByteArray := prog_14_method_30_code
def yX12_isTaken : MethodName := ⟨RX12, "isTaken", "()Z"⟩
abbrev cX12_readNew : ByteArray := prog_14_method_31_code
def yX12_readNew : MethodName := ⟨RX12, "readNew", "(I)Z"⟩
abbrev cX12_readFirst : ByteArray := prog_14_method_32_code
def yX12_readFirst : MethodName := ⟨RX12, "readFirst", "(II)Z"⟩
abbrev cX12_put : ByteArray := prog_14_method_33_code
def yX12_put : MethodName := ⟨RX12, "put", "(IZ)Z"⟩
abbrev cX12_isFresh : ByteArray := prog_14_method_34_code
def yX12_isFresh : MethodName := ⟨RX12, "isFresh", "(I)Z"⟩
abbrev cX12_readRing : ByteArray := prog_14_method_35_code
def yX12_readRing : MethodName := ⟨RX12, "readRing", "()Z"⟩
abbrev cX12_readCousin : ByteArray := prog_14_method_36_code
def yX12_readCousin : MethodName := ⟨RX12, "readCousin", "()Z"⟩
abbrev cX12_readPlace : ByteArray := prog_14_method_37_code
def yX12_readPlace : MethodName := ⟨RX12, "readPlace", "(I)Z"⟩
abbrev cX12_readPerson : ByteArray := prog_14_method_38_code
def yX12_readPerson : MethodName := ⟨RX12, "readPerson", "()Z"⟩
abbrev cX12_readWork : ByteArray := prog_14_method_39_code
def yX12_readWork : MethodName := ⟨RX12, "readWork", "()Z"⟩
abbrev cX12_isWorkHere : ByteArray := prog_14_method_40_code
def yX12_isWorkHere : MethodName := ⟨RX12, "isWorkHere", "()Z"⟩
abbrev cX12_readAfter : ByteArray := prog_14_method_41_code
def yX12_readAfter : MethodName := ⟨RX12, "readAfter", "()Z"⟩
abbrev cX12_readThing : ByteArray := prog_14_method_42_code
def yX12_readThing : MethodName := ⟨RX12, "readThing", "()Z"⟩
abbrev cX12_readLine : ByteArray := prog_14_method_43_code
def yX12_readLine : MethodName := ⟨RX12, "readLine", "()Z"⟩
abbrev cX12_town : ByteArray := prog_14_method_44_code
def yX12_town : MethodName := ⟨RX12, "town", "()I"⟩
abbrev cX12_fault : ByteArray := prog_14_method_45_code
def yX12_fault : MethodName := ⟨RX12, "fault", "()I"⟩
abbrev cX12_isBeater : ByteArray := prog_14_method_46_code
def yX12_isBeater : MethodName := ⟨RX12, "isBeater", "(I)Z"⟩
abbrev cX12_isPerson : ByteArray := prog_14_method_47_code
def yX12_isPerson : MethodName := ⟨RX12, "isPerson", "(I)Z"⟩
abbrev cX12_isWork : ByteArray := prog_14_method_48_code
def yX12_isWork : MethodName := ⟨RX12, "isWork", "(I)Z"⟩
abbrev cX12_isOut : ByteArray := prog_14_method_49_code
def yX12_isOut : MethodName := ⟨RX12, "isOut", "(I)Z"⟩
abbrev cX12_isStanding : ByteArray := prog_14_method_50_code
def yX12_isStanding : MethodName := ⟨RX12, "isStanding", "()Z"⟩
abbrev cX12_doneWorks : ByteArray := prog_14_method_51_code
def yX12_doneWorks : MethodName := ⟨RX12, "doneWorks", "()I"⟩
abbrev cX12_openWorks : ByteArray := prog_14_method_52_code
def yX12_openWorks : MethodName := ⟨RX12, "openWorks", "()I"⟩
abbrev cX12_isBusy : ByteArray := prog_14_method_53_code
def yX12_isBusy : MethodName := ⟨RX12, "isBusy", "(I)Z"⟩
abbrev cX12_person : ByteArray := prog_14_method_54_code
def yX12_person : MethodName := ⟨RX12, "person", "(II)I"⟩
abbrev cX12_work : ByteArray := prog_14_method_55_code
def yX12_work : MethodName := ⟨RX12, "work", "(II)I"⟩
abbrev cX12_gap : ByteArray := prog_14_method_56_code
def yX12_gap : MethodName := ⟨RX12, "gap", "(I)I"⟩
abbrev cX12_now : ByteArray := prog_14_method_57_code
def yX12_now : MethodName := ⟨RX12, "now", "(I)I"⟩
abbrev cX12_snap : ByteArray := prog_14_method_58_code
def yX12_snap : MethodName := ⟨RX12, "snap", "()V"⟩
abbrev cX12_isCrowded : ByteArray := prog_14_method_59_code
def yX12_isCrowded : MethodName := ⟨RX12, "isCrowded", "(I)Z"⟩
abbrev cX12_why : ByteArray := prog_14_method_60_code
def yX12_why : MethodName := ⟨RX12, "why", "(II)I"⟩
abbrev cX12_relieved : ByteArray := prog_14_method_61_code
def yX12_relieved : MethodName := ⟨RX12, "relieved", "(I)V"⟩
abbrev cX12_live : ByteArray := prog_14_method_62_code
def yX12_live : MethodName := ⟨RX12, "live", "(II)V"⟩
abbrev cX12_act : ByteArray := prog_14_method_63_code
def yX12_act : MethodName := ⟨RX12, "act", "(IIZ)I"⟩
abbrev cX12_fright : ByteArray := prog_14_method_64_code
def yX12_fright : MethodName := ⟨RX12, "fright", "()I"⟩
abbrev cX12_cure : ByteArray := prog_14_method_65_code
def yX12_cure : MethodName := ⟨RX12, "cure", "()I"⟩
abbrev cX12_fly : ByteArray := prog_14_method_66_code
def yX12_fly : MethodName := ⟨RX12, "fly", "()I"⟩
abbrev cX12_relieve : ByteArray := prog_14_method_67_code
def yX12_relieve : MethodName := ⟨RX12, "relieve", "(I)I"⟩
abbrev cX12_leave : ByteArray := prog_14_method_68_code
def yX12_leave : MethodName := ⟨RX12, "leave", "(I)I"⟩
abbrev cX12_join : ByteArray := prog_14_method_69_code
def yX12_join : MethodName := ⟨RX12, "join", "(I)I"⟩
abbrev cX12_undo : ByteArray := prog_14_method_70_code
def yX12_undo : MethodName := ⟨RX12, "undo", "()I"⟩
abbrev cX12_beat : ByteArray := prog_14_method_71_code
def yX12_beat : MethodName := ⟨RX12, "beat", "()V"⟩
abbrev cX12_oneSecond : ByteArray := prog_14_method_72_code
def yX12_oneSecond : MethodName := ⟨RX12, "oneSecond", "()V"⟩
abbrev cX12_passSeconds : ByteArray := prog_14_method_73_code
def yX12_passSeconds : MethodName := ⟨RX12, "passSeconds", "(I)I"⟩
abbrev cX12_seconds : ByteArray := prog_14_method_74_code
def yX12_seconds : MethodName := ⟨RX12, "seconds", "(I)I"⟩
abbrev cX12_placeBehind : ByteArray := prog_14_method_75_code
def yX12_placeBehind : MethodName := ⟨RX12, "placeBehind", "(II)I"⟩
abbrev cX12_at : ByteArray := prog_14_method_76_code
def yX12_at : MethodName := ⟨RX12, "at", "(II)I"⟩
abbrev cX12_meet : ByteArray := prog_14_method_77_code
def yX12_meet : MethodName := ⟨RX12, "meet", "(II)I"⟩
abbrev cX12_layAside : ByteArray := prog_14_method_78_code
def yX12_layAside : MethodName := ⟨RX12, "layAside", "()V"⟩
abbrev cX12_takeBack : ByteArray := prog_14_method_79_code
def yX12_takeBack : MethodName := ⟨RX12, "takeBack", "()V"⟩
abbrev cX12_doneBy : ByteArray := prog_14_method_80_code
def yX12_doneBy : MethodName := ⟨RX12, "doneBy", "(II)I"⟩
abbrev cX12_when : ByteArray := prog_14_method_81_code
def yX12_when : MethodName := ⟨RX12, "when", "(I)I"⟩
abbrev cX12_swift : ByteArray := prog_14_method_82_code
def yX12_swift : MethodName := ⟨RX12, "swift", "(I)I"⟩
abbrev cX12_joins : ByteArray := prog_14_method_83_code
def yX12_joins : MethodName := ⟨RX12, "joins", "(I)I"⟩
abbrev cX12_once : ByteArray := prog_14_method_84_code
def yX12_once : MethodName := ⟨RX12, "once", "(II)I"⟩
abbrev cX12_hasStood : ByteArray := prog_14_method_85_code
def yX12_hasStood : MethodName := ⟨RX12, "hasStood", "(II)Z"⟩
abbrev cX12_leftBy : ByteArray := prog_14_method_86_code
def yX12_leftBy : MethodName := ⟨RX12, "leftBy", "(II)I"⟩
abbrev cX12_stood : ByteArray := prog_14_method_87_code
def yX12_stood : MethodName := ⟨RX12, "stood", "()I"⟩
abbrev cX12_stoodLeast : ByteArray := prog_14_method_88_code
def yX12_stoodLeast : MethodName := ⟨RX12, "stoodLeast", "()I"⟩
abbrev cX12_stoodMost : ByteArray := prog_14_method_89_code
def yX12_stoodMost : MethodName := ⟨RX12, "stoodMost", "()I"⟩
abbrev cX12_next : ByteArray := prog_14_method_90_code
def yX12_next : MethodName := ⟨RX12, "next", "()I"⟩
abbrev cX12_rowsOf : ByteArray := prog_14_method_91_code
def yX12_rowsOf : MethodName := ⟨RX12, "rowsOf", "(II)I"⟩
abbrev cX12_layRows : ByteArray := prog_14_method_92_code
def yX12_layRows : MethodName := ⟨RX12, "layRows", "(I)V"⟩
abbrev cX12_rows : ByteArray := prog_14_method_93_code
def yX12_rows : MethodName := ⟨RX12, "rows", "(II)I"⟩
abbrev cX12_rowAt : ByteArray := prog_14_method_94_code
def yX12_rowAt : MethodName := ⟨RX12, "rowAt", "(I)I"⟩
abbrev cX12_areNear : ByteArray := prog_14_method_95_code
def yX12_areNear : MethodName := ⟨RX12, "areNear", "(II)Z"⟩
abbrev cX12_isFor : ByteArray := prog_14_method_96_code
def yX12_isFor : MethodName := ⟨RX12, "isFor", "(II)Z"⟩
abbrev cX12_vote : ByteArray := prog_14_method_97_code
def yX12_vote : MethodName := ⟨RX12, "vote", "()I"⟩
abbrev cX12_voted : ByteArray := prog_14_method_98_code
def yX12_voted : MethodName := ⟨RX12, "voted", "()I"⟩
abbrev cX12_write : ByteArray := prog_14_method_99_code
def yX12_write : MethodName := ⟨RX12, "write", "(I)V"⟩
abbrev cX12_writeWord : ByteArray := prog_14_method_100_code
def yX12_writeWord : MethodName := ⟨RX12, "writeWord", "(J)V"⟩
abbrev cX12_writeNumber : ByteArray := prog_14_method_101_code
def yX12_writeNumber : MethodName := ⟨RX12, "writeNumber", "(I)V"⟩
abbrev cX12_writeNext : ByteArray := prog_14_method_102_code
def yX12_writeNext : MethodName := ⟨RX12, "writeNext", "(J)V"⟩
abbrev cX12_tag : ByteArray := prog_14_method_103_code
def yX12_tag : MethodName := ⟨RX12, "tag", "(I)I"⟩
abbrev cX12_byteAt : ByteArray := prog_14_method_104_code
def yX12_byteAt : MethodName := ⟨RX12, "byteAt", "(I)I"⟩
abbrev cX12_draw : ByteArray := prog_14_method_105_code
def yX12_draw : MethodName := ⟨RX12, "draw", "(I)I"⟩
abbrev cX12_drawsFor : ByteArray := prog_14_method_106_code
def yX12_drawsFor : MethodName := ⟨RX12, "drawsFor", "(II)V"⟩
abbrev cX12_drawSeconds : ByteArray := prog_14_method_107_code
def yX12_drawSeconds : MethodName := ⟨RX12, "drawSeconds", "(II)I"⟩
abbrev cX12_drawn : ByteArray := prog_14_method_108_code
def yX12_drawn : MethodName := ⟨RX12, "drawn", "(II)I"⟩
abbrev cX12_odds : ByteArray := prog_14_method_109_code
def yX12_odds : MethodName := ⟨RX12, "odds", "(III)I"⟩
abbrev cX12_keep : ByteArray := prog_14_method_110_code
def yX12_keep : MethodName := ⟨RX12, "keep", "(IZ)Z"⟩
abbrev cX12_readNamed : ByteArray := prog_14_method_111_code
def yX12_readNamed : MethodName := ⟨RX12, "readNamed", "(II)Z"⟩
abbrev cX12_readBeater : ByteArray := prog_14_method_112_code
def yX12_readBeater : MethodName := ⟨RX12, "readBeater", "()Z"⟩
abbrev cX12_readDoes : ByteArray := prog_14_method_113_code
def yX12_readDoes : MethodName := ⟨RX12, "readDoes", "(I)Z"⟩
abbrev cX12_readBookLine : ByteArray := prog_14_method_114_code
def yX12_readBookLine : MethodName := ⟨RX12, "readBookLine", "()Z"⟩
abbrev cX12_goBy : ByteArray := prog_14_method_115_code
def yX12_goBy : MethodName := ⟨RX12, "goBy", "(I)I"⟩
abbrev cX12_book : ByteArray := prog_14_method_116_code
def yX12_book : MethodName := ⟨RX12, "book", "(I)I"⟩
abbrev cX12_stay : ByteArray := prog_14_method_117_code
def yX12_stay : MethodName := ⟨RX12, "stay", "(Z)V"⟩
abbrev cX12_told : ByteArray := prog_14_method_118_code
def yX12_told : MethodName := ⟨RX12, "told", "(I)I"⟩
abbrev cX12_saysOne : ByteArray := prog_14_method_119_code
def yX12_saysOne : MethodName := ⟨RX12, "saysOne", "(IIII)I"⟩
abbrev cX12_readOr : ByteArray := prog_14_method_120_code
def yX12_readOr : MethodName := ⟨RX12, "readOr", "()Z"⟩
abbrev cX12_readAnd : ByteArray := prog_14_method_121_code
def yX12_readAnd : MethodName := ⟨RX12, "readAnd", "()Z"⟩
abbrev cX12_readSaid : ByteArray := prog_14_method_122_code
def yX12_readSaid : MethodName := ⟨RX12, "readSaid", "()Z"⟩
abbrev cX12_readNot : ByteArray := prog_14_method_123_code
def yX12_readNot : MethodName := ⟨RX12, "readNot", "()Z"⟩
abbrev cX12_readBracket : ByteArray := prog_14_method_124_code
def yX12_readBracket : MethodName := ⟨RX12, "readBracket", "()Z"⟩
abbrev cX12_readOf : ByteArray := prog_14_method_125_code
def yX12_readOf : MethodName := ⟨RX12, "readOf", "(I)Z"⟩
abbrev cX12_readCompare : ByteArray := prog_14_method_126_code
def yX12_readCompare : MethodName := ⟨RX12, "readCompare", "(I)Z"⟩
abbrev cX12_sentence : ByteArray := prog_14_method_127_code
def yX12_sentence : MethodName := ⟨RX12, "sentence", "()I"⟩
abbrev cX12_holds : ByteArray := prog_14_method_128_code
def yX12_holds : MethodName := ⟨RX12, "holds", "(II)Z"⟩
abbrev cX12_said : ByteArray := prog_14_method_129_code
def yX12_said : MethodName := ⟨RX12, "said", "(I)I"⟩
abbrev cX12_image : ByteArray := prog_14_method_130_code
def yX12_image : MethodName := ⟨RX12, "image", "(I)Z"⟩
abbrev cX12_restore : ByteArray := prog_14_method_131_code
def yX12_restore : MethodName := ⟨RX12, "restore", "(I)Z"⟩
abbrev cX12_count : ByteArray := prog_14_method_132_code
def yX12_count : MethodName := ⟨RX12, "count", "(I)I"⟩
def RJx145de : String := "java/io/Serializable"
def TJx145de : u_T := fun k => match k with
  | _ => ("", "", "", false)
def tyJx145de : Nat → FieldType := fun k => match k with
  | _ => .int
abbrev wsJx145de0 : List Cond := u_ws RJx145de TJx145de 0
theorem nmJx145de : ∀ a, a < 0 → ∀ b, b < 0 → a ≠ b → (TJx145de a).2.1 ≠ (TJx145de b).2.1 := by decide +kernel
theorem tyJx145de_ok : ∀ k, k < 0 → parseFieldDescriptor (TJx145de k).2.2.1 = some (tyJx145de k) := by decide +kernel
def RJx9f9b0 : String := "java/lang/CharSequence"
def TJx9f9b0 : u_T := fun k => match k with
  | _ => ("", "", "", false)
def tyJx9f9b0 : Nat → FieldType := fun k => match k with
  | _ => .int
abbrev wsJx9f9b00 : List Cond := u_ws RJx9f9b0 TJx9f9b0 0
theorem nmJx9f9b0 : ∀ a, a < 0 → ∀ b, b < 0 → a ≠ b → (TJx9f9b0 a).2.1 ≠ (TJx9f9b0 b).2.1 := by decide +kernel
theorem tyJx9f9b0_ok : ∀ k, k < 0 → parseFieldDescriptor (TJx9f9b0 k).2.2.1 = some (tyJx9f9b0 k) := by decide +kernel
def RJxb160c : String := "java/lang/Comparable"
def TJxb160c : u_T := fun k => match k with
  | _ => ("", "", "", false)
def tyJxb160c : Nat → FieldType := fun k => match k with
  | _ => .int
abbrev wsJxb160c0 : List Cond := u_ws RJxb160c TJxb160c 0
theorem nmJxb160c : ∀ a, a < 0 → ∀ b, b < 0 → a ≠ b → (TJxb160c a).2.1 ≠ (TJxb160c b).2.1 := by decide +kernel
theorem tyJxb160c_ok : ∀ k, k < 0 → parseFieldDescriptor (TJxb160c k).2.2.1 = some (tyJxb160c k) := by decide +kernel
def RJx29ce0 : String := "java/lang/Enum"
def TJx29ce0 : u_T := fun k => match k with
  | _ => ("", "", "", false)
def tyJx29ce0 : Nat → FieldType := fun k => match k with
  | _ => .int
abbrev wsJx29ce00 : List Cond := u_ws RJx29ce0 TJx29ce0 0
theorem nmJx29ce0 : ∀ a, a < 0 → ∀ b, b < 0 → a ≠ b → (TJx29ce0 a).2.1 ≠ (TJx29ce0 b).2.1 := by decide +kernel
theorem tyJx29ce0_ok : ∀ k, k < 0 → parseFieldDescriptor (TJx29ce0 k).2.2.1 = some (tyJx29ce0 k) := by decide +kernel
def RJ9 : String := "java/lang/Math"
def TJ9 : u_T := fun k => match k with
  | _ => ("", "", "", false)
def tyJ9 : Nat → FieldType := fun k => match k with
  | _ => .int
abbrev wsJ90 : List Cond := u_ws RJ9 TJ9 0
theorem nmJ9 : ∀ a, a < 0 → ∀ b, b < 0 → a ≠ b → (TJ9 a).2.1 ≠ (TJ9 b).2.1 := by decide +kernel
theorem tyJ9_ok : ∀ k, k < 0 → parseFieldDescriptor (TJ9 k).2.2.1 = some (tyJ9 k) := by decide +kernel
abbrev cJ9_abs_0f7a4 : ByteArray := prog_20_method_59_code
def yJ9_abs_0f7a4 : MethodName := ⟨RJ9, "abs", "(I)I"⟩
abbrev cJ9_max_7cf53 : ByteArray := prog_20_method_65_code
def yJ9_max_7cf53 : MethodName := ⟨RJ9, "max", "(II)I"⟩
abbrev cJ9_min_7cf53 : ByteArray := prog_20_method_69_code
def yJ9_min_7cf53 : MethodName := ⟨RJ9, "min", "(II)I"⟩
def RJ0 : String := "java/lang/String"
def TJ0 : u_T := fun k => match k with
  | _ => ("", "", "", false)
def tyJ0 : Nat → FieldType := fun k => match k with
  | _ => .int
abbrev wsJ00 : List Cond := u_ws RJ0 TJ0 0
theorem nmJ0 : ∀ a, a < 0 → ∀ b, b < 0 → a ≠ b → (TJ0 a).2.1 ≠ (TJ0 b).2.1 := by decide +kernel
theorem tyJ0_ok : ∀ k, k < 0 → parseFieldDescriptor (TJ0 k).2.2.1 = some (tyJ0 k) := by decide +kernel
abbrev cJ0_length_8abf5 : ByteArray := prog_22_method_54_code
def yJ0_length_8abf5 : MethodName := ⟨RJ0, "length", "()I"⟩
abbrev cJ0_charAt_5068e : ByteArray := prog_22_method_56_code
def yJ0_charAt_5068e : MethodName := ⟨RJ0, "charAt", "(I)C"⟩
abbrev cJ0_coder_7d493 : ByteArray := prog_22_method_152_code
def yJ0_coder_7d493 : MethodName := ⟨RJ0, "coder", "()B"⟩
abbrev cJ0_isLatin1_aae02 : ByteArray := prog_22_method_154_code
def yJ0_isLatin1_aae02 : MethodName := ⟨RJ0, "isLatin1", "()Z"⟩
abbrev cJ0_checkIndex_df160 : ByteArray := prog_22_method_155_code
def yJ0_checkIndex_df160 : MethodName := ⟨RJ0, "checkIndex", "(II)V"⟩
def RJ1 : String := "java/lang/StringLatin1"
def TJ1 : u_T := fun k => match k with
  | _ => ("", "", "", false)
def tyJ1 : Nat → FieldType := fun k => match k with
  | _ => .int
abbrev wsJ10 : List Cond := u_ws RJ1 TJ1 0
theorem nmJ1 : ∀ a, a < 0 → ∀ b, b < 0 → a ≠ b → (TJ1 a).2.1 ≠ (TJ1 b).2.1 := by decide +kernel
theorem tyJ1_ok : ∀ k, k < 0 → parseFieldDescriptor (TJ1 k).2.2.1 = some (tyJ1 k) := by decide +kernel
abbrev cJ1_charAt_3b067 : ByteArray := prog_23_method_2_code
def yJ1_charAt_3b067 : MethodName := ⟨RJ1, "charAt", "([BI)C"⟩
def RJ2 : String := "java/lang/StringUTF16"
def TJ2 : u_T := fun k => match k with
  | _ => ("", "", "", false)
def tyJ2 : Nat → FieldType := fun k => match k with
  | _ => .int
abbrev wsJ20 : List Cond := u_ws RJ2 TJ2 0
theorem nmJ2 : ∀ a, a < 0 → ∀ b, b < 0 → a ≠ b → (TJ2 a).2.1 ≠ (TJ2 b).2.1 := by decide +kernel
theorem tyJ2_ok : ∀ k, k < 0 → parseFieldDescriptor (TJ2 k).2.2.1 = some (tyJ2 k) := by decide +kernel
abbrev cJ2_getChar_3b067 : ByteArray := prog_24_method_5_code
def yJ2_getChar_3b067 : MethodName := ⟨RJ2, "getChar", "([BI)C"⟩
abbrev cJ2_length_9d52b : ByteArray := prog_24_method_6_code
def yJ2_length_9d52b : MethodName := ⟨RJ2, "length", "([B)I"⟩
abbrev cJ2_charAt_3b067 : ByteArray := prog_24_method_83_code
def yJ2_charAt_3b067 : MethodName := ⟨RJ2, "charAt", "([BI)C"⟩
abbrev cJ2_checkIndex_2214a : ByteArray := prog_24_method_91_code
def yJ2_checkIndex_2214a : MethodName := ⟨RJ2, "checkIndex", "(I[B)V"⟩
def RJ10 : String := "java/lang/System"
def TJ10 : u_T := fun k => match k with
  | _ => ("", "", "", false)
def tyJ10 : Nat → FieldType := fun k => match k with
  | _ => .int
abbrev wsJ100 : List Cond := u_ws RJ10 TJ10 0
theorem nmJ10 : ∀ a, a < 0 → ∀ b, b < 0 → a ≠ b → (TJ10 a).2.1 ≠ (TJ10 b).2.1 := by decide +kernel
theorem tyJ10_ok : ∀ k, k < 0 → parseFieldDescriptor (TJ10 k).2.2.1 = some (tyJ10 k) := by decide +kernel
def RJxfd54e : String := "java/lang/constant/Constable"
def TJxfd54e : u_T := fun k => match k with
  | _ => ("", "", "", false)
def tyJxfd54e : Nat → FieldType := fun k => match k with
  | _ => .int
abbrev wsJxfd54e0 : List Cond := u_ws RJxfd54e TJxfd54e 0
theorem nmJxfd54e : ∀ a, a < 0 → ∀ b, b < 0 → a ≠ b → (TJxfd54e a).2.1 ≠ (TJxfd54e b).2.1 := by decide +kernel
theorem tyJxfd54e_ok : ∀ k, k < 0 → parseFieldDescriptor (TJxfd54e k).2.2.1 = some (tyJxfd54e k) := by decide +kernel
def RJx3cf43 : String := "java/lang/constant/ConstantDesc"
def TJx3cf43 : u_T := fun k => match k with
  | _ => ("", "", "", false)
def tyJx3cf43 : Nat → FieldType := fun k => match k with
  | _ => .int
abbrev wsJx3cf430 : List Cond := u_ws RJx3cf43 TJx3cf43 0
theorem nmJx3cf43 : ∀ a, a < 0 → ∀ b, b < 0 → a ≠ b → (TJx3cf43 a).2.1 ≠ (TJx3cf43 b).2.1 := by decide +kernel
theorem tyJx3cf43_ok : ∀ k, k < 0 → parseFieldDescriptor (TJx3cf43 k).2.2.1 = some (tyJx3cf43 k) := by decide +kernel
def RJ3 : String := "jdk/internal/util/Preconditions"
def TJ3 : u_T := fun k => match k with
  | _ => ("", "", "", false)
def tyJ3 : Nat → FieldType := fun k => match k with
  | _ => .int
abbrev wsJ30 : List Cond := u_ws RJ3 TJ3 0
theorem nmJ3 : ∀ a, a < 0 → ∀ b, b < 0 → a ≠ b → (TJ3 a).2.1 ≠ (TJ3 b).2.1 := by decide +kernel
theorem tyJ3_ok : ∀ k, k < 0 → parseFieldDescriptor (TJ3 k).2.2.1 = some (tyJ3 k) := by decide +kernel
abbrev cJ3_checkIndex_8e157 : ByteArray := prog_30_method_11_code
def yJ3_checkIndex_8e157 : MethodName := ⟨RJ3, "checkIndex", "(IILjava/util/function/BiFunction;)I"⟩
end
section
/-! THE SMALL MACHINE: every value is a number with a tag; every object that is ever written has a number, and what it refers to for good lies at a fixed distance from it. Tags: 0 int, 1 long, 2 a Word (its ordinal; null: below 0), 3 a text constant, 4 Word.ALL, 5 MOST_OF_SORT, 9 nothing, 10 and on: the kinds of objects (classes as in vwCl), 22 and on: the kinds of arrays -/
abbrev mm_V : Type := Nat × Int
abbrev mm_H : Type := Int → Int → Int
abbrev mm_E : Type := Nat × Instr × Nat × List Nat × Int
abbrev mm_O : Type := Int × mm_H
def mm_w (x : Int) : Int := Int.bmod x 4294967296
def mm_wl (x : Int) : Int := Int.bmod x 18446744073709551616
def mm_w8 (x : Int) : Int := Int.bmod x 256
def mm_up (h : mm_H) (o k v : Int) : mm_H := fun o' k' => if o' = o ∧ k' = k then v else h o' k'
def mm_cp (h : mm_H) (a i b j n : Int) : mm_H := fun o k => if o = b ∧ j ≤ k ∧ k < j + n then h a (i + (k - j)) else h o k
def mm_and (x y : Int) : Int := (Int32.ofInt x &&& Int32.ofInt y).toInt
def mm_or (x y : Int) : Int := (Int32.ofInt x ||| Int32.ofInt y).toInt
def mm_xor (x y : Int) : Int := (Int32.ofInt x ^^^ Int32.ofInt y).toInt
def mm_shl (x y : Int) : Int := (Int32.ofInt x <<< (Int32.ofInt y &&& 31)).toInt
def mm_shr (x y : Int) : Int := (Int32.ofInt x >>> (Int32.ofInt y &&& 31)).toInt
def mm_ushr (x y : Int) : Int := ((Int32.ofInt x).toUInt32 >>> ((Int32.ofInt y).toUInt32 &&& Int32.toUInt32 31)).toInt32.toInt
def mm_div (x y : Int) : Int := (Int32.ofInt x / Int32.ofInt y).toInt
def mm_rem (x y : Int) : Int := (Int32.ofInt x - Int32.ofInt x / Int32.ofInt y * Int32.ofInt y).toInt
def mm_lor (x y : Int) : Int := (Int64.ofInt x ||| Int64.ofInt y).toInt
def mm_lshl (x y : Int) : Int := (Int64.ofInt x <<< ((Int32.ofInt y).toInt64 &&& 63)).toInt
def mm_lushr (x y : Int) : Int := ((Int64.ofInt x).toUInt64 >>> ((Int32.ofInt y).toInt64.toUInt64 &&& Int64.toUInt64 63)).toInt64.toInt
def mm_ldiv (x y : Int) : Int := (Int64.ofInt x / Int64.ofInt y).toInt
def mm_lrem (x y : Int) : Int := (Int64.ofInt x - Int64.ofInt x / Int64.ofInt y * Int64.ofInt y).toInt
def mm_lcmp (x y : Int) : Int := if x < y then -1 else if x = y then 0 else 1
def mm_wr (i : Int) : Bool := decide (0 ≤ i ∧ i < 36)
/-- the kinds of arrays: what they hold (0 int, 1 long, 2 Word, 3 byte, 4 boolean, 5 Moment, 6 Scene, 7 int[]), how many -/
def mm_akl : List (Nat × Nat) := [(0, 4), (0, 5), (0, 6), (0, 7), (0, 40), (0, 61), (1, 28), (3, 940), (3, 21), (4, 256), (2, 40), (5, 8), (6, 2), (7, 6), (0, 940), (0, 316), (0, 48), (0, 632), (0, 208), (0, 26), (1, 22), (1, 44), (4, 2), (0, 256), (0, 60), (0, 366), (0, 64), (0, 80), (0, 240)]
def mm_ak (t : Nat) : Nat × Nat := if t < 22 then (9, 0) else mm_akl.getD (t - 22) (9, 0)
def mm_mos (i : Int) : Int := if i = 0 then 4 else if i = 1 then 7 else if i = 2 then 6 else 5
/-- the text constants: " at ", " out", " in air", " in step" -/
def mm_txt (s : Int) : List Int := if s = 0 then [32, 97, 116, 32] else if s = 1 then [32, 111, 117, 116] else if s = 2 then [32, 105, 110, 32, 97, 105, 114] else [32, 105, 110, 32, 115, 116, 101, 112]
/-- the keys of the 36 Words -/
def mm_keys : List Int := [0, 0, 0, 0, 59, 60, 61, 62, 40, 41, 1919512167, 6775152, 109330363017582, 123581014175598, 2003792491, 418330731890, 499967946343, 7304564, 112641580689524, 1668641381, 6712441, 32199663644145253, 7168366, 119182682645875, 457135713907, 126879297138276, 28530, 6385252, 7237492, 25209, 2003399784, 1651864441, 482854658917, 1885430629, 495874044019, 121450625394034]
def mm_key (i : Int) : Int := mm_keys.getD i.toNat 0
def mm_t1 {α : Type} (st : List mm_V) (t : Nat) (f : α) (k : Int → List mm_V → α) : α := match st with
  | [] => f
  | v :: r => bif v.1 == t then k v.2 r else f
/-- a value of one word -/
def mm_an {α : Type} (st : List mm_V) (f : α) (k : mm_V → List mm_V → α) : α := match st with
  | [] => f
  | v :: r => bif v.1 == 1 || v.1 == 9 then f else k v r
def mm_nl {α : Type} (st : List mm_V) (f : α) (k : α) : α := match st with
  | [] => k
  | _ :: _ => f
def mm_ld {α : Type} (ls : List mm_V) (i t : Nat) (f : α) (k : Int → α) : α := match ls[i]? with
  | none => f
  | some v => bif v.1 == t then k v.2 else f
def mm_la {α : Type} (ls : List mm_V) (i : Nat) (f : α) (k : mm_V → α) : α := match ls[i]? with
  | none => f
  | some v => bif v.1 == 0 || v.1 == 1 || v.1 == 9 then f else k v
/-- the local ahead of i isn't a long -/
def mm_pv (ls : List mm_V) (i : Nat) : Bool := match i with
  | 0 => true
  | j + 1 => match ls[j]? with
    | none => true
    | some v => !(v.1 == 1)
def mm_s1 {α : Type} (ls : List mm_V) (i : Nat) (v : mm_V) (f : α) (k : List mm_V → α) : α := bif decide (i < ls.length) && mm_pv ls i then k (ls.set i v) else f
def mm_s2 {α : Type} (ls : List mm_V) (i : Nat) (v : mm_V) (f : α) (k : List mm_V → α) : α := bif decide (i + 1 < ls.length) && mm_pv ls i then k ((ls.set i v).set (i + 1) (9, 0)) else f
def mm_tg (pc : Nat) (off : Int) : Nat := ((pc : Int) + off).toNat
def mm_sw {α : Type} (x : Int) (pc : Nat) (K : Nat → α) (d : Int) (lo : Int) : List Int → α
  | [] => K (mm_tg pc d)
  | o :: os => if x = lo then K (mm_tg pc o) else mm_sw x pc K d (lo + 1) os
def mm_lk {α : Type} (x : Int) (pc : Nat) (K : Nat → α) (d : Int) : List (Int × Int) → α
  | [] => K (mm_tg pc d)
  | o :: os => if x = o.1 then K (mm_tg pc o.2) else mm_lk x pc K d os
def mm_wd (st : List mm_V) : Nat := (st.map fun v => if v.1 = 1 then 2 else 1).sum
/-- what a call pushes, by the tag of what comes back (8: nothing) -/
def mm_pu (t : Nat) (x : Int) (st : List mm_V) : List mm_V := bif t == 8 then st else (t, x) :: st
def mm_ck {α : Type} (st : List mm_V) (f k : α) : α := bif decide (mm_wd st ≤ 20) then k else f
def mm_F {α : Type} (f : α) (r : Int → mm_H → α) (K : Nat → List mm_V → List mm_V → mm_H → α) (C : Nat → List mm_V → Nat → Nat → List mm_V → List mm_V → mm_H → α) (e : mm_E) (ls st : List mm_V) (h : mm_H) : α :=
  match e.2.1 with
  | .iconst n => K (e.1 + e.2.2.1) ls ((0, n) :: st) h
  | .bipush n => K (e.1 + e.2.2.1) ls ((0, n) :: st) h
  | .sipush n => K (e.1 + e.2.2.1) ls ((0, n) :: st) h
  | .ldc _ => K (e.1 + e.2.2.1) ls ((e.2.2.2.1.headD 0, e.2.2.2.2) :: st) h
  | .ldc_w _ => K (e.1 + e.2.2.1) ls ((e.2.2.2.1.headD 0, e.2.2.2.2) :: st) h
  | .ldc2_w _ => K (e.1 + e.2.2.1) ls ((1, e.2.2.2.2) :: st) h
  | .lconst n => K (e.1 + e.2.2.1) ls ((1, ((n : Nat) : Int)) :: st) h
  | .iload_n i => mm_ld ls i 0 f fun x => K (e.1 + e.2.2.1) ls ((0, x) :: st) h
  | .iload i => mm_ld ls i 0 f fun x => K (e.1 + e.2.2.1) ls ((0, x) :: st) h
  | .lload_n i => mm_ld ls i 1 f fun x => K (e.1 + e.2.2.1) ls ((1, x) :: st) h
  | .lload i => mm_ld ls i 1 f fun x => K (e.1 + e.2.2.1) ls ((1, x) :: st) h
  | .aload_n i => mm_la ls i f fun v => K (e.1 + e.2.2.1) ls (v :: st) h
  | .aload i => mm_la ls i f fun v => K (e.1 + e.2.2.1) ls (v :: st) h
  | .istore_n i => mm_t1 st 0 f fun x st => mm_s1 ls i (0, x) f fun ls => K (e.1 + e.2.2.1) ls st h
  | .istore i => mm_t1 st 0 f fun x st => mm_s1 ls i (0, x) f fun ls => K (e.1 + e.2.2.1) ls st h
  | .lstore_n i => mm_t1 st 1 f fun x st => mm_s2 ls i (1, x) f fun ls => K (e.1 + e.2.2.1) ls st h
  | .lstore i => mm_t1 st 1 f fun x st => mm_s2 ls i (1, x) f fun ls => K (e.1 + e.2.2.1) ls st h
  | .astore_n i => mm_an st f fun v st => bif v.1 == 0 then f else mm_s1 ls i v f fun ls => K (e.1 + e.2.2.1) ls st h
  | .astore i => mm_an st f fun v st => bif v.1 == 0 then f else mm_s1 ls i v f fun ls => K (e.1 + e.2.2.1) ls st h
  | .iinc i n => mm_ld ls i 0 f fun x => mm_s1 ls i (0, mm_w (x + n)) f fun ls => K (e.1 + e.2.2.1) ls st h
  | .iadd => mm_t1 st 0 f fun y st => mm_t1 st 0 f fun x st => K (e.1 + e.2.2.1) ls ((0, mm_w (x + y)) :: st) h
  | .isub => mm_t1 st 0 f fun y st => mm_t1 st 0 f fun x st => K (e.1 + e.2.2.1) ls ((0, mm_w (x - y)) :: st) h
  | .imul => mm_t1 st 0 f fun y st => mm_t1 st 0 f fun x st => K (e.1 + e.2.2.1) ls ((0, mm_w (x * y)) :: st) h
  | .idiv => mm_t1 st 0 f fun y st => mm_t1 st 0 f fun x st => if y = 0 then f else K (e.1 + e.2.2.1) ls ((0, mm_div x y) :: st) h
  | .irem => mm_t1 st 0 f fun y st => mm_t1 st 0 f fun x st => if y = 0 then f else K (e.1 + e.2.2.1) ls ((0, mm_rem x y) :: st) h
  | .ineg => mm_t1 st 0 f fun x st => K (e.1 + e.2.2.1) ls ((0, mm_w (-x)) :: st) h
  | .iand => mm_t1 st 0 f fun y st => mm_t1 st 0 f fun x st => K (e.1 + e.2.2.1) ls ((0, mm_and x y) :: st) h
  | .ior => mm_t1 st 0 f fun y st => mm_t1 st 0 f fun x st => K (e.1 + e.2.2.1) ls ((0, mm_or x y) :: st) h
  | .ixor => mm_t1 st 0 f fun y st => mm_t1 st 0 f fun x st => K (e.1 + e.2.2.1) ls ((0, mm_xor x y) :: st) h
  | .ishl => mm_t1 st 0 f fun y st => mm_t1 st 0 f fun x st => K (e.1 + e.2.2.1) ls ((0, mm_shl x y) :: st) h
  | .ishr => mm_t1 st 0 f fun y st => mm_t1 st 0 f fun x st => K (e.1 + e.2.2.1) ls ((0, mm_shr x y) :: st) h
  | .iushr => mm_t1 st 0 f fun y st => mm_t1 st 0 f fun x st => K (e.1 + e.2.2.1) ls ((0, mm_ushr x y) :: st) h
  | .ladd => mm_t1 st 1 f fun y st => mm_t1 st 1 f fun x st => K (e.1 + e.2.2.1) ls ((1, mm_wl (x + y)) :: st) h
  | .lsub => mm_t1 st 1 f fun y st => mm_t1 st 1 f fun x st => K (e.1 + e.2.2.1) ls ((1, mm_wl (x - y)) :: st) h
  | .lmul => mm_t1 st 1 f fun y st => mm_t1 st 1 f fun x st => K (e.1 + e.2.2.1) ls ((1, mm_wl (x * y)) :: st) h
  | .ldiv => mm_t1 st 1 f fun y st => mm_t1 st 1 f fun x st => if y = 0 then f else K (e.1 + e.2.2.1) ls ((1, mm_ldiv x y) :: st) h
  | .lrem => mm_t1 st 1 f fun y st => mm_t1 st 1 f fun x st => if y = 0 then f else K (e.1 + e.2.2.1) ls ((1, mm_lrem x y) :: st) h
  | .lor => mm_t1 st 1 f fun y st => mm_t1 st 1 f fun x st => K (e.1 + e.2.2.1) ls ((1, mm_lor x y) :: st) h
  | .lshl => mm_t1 st 0 f fun y st => mm_t1 st 1 f fun x st => K (e.1 + e.2.2.1) ls ((1, mm_lshl x y) :: st) h
  | .lushr => mm_t1 st 0 f fun y st => mm_t1 st 1 f fun x st => K (e.1 + e.2.2.1) ls ((1, mm_lushr x y) :: st) h
  | .lcmp => mm_t1 st 1 f fun y st => mm_t1 st 1 f fun x st => K (e.1 + e.2.2.1) ls ((0, mm_lcmp x y) :: st) h
  | .i2l => mm_t1 st 0 f fun x st => K (e.1 + e.2.2.1) ls ((1, x) :: st) h
  | .l2i => mm_t1 st 1 f fun x st => K (e.1 + e.2.2.1) ls ((0, mm_w x) :: st) h
  | .i2b => mm_t1 st 0 f fun x st => K (e.1 + e.2.2.1) ls ((0, mm_w8 x) :: st) h
  | .dup => mm_an st f fun v st => K (e.1 + e.2.2.1) ls (v :: v :: st) h
  | .dup2 => mm_an st f fun v st => mm_an st f fun u st => K (e.1 + e.2.2.1) ls (v :: u :: v :: u :: st) h
  | .pop => mm_an st f fun _ st => K (e.1 + e.2.2.1) ls st h
  | .goto o => K (mm_tg e.1 o) ls st h
  | .ifCond .eq o => mm_t1 st 0 f fun x st => if x = 0 then K (mm_tg e.1 o) ls st h else K (e.1 + e.2.2.1) ls st h
  | .ifCond .ne o => mm_t1 st 0 f fun x st => if x = 0 then K (e.1 + e.2.2.1) ls st h else K (mm_tg e.1 o) ls st h
  | .ifCond .lt o => mm_t1 st 0 f fun x st => if x < 0 then K (mm_tg e.1 o) ls st h else K (e.1 + e.2.2.1) ls st h
  | .ifCond .ge o => mm_t1 st 0 f fun x st => if x < 0 then K (e.1 + e.2.2.1) ls st h else K (mm_tg e.1 o) ls st h
  | .ifCond .gt o => mm_t1 st 0 f fun x st => if 0 < x then K (mm_tg e.1 o) ls st h else K (e.1 + e.2.2.1) ls st h
  | .ifCond .le o => mm_t1 st 0 f fun x st => if 0 < x then K (e.1 + e.2.2.1) ls st h else K (mm_tg e.1 o) ls st h
  | .if_icmp .eq o => mm_t1 st 0 f fun y st => mm_t1 st 0 f fun x st => if x = y then K (mm_tg e.1 o) ls st h else K (e.1 + e.2.2.1) ls st h
  | .if_icmp .ne o => mm_t1 st 0 f fun y st => mm_t1 st 0 f fun x st => if x = y then K (e.1 + e.2.2.1) ls st h else K (mm_tg e.1 o) ls st h
  | .if_icmp .lt o => mm_t1 st 0 f fun y st => mm_t1 st 0 f fun x st => if x < y then K (mm_tg e.1 o) ls st h else K (e.1 + e.2.2.1) ls st h
  | .if_icmp .ge o => mm_t1 st 0 f fun y st => mm_t1 st 0 f fun x st => if x < y then K (e.1 + e.2.2.1) ls st h else K (mm_tg e.1 o) ls st h
  | .if_icmp .gt o => mm_t1 st 0 f fun y st => mm_t1 st 0 f fun x st => if y < x then K (mm_tg e.1 o) ls st h else K (e.1 + e.2.2.1) ls st h
  | .if_icmp .le o => mm_t1 st 0 f fun y st => mm_t1 st 0 f fun x st => if y < x then K (e.1 + e.2.2.1) ls st h else K (mm_tg e.1 o) ls st h
  | .if_acmp .eq o => mm_t1 st 2 f fun y st => mm_t1 st 2 f fun x st => bif mm_wr y then (if x = y then K (mm_tg e.1 o) ls st h else K (e.1 + e.2.2.1) ls st h) else f
  | .if_acmp .ne o => mm_t1 st 2 f fun y st => mm_t1 st 2 f fun x st => bif mm_wr y then (if x = y then K (e.1 + e.2.2.1) ls st h else K (mm_tg e.1 o) ls st h) else f
  | .tableswitch d lo _ os => mm_t1 st 0 f fun x st => mm_sw x e.1 (fun pc => K pc ls st h) d lo os.toList
  | .lookupswitch d ps => mm_t1 st 0 f fun x st => mm_lk x e.1 (fun pc => K pc ls st h) d ps.toList
  | .getstatic _ => K (e.1 + e.2.2.1) ls ((e.2.2.2.1.headD 9, e.2.2.2.2) :: st) h
  | .getfield _ => mm_an st f fun v st => bif v.1 == e.2.2.2.1.getD 0 9 then (match e.2.2.2.1.getD 2 9 with
      | 0 => K (e.1 + e.2.2.1) ls ((0, h v.2 (e.2.2.2.1.getD 1 0 : Nat)) :: st) h
      | 1 => K (e.1 + e.2.2.1) ls ((1, h v.2 (e.2.2.2.1.getD 1 0 : Nat)) :: st) h
      | 2 => K (e.1 + e.2.2.1) ls ((2, h v.2 (e.2.2.2.1.getD 1 0 : Nat)) :: st) h
      | 3 => K (e.1 + e.2.2.1) ls ((e.2.2.2.1.getD 3 9, v.2 + (e.2.2.2.1.getD 4 0 : Nat)) :: st) h
      | 4 => bif mm_wr v.2 then K (e.1 + e.2.2.1) ls ((1, mm_key v.2) :: st) h else f
      | _ => f) else f
  | .putfield _ => match e.2.2.2.1.getD 2 9 with
      | 0 => mm_t1 st 0 f fun x st => mm_an st f fun v st => bif v.1 == e.2.2.2.1.getD 0 9 then K (e.1 + e.2.2.1) ls st (mm_up h v.2 (e.2.2.2.1.getD 1 0 : Nat) x) else f
      | 1 => mm_t1 st 1 f fun x st => mm_an st f fun v st => bif v.1 == e.2.2.2.1.getD 0 9 then K (e.1 + e.2.2.1) ls st (mm_up h v.2 (e.2.2.2.1.getD 1 0 : Nat) x) else f
      | 2 => mm_t1 st 2 f fun x st => mm_an st f fun v st => bif v.1 == e.2.2.2.1.getD 0 9 then K (e.1 + e.2.2.1) ls st (mm_up h v.2 (e.2.2.2.1.getD 1 0 : Nat) x) else f
      | 5 => mm_t1 st 0 f fun x st => mm_an st f fun v st => bif v.1 == e.2.2.2.1.getD 0 9 then (if x = 0 ∨ x = 1 then K (e.1 + e.2.2.1) ls st (mm_up h v.2 (e.2.2.2.1.getD 1 0 : Nat) x) else f) else f
      | _ => f
  | .arraylength => mm_t1 st 4 f fun _ st => K (e.1 + e.2.2.1) ls ((0, 36) :: st) h
  | .iaload => mm_t1 st 0 f fun i st => mm_an st f fun v st => bif v.1 == 5 then (if 0 ≤ i ∧ i < 4 then K (e.1 + e.2.2.1) ls ((0, mm_mos i) :: st) h else f) else bif (mm_ak v.1).1 == 0 then (if 0 ≤ i ∧ i < ((mm_ak v.1).2 : Nat) then K (e.1 + e.2.2.1) ls ((0, h v.2 i) :: st) h else f) else f
  | .laload => mm_t1 st 0 f fun i st => mm_an st f fun v st => bif (mm_ak v.1).1 == 1 then (if 0 ≤ i ∧ i < ((mm_ak v.1).2 : Nat) then K (e.1 + e.2.2.1) ls ((1, h v.2 i) :: st) h else f) else f
  | .baload => mm_t1 st 0 f fun i st => mm_an st f fun v st => bif (mm_ak v.1).1 == 3 || (mm_ak v.1).1 == 4 then (if 0 ≤ i ∧ i < ((mm_ak v.1).2 : Nat) then K (e.1 + e.2.2.1) ls ((0, h v.2 i) :: st) h else f) else f
  | .aaload => mm_t1 st 0 f fun i st => mm_an st f fun v st => bif v.1 == 4 then (if 0 ≤ i ∧ i < 36 then K (e.1 + e.2.2.1) ls ((2, i) :: st) h else f) else if 0 ≤ i ∧ i < ((mm_ak v.1).2 : Nat) then (match (mm_ak v.1).1 with
      | 2 => K (e.1 + e.2.2.1) ls ((2, h v.2 i) :: st) h
      | 5 => K (e.1 + e.2.2.1) ls ((12, v.2 + 1 + 4 * i) :: st) h
      | 6 => K (e.1 + e.2.2.1) ls ((16, v.2 + 62 + 19 * i) :: st) h
      | 7 => K (e.1 + e.2.2.1) ls ((27, v.2 + 1 + i) :: st) h
      | _ => f) else f
  | .iastore => mm_t1 st 0 f fun x st => mm_t1 st 0 f fun i st => mm_an st f fun v st => bif (mm_ak v.1).1 == 0 then (if 0 ≤ i ∧ i < ((mm_ak v.1).2 : Nat) then K (e.1 + e.2.2.1) ls st (mm_up h v.2 i x) else f) else f
  | .lastore => mm_t1 st 1 f fun x st => mm_t1 st 0 f fun i st => mm_an st f fun v st => bif (mm_ak v.1).1 == 1 then (if 0 ≤ i ∧ i < ((mm_ak v.1).2 : Nat) then K (e.1 + e.2.2.1) ls st (mm_up h v.2 i x) else f) else f
  | .bastore => mm_t1 st 0 f fun x st => mm_t1 st 0 f fun i st => mm_an st f fun v st => bif (mm_ak v.1).1 == 3 then (if 0 ≤ i ∧ i < ((mm_ak v.1).2 : Nat) then K (e.1 + e.2.2.1) ls st (mm_up h v.2 i (mm_w8 x)) else f) else bif (mm_ak v.1).1 == 4 then (if 0 ≤ i ∧ i < ((mm_ak v.1).2 : Nat) then (if x = 0 ∨ x = 1 then K (e.1 + e.2.2.1) ls st (mm_up h v.2 i x) else f) else f) else f
  | .aastore => mm_t1 st 2 f fun x st => mm_t1 st 0 f fun i st => mm_an st f fun v st => bif (mm_ak v.1).1 == 2 then (if 0 ≤ i ∧ i < ((mm_ak v.1).2 : Nat) then K (e.1 + e.2.2.1) ls st (mm_up h v.2 i x) else f) else f
  | .invokevirtual _ => match e.2.2.2.1.getD 0 9 with
      | 0 => bif decide (e.2.2.2.1.getD 2 0 ≤ st.length) && decide (mm_wd (st.drop (e.2.2.2.1.getD 2 0)) ≤ 8) && ((st.take (e.2.2.2.1.getD 2 0)).getLast?.elim false fun v => v.1 == e.2.2.2.1.getD 4 9) then C (e.2.2.2.1.getD 1 0) ((st.take (e.2.2.2.1.getD 2 0)).reverse) (e.2.2.2.1.getD 3 9) (e.1 + e.2.2.1) ls (st.drop (e.2.2.2.1.getD 2 0)) h else f
      | 1 => mm_t1 st 3 f fun s st => mm_ck st f <| K (e.1 + e.2.2.1) ls ((0, ((mm_txt s).length : Nat)) :: st) h
      | 2 => mm_t1 st 0 f fun i st => mm_t1 st 3 f fun s st => mm_ck st f <| if 0 ≤ i ∧ i < ((mm_txt s).length : Nat) then K (e.1 + e.2.2.1) ls ((0, (mm_txt s).getD i.toNat 0) :: st) h else f
      | _ => f
  | .invokestatic _ => match e.2.2.2.1.getD 0 9 with
      | 0 => bif decide (e.2.2.2.1.getD 2 0 ≤ st.length) && decide (mm_wd (st.drop (e.2.2.2.1.getD 2 0)) ≤ 8) then C (e.2.2.2.1.getD 1 0) ((st.take (e.2.2.2.1.getD 2 0)).reverse) (e.2.2.2.1.getD 3 9) (e.1 + e.2.2.1) ls (st.drop (e.2.2.2.1.getD 2 0)) h else f
      | 1 => mm_t1 st 0 f fun y st => mm_t1 st 0 f fun x st => mm_ck st f <| K (e.1 + e.2.2.1) ls ((0, min x y) :: st) h
      | 2 => mm_t1 st 0 f fun y st => mm_t1 st 0 f fun x st => mm_ck st f <| K (e.1 + e.2.2.1) ls ((0, max x y) :: st) h
      | 3 => mm_t1 st 0 f fun x st => mm_ck st f <| K (e.1 + e.2.2.1) ls ((0, mm_w (if x < 0 then -x else x)) :: st) h
      | 4 => mm_t1 st 0 f fun n st => mm_t1 st 0 f fun j st => mm_an st f fun b st => mm_t1 st 0 f fun i st => mm_an st f fun a st => mm_ck st f <| bif ((mm_ak a.1).1 == 0 || (mm_ak a.1).1 == 1) && (mm_ak b.1).1 == (mm_ak a.1).1 && decide (0 ≤ i ∧ 0 ≤ j ∧ 0 ≤ n ∧ i + n ≤ ((mm_ak a.1).2 : Nat) ∧ j + n ≤ ((mm_ak b.1).2 : Nat)) then K (e.1 + e.2.2.1) ls st (mm_cp h a.2 i b.2 j n) else f
      | _ => f
  | .ireturn => mm_t1 st 0 f fun x st => mm_nl st f (bif e.2.2.2.1.headD 0 == 5 then (if x = 0 ∨ x = 1 then r x h else f) else r x h)
  | .lreturn => mm_t1 st 1 f fun x st => mm_nl st f (r x h)
  | .areturn => mm_t1 st 2 f fun x st => mm_nl st f (r x h)
  | .return_ => mm_nl st f (r 0 h)
  | _ => f
/-- the rows of a method's code, by the place -/
def mm_at (c : List mm_E) (pc : Nat) : Option mm_E := c.find? fun e => e.1 == pc
end
section
/-! Runs of the small machine -/
abbrev mm_P : Type := Nat → List mm_E × Nat
def mm_en : List mm_V → List mm_V
  | [] => []
  | v :: r => bif v.1 == 1 then v :: (9, 0) :: mm_en r else v :: mm_en r
def mm_fr (n : Nat) (as : List mm_V) : List mm_V := mm_en as ++ List.replicate (n - (mm_en as).length) (9, 0)
def mm_x (P : mm_P) : Nat → Nat → List mm_E → Nat → List mm_V → List mm_V → mm_H → Option mm_O
  | 0, _, _, _, _, _, _ => none
  | n + 1, d, c, pc, ls, st, h => match mm_at c pc with
    | none => none
    | some e => mm_F none (fun x h => some (x, h)) (fun pc ls st h => mm_x P n d c pc ls st h) (fun q as t pc ls st h => match d with
      | 0 => none
      | d' + 1 => bif decide ((mm_en as).length ≤ (P q).2) then (mm_x P n d' (P q).1 0 (mm_fr (P q).2 as) [] h).bind fun o => mm_x P n d c pc ls (mm_pu t o.1 st) o.2 else none) e ls st h
abbrev mm_S : Type := Option (mm_O ⊕ ((Nat × List mm_V × List mm_V × mm_H) ⊕ (Nat × List mm_V × Nat × Nat × List mm_V × List mm_V × mm_H)))
def mm_st (e : mm_E) (ls st : List mm_V) (h : mm_H) : mm_S := mm_F none (fun x h => some (.inl (x, h))) (fun pc ls st h => some (.inr (.inl (pc, ls, st, h)))) (fun q as t pc ls st h => some (.inr (.inr (q, as, t, pc, ls, st, h)))) e ls st h
theorem mm_t1_nat {α β : Type} (φ : α → β) (st : List mm_V) (t : Nat) (f : α) (k : Int → List mm_V → α) : φ (mm_t1 st t f k) = mm_t1 st t (φ f) (fun x r => φ (k x r)) := by
  unfold mm_t1
  cases st with
  | nil => rfl
  | cons v r => simp only; cases v.1 == t <;> rfl
theorem mm_an_nat {α β : Type} (φ : α → β) (st : List mm_V) (f : α) (k : mm_V → List mm_V → α) : φ (mm_an st f k) = mm_an st (φ f) (fun x r => φ (k x r)) := by
  unfold mm_an
  cases st with
  | nil => rfl
  | cons v r => simp only; cases (v.1 == 1 || v.1 == 9) <;> rfl
theorem mm_nl_nat {α β : Type} (φ : α → β) (st : List mm_V) (f k : α) : φ (mm_nl st f k) = mm_nl st (φ f) (φ k) := by
  unfold mm_nl
  cases st <;> rfl
theorem mm_ld_nat {α β : Type} (φ : α → β) (ls : List mm_V) (i t : Nat) (f : α) (k : Int → α) : φ (mm_ld ls i t f k) = mm_ld ls i t (φ f) (fun x => φ (k x)) := by
  unfold mm_ld
  cases ls[i]? with
  | none => rfl
  | some v => simp only; cases v.1 == t <;> rfl
theorem mm_la_nat {α β : Type} (φ : α → β) (ls : List mm_V) (i : Nat) (f : α) (k : mm_V → α) : φ (mm_la ls i f k) = mm_la ls i (φ f) (fun x => φ (k x)) := by
  unfold mm_la
  cases ls[i]? with
  | none => rfl
  | some v => simp only; cases (v.1 == 0 || v.1 == 1 || v.1 == 9) <;> rfl
theorem mm_s1_nat {α β : Type} (φ : α → β) (ls : List mm_V) (i : Nat) (v : mm_V) (f : α) (k : List mm_V → α) : φ (mm_s1 ls i v f k) = mm_s1 ls i v (φ f) (fun x => φ (k x)) := by
  unfold mm_s1
  cases (decide (i < ls.length) && mm_pv ls i) <;> rfl
theorem mm_s2_nat {α β : Type} (φ : α → β) (ls : List mm_V) (i : Nat) (v : mm_V) (f : α) (k : List mm_V → α) : φ (mm_s2 ls i v f k) = mm_s2 ls i v (φ f) (fun x => φ (k x)) := by
  unfold mm_s2
  cases (decide (i + 1 < ls.length) && mm_pv ls i) <;> rfl
theorem mm_ck_nat {α β : Type} (φ : α → β) (st : List mm_V) (f k : α) : φ (mm_ck st f k) = mm_ck st (φ f) (φ k) := by
  unfold mm_ck
  cases decide (mm_wd st ≤ 20) <;> rfl
theorem mm_if_nat {α β : Type} (φ : α → β) (c : Prop) [Decidable c] (a b : α) : φ (if c then a else b) = if c then φ a else φ b := by
  split <;> rfl
theorem mm_bf_nat {α β : Type} (φ : α → β) (c : Bool) (a b : α) : φ (bif c then a else b) = bif c then φ a else φ b := by
  cases c <;> rfl
theorem mm_sw_nat {α β : Type} (φ : α → β) (x : Int) (pc : Nat) (K : Nat → α) (d : Int) : ∀ (os : List Int) (lo : Int), φ (mm_sw x pc K d lo os) = mm_sw x pc (fun q => φ (K q)) d lo os
  | [], lo => rfl
  | o :: os, lo => by
    show φ (if x = lo then K (mm_tg pc o) else mm_sw x pc K d (lo + 1) os) = if x = lo then φ (K (mm_tg pc o)) else mm_sw x pc (fun q => φ (K q)) d (lo + 1) os
    rw [mm_if_nat φ, mm_sw_nat φ x pc K d os (lo + 1)]
theorem mm_lk_nat {α β : Type} (φ : α → β) (x : Int) (pc : Nat) (K : Nat → α) (d : Int) : ∀ (os : List (Int × Int)), φ (mm_lk x pc K d os) = mm_lk x pc (fun q => φ (K q)) d os
  | [] => rfl
  | o :: os => by
    show φ (if x = o.1 then K (mm_tg pc o.2) else mm_lk x pc K d os) = if x = o.1 then φ (K (mm_tg pc o.2)) else mm_lk x pc (fun q => φ (K q)) d os
    rw [mm_if_nat φ, mm_lk_nat φ x pc K d os]
set_option maxHeartbeats 4000000 in
set_option maxRecDepth 100000 in
theorem mm_F_nat {α β : Type} (φ : α → β) (f : α) (r : Int → mm_H → α) (K : Nat → List mm_V → List mm_V → mm_H → α) (C : Nat → List mm_V → Nat → Nat → List mm_V → List mm_V → mm_H → α) (e : mm_E) (ls st : List mm_V) (h : mm_H) :
    φ (mm_F f r K C e ls st h) = mm_F (φ f) (fun x h => φ (r x h)) (fun pc ls st h => φ (K pc ls st h)) (fun q as t pc ls st h => φ (C q as t pc ls st h)) e ls st h := by
  obtain ⟨pc, ins, len, aux, val⟩ := e
  cases ins
  case ifCond c o => cases c <;> simp only [mm_F, mm_t1_nat φ, mm_if_nat φ]
  case if_icmp c o => cases c <;> simp only [mm_F, mm_t1_nat φ, mm_if_nat φ]
  case if_acmp c o => cases c <;> simp only [mm_F, mm_t1_nat φ, mm_if_nat φ, mm_bf_nat φ]
  case getfield i =>
    simp only [mm_F]
    split <;> simp only [mm_an_nat φ, mm_bf_nat φ]
  case putfield i =>
    simp only [mm_F]
    split <;> simp only [mm_t1_nat φ, mm_an_nat φ, mm_bf_nat φ, mm_if_nat φ, mm_ck_nat φ]
  case aaload =>
    simp only [mm_F, mm_t1_nat φ, mm_an_nat φ, mm_bf_nat φ, mm_if_nat φ, mm_ck_nat φ]
    congr 1; funext i st; congr 1; funext v st; congr 1; split <;> first | rfl | (split <;> rfl)
  case invokevirtual i =>
    simp only [mm_F]
    split <;> simp only [mm_t1_nat φ, mm_an_nat φ, mm_bf_nat φ, mm_if_nat φ, mm_ck_nat φ]
  case invokestatic i =>
    simp only [mm_F]
    split <;> simp only [mm_t1_nat φ, mm_an_nat φ, mm_bf_nat φ, mm_if_nat φ, mm_ck_nat φ]
  all_goals first | rfl | simp only [mm_F, mm_t1_nat φ, mm_an_nat φ, mm_nl_nat φ, mm_ld_nat φ, mm_la_nat φ, mm_s1_nat φ, mm_s2_nat φ, mm_if_nat φ, mm_bf_nat φ, mm_sw_nat φ, mm_lk_nat φ]
theorem mm_F_st {α : Type} (f : α) (r : Int → mm_H → α) (K : Nat → List mm_V → List mm_V → mm_H → α) (C : Nat → List mm_V → Nat → Nat → List mm_V → List mm_V → mm_H → α) (e : mm_E) (ls st : List mm_V) (h : mm_H) :
    mm_F f r K C e ls st h = match mm_st e ls st h with
      | none => f
      | some (.inl o) => r o.1 o.2
      | some (.inr (.inl s)) => K s.1 s.2.1 s.2.2.1 s.2.2.2
      | some (.inr (.inr s)) => C s.1 s.2.1 s.2.2.1 s.2.2.2.1 s.2.2.2.2.1 s.2.2.2.2.2.1 s.2.2.2.2.2.2 :=
  (mm_F_nat (fun z : mm_S => match z with
      | none => f
      | some (.inl o) => r o.1 o.2
      | some (.inr (.inl s)) => K s.1 s.2.1 s.2.2.1 s.2.2.2
      | some (.inr (.inr s)) => C s.1 s.2.1 s.2.2.1 s.2.2.2.1 s.2.2.2.2.1 s.2.2.2.2.2.1 s.2.2.2.2.2.2) none (fun x h => some (.inl (x, h))) (fun pc ls st h => some (.inr (.inl (pc, ls, st, h)))) (fun q as t pc ls st h => some (.inr (.inr (q, as, t, pc, ls, st, h)))) e ls st h).symm
/-- what a call does in a run, by what a method does -/
def mm_cl (P : mm_P) (d : Nat) (X : Nat → List mm_E → Nat → List mm_V → List mm_V → mm_H → Option mm_O) (k : Nat → List mm_V → List mm_V → mm_H → Option mm_O) (q : Nat) (as : List mm_V) (t pc : Nat) (ls st : List mm_V) (h : mm_H) : Option mm_O := match d with
  | 0 => none
  | d' + 1 => bif decide ((mm_en as).length ≤ (P q).2) then (X d' (P q).1 0 (mm_fr (P q).2 as) [] h).bind fun o => k pc ls (mm_pu t o.1 st) o.2 else none
theorem mm_x_S (P : mm_P) (n d : Nat) (c : List mm_E) (pc : Nat) (ls st : List mm_V) (h : mm_H) : mm_x P (n + 1) d c pc ls st h = match mm_at c pc with
    | none => none
    | some e => match mm_st e ls st h with
      | none => none
      | some (.inl o) => some o
      | some (.inr (.inl s)) => mm_x P n d c s.1 s.2.1 s.2.2.1 s.2.2.2
      | some (.inr (.inr s)) => mm_cl P d (mm_x P n) (mm_x P n d c) s.1 s.2.1 s.2.2.1 s.2.2.2.1 s.2.2.2.2.1 s.2.2.2.2.2.1 s.2.2.2.2.2.2 := by
  rw [mm_x]
  cases mm_at c pc with
  | none => rfl
  | some e => exact mm_F_st _ _ _ _ e ls st h
theorem mm_x_up (P : mm_P) : ∀ (n d : Nat) (c : List mm_E) (pc : Nat) (ls st : List mm_V) (h : mm_H) (o : mm_O), mm_x P n d c pc ls st h = some o → mm_x P (n + 1) d c pc ls st h = some o
  | 0, _, _, _, _, _, _, _, q => by simp [mm_x] at q
  | n + 1, d, c, pc, ls, st, h, o, q => by
    rw [mm_x_S] at q ⊢
    cases h1 : mm_at c pc with
    | none => rw [h1] at q; cases q
    | some e =>
      rw [h1] at q
      simp only at q ⊢
      cases h2 : mm_st e ls st h with
      | none => rw [h2] at q; cases q
      | some z =>
        rw [h2] at q
        rcases z with z | z | z
        · exact q
        · exact mm_x_up P n d c _ _ _ _ o q
        · simp only [mm_cl] at q ⊢
          cases d with
          | zero => cases q
          | succ d' =>
            simp only at q ⊢
            cases e9 : decide ((mm_en z.2.1).length ≤ (P z.1).2) with
            | false => rw [e9] at q; cases q
            | true =>
              rw [e9] at q
              simp only [cond_true, Option.bind_eq_some_iff] at q ⊢
              obtain ⟨o1, q1, q2⟩ := q
              exact ⟨o1, mm_x_up P n d' _ _ _ _ _ o1 q1, mm_x_up P n (d' + 1) c _ _ _ _ o q2⟩
theorem mm_x_le (P : mm_P) {n m d : Nat} {c : List mm_E} {pc : Nat} {ls st : List mm_V} {h : mm_H} {o : mm_O} (hnm : n ≤ m) (q : mm_x P n d c pc ls st h = some o) : mm_x P m d c pc ls st h = some o := by
  induction hnm with
  | refl => exact q
  | step _ ih => exact mm_x_up P _ d c pc ls st h o ih
noncomputable def mm_R (P : mm_P) (d : Nat) (c : List mm_E) (pc : Nat) (ls st : List mm_V) (h : mm_H) : Option mm_O :=
  @dite _ (∃ o, ∃ n, mm_x P n d c pc ls st h = some o) (Classical.propDecidable _) (fun q => some (Classical.choose q)) (fun _ => none)
theorem mm_R_iff (P : mm_P) (d : Nat) (c : List mm_E) (pc : Nat) (ls st : List mm_V) (h : mm_H) (o : mm_O) : mm_R P d c pc ls st h = some o ↔ ∃ n, mm_x P n d c pc ls st h = some o := by
  unfold mm_R
  constructor
  · intro q
    split at q
    case isTrue hq =>
      cases q
      exact Classical.choose_spec hq
    case isFalse hq => cases q
  · rintro ⟨n, q⟩
    have hq : ∃ o, ∃ n, mm_x P n d c pc ls st h = some o := ⟨o, n, q⟩
    rw [dif_pos hq]
    obtain ⟨m, q2⟩ := Classical.choose_spec hq
    have a := mm_x_le P (Nat.le_max_left n m) q
    have b := mm_x_le P (Nat.le_max_right n m) q2
    rw [a] at b
    exact b.symm
theorem mm_R_ext {a b : Option mm_O} (h : ∀ o, a = some o ↔ b = some o) : a = b := Option.ext h
theorem mm_R_eq (P : mm_P) (d : Nat) (c : List mm_E) (pc : Nat) (ls st : List mm_V) (h : mm_H) : mm_R P d c pc ls st h = match mm_at c pc with
    | none => none
    | some e => mm_F none (fun x h => some (x, h)) (mm_R P d c) (mm_cl P d (mm_R P) (mm_R P d c)) e ls st h := by
  apply mm_R_ext
  intro o
  rw [mm_R_iff]
  cases h1 : mm_at c pc with
  | none =>
    constructor
    · rintro ⟨n, q⟩
      cases n with
      | zero => simp [mm_x] at q
      | succ n => rw [mm_x_S, h1] at q; cases q
    · intro q; cases q
  | some e =>
    simp only
    rw [mm_F_st]
    have hS : (∃ n, mm_x P n d c pc ls st h = some o) ↔ ∃ n, mm_x P (n + 1) d c pc ls st h = some o := by
      constructor
      · rintro ⟨n, q⟩
        exact ⟨n, mm_x_up P n d c pc ls st h o q⟩
      · rintro ⟨n, q⟩
        exact ⟨n + 1, q⟩
    rw [hS]
    simp only [mm_x_S, h1]
    cases mm_st e ls st h with
    | none => simp
    | some z =>
      rcases z with z | z | z
      · simp
      · exact (mm_R_iff P d c _ _ _ _ o).symm
      · simp only [mm_cl]
        cases d with
        | zero => simp
        | succ d' =>
          simp only
          cases e9 : decide ((mm_en z.2.1).length ≤ (P z.1).2) with
          | false => simp
          | true =>
          simp only [cond_true, Option.bind_eq_some_iff, mm_R_iff]
          constructor
          · rintro ⟨n, o1, q1, q2⟩
            exact ⟨o1, ⟨n, q1⟩, ⟨n, q2⟩⟩
          · rintro ⟨o1, ⟨n1, q1⟩, ⟨n2, q2⟩⟩
            exact ⟨max n1 n2, o1, mm_x_le P (Nat.le_max_left _ _) q1, mm_x_le P (Nat.le_max_right _ _) q2⟩
/-- a method's run at depth d: its callees' are at the depth below -/
noncomputable def mm_M (P : mm_P) (d q : Nat) (as : List mm_V) (h : mm_H) : Option mm_O := match d with
  | 0 => none
  | d' + 1 => bif decide ((mm_en as).length ≤ (P q).2) then mm_R P d' (P q).1 0 (mm_fr (P q).2 as) [] h else none
theorem mm_cl_M (P : mm_P) (d : Nat) (k : Nat → List mm_V → List mm_V → mm_H → Option mm_O) (q : Nat) (as : List mm_V) (t pc : Nat) (ls st : List mm_V) (h : mm_H) : mm_cl P d (mm_R P) k q as t pc ls st h = (mm_M P d q as h).bind fun o => k pc ls (mm_pu t o.1 st) o.2 := by
  cases d with
  | zero => rfl
  | succ d' =>
    simp only [mm_cl, mm_M]
    cases decide ((mm_en as).length ≤ (P q).2) <;> rfl
theorem mm_R_eqM (P : mm_P) (d : Nat) (c : List mm_E) (pc : Nat) (ls st : List mm_V) (h : mm_H) : mm_R P d c pc ls st h = match mm_at c pc with
    | none => none
    | some e => mm_F none (fun x h => some (x, h)) (fun pc ls st h => mm_R P d c pc ls st h) (fun q as t pc ls st h => (mm_M P d q as h).bind fun o => mm_R P d c pc ls (mm_pu t o.1 st) o.2) e ls st h := by
  rw [mm_R_eq]
  have e1 : mm_cl P d (mm_R P) (mm_R P d c) = fun q as t pc ls st h => (mm_M P d q as h).bind fun o => mm_R P d c pc ls (mm_pu t o.1 st) o.2 := by
    funext q as t pc ls st h
    exact mm_cl_M P d _ q as t pc ls st h
  rw [e1]
/-- a stretch of at most k steps, that ends ahead of the places S -/
noncomputable def mm_it (P : mm_P) (S : List Nat) (d : Nat) (c : List mm_E) : Nat → Nat → List mm_V → List mm_V → mm_H → Option mm_O
  | 0, pc, ls, st, h => mm_R P d c pc ls st h
  | k + 1, pc, ls, st, h => bif S.elem pc then mm_R P d c pc ls st h else match mm_at c pc with
    | none => none
    | some e => mm_F none (fun x h => some (x, h)) (fun pc ls st h => mm_it P S d c k pc ls st h) (fun q as t pc ls st h => (mm_M P d q as h).bind fun o => mm_it P S d c k pc ls (mm_pu t o.1 st) o.2) e ls st h
theorem mm_it_R (P : mm_P) (S : List Nat) (d : Nat) (c : List mm_E) : ∀ (k pc : Nat) (ls st : List mm_V) (h : mm_H), mm_it P S d c k pc ls st h = mm_R P d c pc ls st h
  | 0, _, _, _, _ => rfl
  | k + 1, pc, ls, st, h => by
    rw [mm_it]
    cases S.elem pc with
    | true => rfl
    | false =>
      have e1 : mm_it P S d c k = mm_R P d c := by
        funext pc ls st h
        exact mm_it_R P S d c k pc ls st h
      rw [mm_R_eqM]
      simp only [e1, cond_false]
/-- the first step, then a stretch -/
noncomputable def mm_go (P : mm_P) (S : List Nat) (d : Nat) (c : List mm_E) (k pc : Nat) (ls st : List mm_V) (h : mm_H) : Option mm_O := match mm_at c pc with
    | none => none
    | some e => mm_F none (fun x h => some (x, h)) (fun pc ls st h => mm_it P S d c k pc ls st h) (fun q as t pc ls st h => (mm_M P d q as h).bind fun o => mm_it P S d c k pc ls (mm_pu t o.1 st) o.2) e ls st h
theorem mm_go_R (P : mm_P) (S : List Nat) (d : Nat) (c : List mm_E) (k pc : Nat) (ls st : List mm_V) (h : mm_H) : mm_R P d c pc ls st h = mm_go P S d c k pc ls st h := by
  have e1 : mm_it P S d c k = mm_R P d c := by
    funext pc ls st h
    exact mm_it_R P S d c k pc ls st h
  rw [mm_R_eqM, mm_go]
  simp only [e1]
end
