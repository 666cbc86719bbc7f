section
-- ===== PART A: goes FIRST, ahead of the names: the tables' words, and 'selects' of the private methods out of them =====
/-- a private method of a class that the tables say can be made, by its rows of tables_1 -/
def lw_okq (q : MethodName × Nat) : Prop := (q.1.cls ≠ "java/lang/invoke/MethodHandle" ∧ q.1.cls ≠ "java/lang/invoke/VarHandle") ∧ Cond.instantiable q.1.cls q.2 ∈ tables_1 ∧ Cond.privateMethod q.1 ∈ tables_1 ∧ Cond.instanceMethod q.1 ∈ tables_1
theorem lw_p0 : lw_okq (⟨"HiccupTown$Tape", "skipBlanks", "()V"⟩, 10) := ⟨⟨by decide +kernel, by decide +kernel⟩, List.mem_of_getElem? (i := 34) (by decide +kernel), List.mem_of_getElem? (i := 436) (by decide +kernel), List.mem_of_getElem? (i := 437) (by decide +kernel)⟩
theorem lw_p1 : lw_okq (⟨"HiccupTown$Tape", "readToken", "()V"⟩, 10) := ⟨⟨by decide +kernel, by decide +kernel⟩, List.mem_of_getElem? (i := 34) (by decide +kernel), List.mem_of_getElem? (i := 442) (by decide +kernel), List.mem_of_getElem? (i := 443) (by decide +kernel)⟩
theorem lw_p2 : lw_okq (⟨"HiccupTown$Tape", "joinLetters", "()V"⟩, 10) := ⟨⟨by decide +kernel, by decide +kernel⟩, List.mem_of_getElem? (i := 34) (by decide +kernel), List.mem_of_getElem? (i := 450) (by decide +kernel), List.mem_of_getElem? (i := 451) (by decide +kernel)⟩
theorem lw_p3 : lw_okq (⟨"HiccupTown$Tape", "joinDigits", "()V"⟩, 10) := ⟨⟨by decide +kernel, by decide +kernel⟩, List.mem_of_getElem? (i := 34) (by decide +kernel), List.mem_of_getElem? (i := 456) (by decide +kernel), List.mem_of_getElem? (i := 457) (by decide +kernel)⟩
theorem lw_p4 : lw_okq (⟨"HiccupTown$TownReader", "readLine", "(LHiccupTown$Tape;)Z"⟩, 3) := ⟨⟨by decide +kernel, by decide +kernel⟩, List.mem_of_getElem? (i := 84) (by decide +kernel), List.mem_of_getElem? (i := 476) (by decide +kernel), List.mem_of_getElem? (i := 477) (by decide +kernel)⟩
theorem lw_p5 : lw_okq (⟨"HiccupTown$TownReader", "readRing", "(LHiccupTown$Tape;)Z"⟩, 3) := ⟨⟨by decide +kernel, by decide +kernel⟩, List.mem_of_getElem? (i := 84) (by decide +kernel), List.mem_of_getElem? (i := 482) (by decide +kernel), List.mem_of_getElem? (i := 483) (by decide +kernel)⟩
theorem lw_p6 : lw_okq (⟨"HiccupTown$TownReader", "readGap", "(LHiccupTown$Tape;)Z"⟩, 3) := ⟨⟨by decide +kernel, by decide +kernel⟩, List.mem_of_getElem? (i := 84) (by decide +kernel), List.mem_of_getElem? (i := 502) (by decide +kernel), List.mem_of_getElem? (i := 503) (by decide +kernel)⟩
theorem lw_p7 : lw_okq (⟨"HiccupTown$TownReader", "readCousin", "(LHiccupTown$Tape;)Z"⟩, 3) := ⟨⟨by decide +kernel, by decide +kernel⟩, List.mem_of_getElem? (i := 84) (by decide +kernel), List.mem_of_getElem? (i := 508) (by decide +kernel), List.mem_of_getElem? (i := 509) (by decide +kernel)⟩
theorem lw_p8 : lw_okq (⟨"HiccupTown$TownReader", "readNewOne", "(LHiccupTown$Tape;I)I"⟩, 3) := ⟨⟨by decide +kernel, by decide +kernel⟩, List.mem_of_getElem? (i := 84) (by decide +kernel), List.mem_of_getElem? (i := 512) (by decide +kernel), List.mem_of_getElem? (i := 513) (by decide +kernel)⟩
theorem lw_p9 : lw_okq (⟨"HiccupTown$TownReader", "readPerson", "(LHiccupTown$Tape;)Z"⟩, 3) := ⟨⟨by decide +kernel, by decide +kernel⟩, List.mem_of_getElem? (i := 84) (by decide +kernel), List.mem_of_getElem? (i := 537) (by decide +kernel), List.mem_of_getElem? (i := 538) (by decide +kernel)⟩
theorem lw_p10 : lw_okq (⟨"HiccupTown$TownReader", "readWork", "(LHiccupTown$Tape;)Z"⟩, 3) := ⟨⟨by decide +kernel, by decide +kernel⟩, List.mem_of_getElem? (i := 84) (by decide +kernel), List.mem_of_getElem? (i := 545) (by decide +kernel), List.mem_of_getElem? (i := 546) (by decide +kernel)⟩
theorem lw_p11 : lw_okq (⟨"HiccupTown$TownReader", "readAfter", "(LHiccupTown$Tape;)Z"⟩, 3) := ⟨⟨by decide +kernel, by decide +kernel⟩, List.mem_of_getElem? (i := 84) (by decide +kernel), List.mem_of_getElem? (i := 551) (by decide +kernel), List.mem_of_getElem? (i := 552) (by decide +kernel)⟩
theorem lw_p12 : lw_okq (⟨"HiccupTown$TownReader", "readThing", "(LHiccupTown$Tape;)Z"⟩, 3) := ⟨⟨by decide +kernel, by decide +kernel⟩, List.mem_of_getElem? (i := 84) (by decide +kernel), List.mem_of_getElem? (i := 566) (by decide +kernel), List.mem_of_getElem? (i := 567) (by decide +kernel)⟩
theorem lw_p13 : lw_okq (⟨"HiccupTown", "endText", "()Z"⟩, 15) := ⟨⟨by decide +kernel, by decide +kernel⟩, List.mem_of_getElem? (i := 26) (by decide +kernel), List.mem_of_getElem? (i := 576) (by decide +kernel), List.mem_of_getElem? (i := 577) (by decide +kernel)⟩
theorem lw_p14 : lw_okq (⟨"HiccupTown", "actKept", "(II)I"⟩, 15) := ⟨⟨by decide +kernel, by decide +kernel⟩, List.mem_of_getElem? (i := 26) (by decide +kernel), List.mem_of_getElem? (i := 655) (by decide +kernel), List.mem_of_getElem? (i := 656) (by decide +kernel)⟩
theorem lw_p15 : lw_okq (⟨"HiccupTown$Moment", "takeFright", "(LHiccupTown$Plan;)I"⟩, 9) := ⟨⟨by decide +kernel, by decide +kernel⟩, List.mem_of_getElem? (i := 180) (by decide +kernel), List.mem_of_getElem? (i := 668) (by decide +kernel), List.mem_of_getElem? (i := 669) (by decide +kernel)⟩
def lw_privs_1 : List (MethodName × Nat) := [(⟨"HiccupTown$Tape", "skipBlanks", "()V"⟩, 10), (⟨"HiccupTown$Tape", "readToken", "()V"⟩, 10), (⟨"HiccupTown$Tape", "joinLetters", "()V"⟩, 10), (⟨"HiccupTown$Tape", "joinDigits", "()V"⟩, 10), (⟨"HiccupTown$TownReader", "readLine", "(LHiccupTown$Tape;)Z"⟩, 3), (⟨"HiccupTown$TownReader", "readRing", "(LHiccupTown$Tape;)Z"⟩, 3), (⟨"HiccupTown$TownReader", "readGap", "(LHiccupTown$Tape;)Z"⟩, 3), (⟨"HiccupTown$TownReader", "readCousin", "(LHiccupTown$Tape;)Z"⟩, 3), (⟨"HiccupTown$TownReader", "readNewOne", "(LHiccupTown$Tape;I)I"⟩, 3), (⟨"HiccupTown$TownReader", "readPerson", "(LHiccupTown$Tape;)Z"⟩, 3), (⟨"HiccupTown$TownReader", "readWork", "(LHiccupTown$Tape;)Z"⟩, 3), (⟨"HiccupTown$TownReader", "readAfter", "(LHiccupTown$Tape;)Z"⟩, 3), (⟨"HiccupTown$TownReader", "readThing", "(LHiccupTown$Tape;)Z"⟩, 3), (⟨"HiccupTown", "endText", "()Z"⟩, 15), (⟨"HiccupTown", "actKept", "(II)I"⟩, 15), (⟨"HiccupTown$Moment", "takeFright", "(LHiccupTown$Plan;)I"⟩, 9)]
theorem lw_r1 : ∀ q ∈ lw_privs_1, lw_okq q := List.forall_mem_cons.mpr ⟨lw_p0, List.forall_mem_cons.mpr ⟨lw_p1, List.forall_mem_cons.mpr ⟨lw_p2, List.forall_mem_cons.mpr ⟨lw_p3, List.forall_mem_cons.mpr ⟨lw_p4, List.forall_mem_cons.mpr ⟨lw_p5, List.forall_mem_cons.mpr ⟨lw_p6, List.forall_mem_cons.mpr ⟨lw_p7, List.forall_mem_cons.mpr ⟨lw_p8, List.forall_mem_cons.mpr ⟨lw_p9, List.forall_mem_cons.mpr ⟨lw_p10, List.forall_mem_cons.mpr ⟨lw_p11, List.forall_mem_cons.mpr ⟨lw_p12, List.forall_mem_cons.mpr ⟨lw_p13, List.forall_mem_cons.mpr ⟨lw_p14, List.forall_mem_cons.mpr ⟨lw_p15, fun _ h => absurd h List.not_mem_nil⟩⟩⟩⟩⟩⟩⟩⟩⟩⟩⟩⟩⟩⟩⟩⟩
theorem lw_p16 : lw_okq (⟨"HiccupTown$Moment", "takeCure", "()I"⟩, 9) := ⟨⟨by decide +kernel, by decide +kernel⟩, List.mem_of_getElem? (i := 180) (by decide +kernel), List.mem_of_getElem? (i := 675) (by decide +kernel), List.mem_of_getElem? (i := 676) (by decide +kernel)⟩
theorem lw_p17 : lw_okq (⟨"HiccupTown$Moment", "takeFly", "()I"⟩, 9) := ⟨⟨by decide +kernel, by decide +kernel⟩, List.mem_of_getElem? (i := 180) (by decide +kernel), List.mem_of_getElem? (i := 679) (by decide +kernel), List.mem_of_getElem? (i := 680) (by decide +kernel)⟩
theorem lw_p18 : lw_okq (⟨"HiccupTown$Moment", "changeBeater", "(LHiccupTown$Plan;I)I"⟩, 9) := ⟨⟨by decide +kernel, by decide +kernel⟩, List.mem_of_getElem? (i := 180) (by decide +kernel), List.mem_of_getElem? (i := 683) (by decide +kernel), List.mem_of_getElem? (i := 684) (by decide +kernel)⟩
theorem lw_p19 : lw_okq (⟨"HiccupTown$Moment", "goOut", "(I)I"⟩, 9) := ⟨⟨by decide +kernel, by decide +kernel⟩, List.mem_of_getElem? (i := 180) (by decide +kernel), List.mem_of_getElem? (i := 687) (by decide +kernel), List.mem_of_getElem? (i := 688) (by decide +kernel)⟩
theorem lw_p20 : lw_okq (⟨"HiccupTown$Moment", "comeIn", "(LHiccupTown$Plan;I)I"⟩, 9) := ⟨⟨by decide +kernel, by decide +kernel⟩, List.mem_of_getElem? (i := 180) (by decide +kernel), List.mem_of_getElem? (i := 695) (by decide +kernel), List.mem_of_getElem? (i := 696) (by decide +kernel)⟩
theorem lw_p21 : lw_okq (⟨"HiccupTown$Moment", "somebodyWalksAt", "(LHiccupTown$Plan;I)Z"⟩, 9) := ⟨⟨by decide +kernel, by decide +kernel⟩, List.mem_of_getElem? (i := 180) (by decide +kernel), List.mem_of_getElem? (i := 699) (by decide +kernel), List.mem_of_getElem? (i := 700) (by decide +kernel)⟩
theorem lw_p22 : lw_okq (⟨"HiccupTown$Moment", "passAll", "(LHiccupTown$Plan;I)I"⟩, 9) := ⟨⟨by decide +kernel, by decide +kernel⟩, List.mem_of_getElem? (i := 180) (by decide +kernel), List.mem_of_getElem? (i := 703) (by decide +kernel), List.mem_of_getElem? (i := 704) (by decide +kernel)⟩
theorem lw_p23 : lw_okq (⟨"HiccupTown$Moment", "passSecond", "(LHiccupTown$Plan;)V"⟩, 9) := ⟨⟨by decide +kernel, by decide +kernel⟩, List.mem_of_getElem? (i := 180) (by decide +kernel), List.mem_of_getElem? (i := 711) (by decide +kernel), List.mem_of_getElem? (i := 712) (by decide +kernel)⟩
theorem lw_p24 : lw_okq (⟨"HiccupTown$Moment", "beat", "(LHiccupTown$Plan;)V"⟩, 9) := ⟨⟨by decide +kernel, by decide +kernel⟩, List.mem_of_getElem? (i := 180) (by decide +kernel), List.mem_of_getElem? (i := 715) (by decide +kernel), List.mem_of_getElem? (i := 716) (by decide +kernel)⟩
theorem lw_p25 : lw_okq (⟨"HiccupTown", "keepBefore", "(Z)V"⟩, 15) := ⟨⟨by decide +kernel, by decide +kernel⟩, List.mem_of_getElem? (i := 26) (by decide +kernel), List.mem_of_getElem? (i := 726) (by decide +kernel), List.mem_of_getElem? (i := 727) (by decide +kernel)⟩
theorem lw_p26 : lw_okq (⟨"HiccupTown$Clues", "keepBounds", "()V"⟩, 4) := ⟨⟨by decide +kernel, by decide +kernel⟩, List.mem_of_getElem? (i := 289) (by decide +kernel), List.mem_of_getElem? (i := 813) (by decide +kernel), List.mem_of_getElem? (i := 814) (by decide +kernel)⟩
theorem lw_p27 : lw_okq (⟨"HiccupTown$Clues", "thingToLookAt", "(LHiccupTown$Plan;)I"⟩, 4) := ⟨⟨by decide +kernel, by decide +kernel⟩, List.mem_of_getElem? (i := 289) (by decide +kernel), List.mem_of_getElem? (i := 817) (by decide +kernel), List.mem_of_getElem? (i := 818) (by decide +kernel)⟩
theorem lw_p28 : lw_okq (⟨"HiccupTown$Clues", "mostLeftBy", "(I)I"⟩, 4) := ⟨⟨by decide +kernel, by decide +kernel⟩, List.mem_of_getElem? (i := 289) (by decide +kernel), List.mem_of_getElem? (i := 821) (by decide +kernel), List.mem_of_getElem? (i := 822) (by decide +kernel)⟩
theorem lw_p29 : lw_okq (⟨"HiccupTown$Rows", "waysWithOneMore", "(LHiccupTown$Plan;II)I"⟩, 3) := ⟨⟨by decide +kernel, by decide +kernel⟩, List.mem_of_getElem? (i := 312) (by decide +kernel), List.mem_of_getElem? (i := 848) (by decide +kernel), List.mem_of_getElem? (i := 849) (by decide +kernel)⟩
theorem lw_p30 : lw_okq (⟨"HiccupTown$Rows", "keepFirst", "(LHiccupTown$Plan;II)V"⟩, 3) := ⟨⟨by decide +kernel, by decide +kernel⟩, List.mem_of_getElem? (i := 312) (by decide +kernel), List.mem_of_getElem? (i := 856) (by decide +kernel), List.mem_of_getElem? (i := 857) (by decide +kernel)⟩
theorem lw_p31 : lw_okq (⟨"HiccupTown$Rows", "leastBeater", "(LHiccupTown$Plan;II)I"⟩, 3) := ⟨⟨by decide +kernel, by decide +kernel⟩, List.mem_of_getElem? (i := 312) (by decide +kernel), List.mem_of_getElem? (i := 860) (by decide +kernel), List.mem_of_getElem? (i := 861) (by decide +kernel)⟩
def lw_privs_2 : List (MethodName × Nat) := [(⟨"HiccupTown$Moment", "takeCure", "()I"⟩, 9), (⟨"HiccupTown$Moment", "takeFly", "()I"⟩, 9), (⟨"HiccupTown$Moment", "changeBeater", "(LHiccupTown$Plan;I)I"⟩, 9), (⟨"HiccupTown$Moment", "goOut", "(I)I"⟩, 9), (⟨"HiccupTown$Moment", "comeIn", "(LHiccupTown$Plan;I)I"⟩, 9), (⟨"HiccupTown$Moment", "somebodyWalksAt", "(LHiccupTown$Plan;I)Z"⟩, 9), (⟨"HiccupTown$Moment", "passAll", "(LHiccupTown$Plan;I)I"⟩, 9), (⟨"HiccupTown$Moment", "passSecond", "(LHiccupTown$Plan;)V"⟩, 9), (⟨"HiccupTown$Moment", "beat", "(LHiccupTown$Plan;)V"⟩, 9), (⟨"HiccupTown", "keepBefore", "(Z)V"⟩, 15), (⟨"HiccupTown$Clues", "keepBounds", "()V"⟩, 4), (⟨"HiccupTown$Clues", "thingToLookAt", "(LHiccupTown$Plan;)I"⟩, 4), (⟨"HiccupTown$Clues", "mostLeftBy", "(I)I"⟩, 4), (⟨"HiccupTown$Rows", "waysWithOneMore", "(LHiccupTown$Plan;II)I"⟩, 3), (⟨"HiccupTown$Rows", "keepFirst", "(LHiccupTown$Plan;II)V"⟩, 3), (⟨"HiccupTown$Rows", "leastBeater", "(LHiccupTown$Plan;II)I"⟩, 3)]
theorem lw_r2 : ∀ q ∈ lw_privs_2, lw_okq q := List.forall_mem_cons.mpr ⟨lw_p16, List.forall_mem_cons.mpr ⟨lw_p17, List.forall_mem_cons.mpr ⟨lw_p18, List.forall_mem_cons.mpr ⟨lw_p19, List.forall_mem_cons.mpr ⟨lw_p20, List.forall_mem_cons.mpr ⟨lw_p21, List.forall_mem_cons.mpr ⟨lw_p22, List.forall_mem_cons.mpr ⟨lw_p23, List.forall_mem_cons.mpr ⟨lw_p24, List.forall_mem_cons.mpr ⟨lw_p25, List.forall_mem_cons.mpr ⟨lw_p26, List.forall_mem_cons.mpr ⟨lw_p27, List.forall_mem_cons.mpr ⟨lw_p28, List.forall_mem_cons.mpr ⟨lw_p29, List.forall_mem_cons.mpr ⟨lw_p30, List.forall_mem_cons.mpr ⟨lw_p31, fun _ h => absurd h List.not_mem_nil⟩⟩⟩⟩⟩⟩⟩⟩⟩⟩⟩⟩⟩⟩⟩⟩
theorem lw_p32 : lw_okq (⟨"HiccupTown$Moment", "votesBehind", "(LHiccupTown$Plan;II)I"⟩, 9) := ⟨⟨by decide +kernel, by decide +kernel⟩, List.mem_of_getElem? (i := 180) (by decide +kernel), List.mem_of_getElem? (i := 891) (by decide +kernel), List.mem_of_getElem? (i := 892) (by decide +kernel)⟩
theorem lw_p33 : lw_okq (⟨"HiccupTown$Moment", "willBeNear", "(LHiccupTown$Plan;II)Z"⟩, 9) := ⟨⟨by decide +kernel, by decide +kernel⟩, List.mem_of_getElem? (i := 180) (by decide +kernel), List.mem_of_getElem? (i := 895) (by decide +kernel), List.mem_of_getElem? (i := 896) (by decide +kernel)⟩
theorem lw_p34 : lw_okq (⟨"HiccupTown", "tagName", "(J)V"⟩, 15) := ⟨⟨by decide +kernel, by decide +kernel⟩, List.mem_of_getElem? (i := 26) (by decide +kernel), List.mem_of_getElem? (i := 916) (by decide +kernel), List.mem_of_getElem? (i := 917) (by decide +kernel)⟩
theorem lw_p35 : lw_okq (⟨"HiccupTown", "tagByte", "(I)V"⟩, 15) := ⟨⟨by decide +kernel, by decide +kernel⟩, List.mem_of_getElem? (i := 26) (by decide +kernel), List.mem_of_getElem? (i := 920) (by decide +kernel), List.mem_of_getElem? (i := 921) (by decide +kernel)⟩
theorem lw_p36 : lw_okq (⟨"HiccupTown", "tagText", "(Ljava/lang/String;)V"⟩, 15) := ⟨⟨by decide +kernel, by decide +kernel⟩, List.mem_of_getElem? (i := 26) (by decide +kernel), List.mem_of_getElem? (i := 925) (by decide +kernel), List.mem_of_getElem? (i := 926) (by decide +kernel)⟩
theorem lw_p37 : lw_okq (⟨"HiccupTown", "tagNumber", "(I)V"⟩, 15) := ⟨⟨by decide +kernel, by decide +kernel⟩, List.mem_of_getElem? (i := 26) (by decide +kernel), List.mem_of_getElem? (i := 977) (by decide +kernel), List.mem_of_getElem? (i := 978) (by decide +kernel)⟩
theorem lw_p38 : lw_okq (⟨"HiccupTown$Moment", "passDrawnSecond", "(LHiccupTown$Plan;I)I"⟩, 9) := ⟨⟨by decide +kernel, by decide +kernel⟩, List.mem_of_getElem? (i := 180) (by decide +kernel), List.mem_of_getElem? (i := 996) (by decide +kernel), List.mem_of_getElem? (i := 997) (by decide +kernel)⟩
theorem lw_p39 : lw_okq (⟨"HiccupTown$Moment", "leaveOrJoin", "(LHiccupTown$Plan;I)V"⟩, 9) := ⟨⟨by decide +kernel, by decide +kernel⟩, List.mem_of_getElem? (i := 180) (by decide +kernel), List.mem_of_getElem? (i := 1008) (by decide +kernel), List.mem_of_getElem? (i := 1009) (by decide +kernel)⟩
theorem lw_p40 : lw_okq (⟨"HiccupTown$Book", "readLine", "(LHiccupTown$Tape;LHiccupTown$Plan;)Z"⟩, 8) := ⟨⟨by decide +kernel, by decide +kernel⟩, List.mem_of_getElem? (i := 332) (by decide +kernel), List.mem_of_getElem? (i := 1025) (by decide +kernel), List.mem_of_getElem? (i := 1026) (by decide +kernel)⟩
theorem lw_p41 : lw_okq (⟨"HiccupTown$Book", "readRelieve", "(LHiccupTown$Tape;LHiccupTown$Plan;)Z"⟩, 8) := ⟨⟨by decide +kernel, by decide +kernel⟩, List.mem_of_getElem? (i := 332) (by decide +kernel), List.mem_of_getElem? (i := 1046) (by decide +kernel), List.mem_of_getElem? (i := 1047) (by decide +kernel)⟩
theorem lw_p42 : lw_okq (⟨"HiccupTown$Book", "add", "(II)Z"⟩, 8) := ⟨⟨by decide +kernel, by decide +kernel⟩, List.mem_of_getElem? (i := 332) (by decide +kernel), List.mem_of_getElem? (i := 1052) (by decide +kernel), List.mem_of_getElem? (i := 1053) (by decide +kernel)⟩
theorem lw_p43 : lw_okq (⟨"HiccupTown$Book", "readWalk", "(LHiccupTown$Tape;I)Z"⟩, 8) := ⟨⟨by decide +kernel, by decide +kernel⟩, List.mem_of_getElem? (i := 332) (by decide +kernel), List.mem_of_getElem? (i := 1058) (by decide +kernel), List.mem_of_getElem? (i := 1059) (by decide +kernel)⟩
theorem lw_p44 : lw_okq (⟨"HiccupTown$Sentence", "readCond", "(LHiccupTown$Tape;LHiccupTown$Plan;I)Z"⟩, 5) := ⟨⟨by decide +kernel, by decide +kernel⟩, List.mem_of_getElem? (i := 226) (by decide +kernel), List.mem_of_getElem? (i := 1094) (by decide +kernel), List.mem_of_getElem? (i := 1095) (by decide +kernel)⟩
theorem lw_p45 : lw_okq (⟨"HiccupTown$Sentence", "readAll", "(LHiccupTown$Tape;LHiccupTown$Plan;I)Z"⟩, 5) := ⟨⟨by decide +kernel, by decide +kernel⟩, List.mem_of_getElem? (i := 226) (by decide +kernel), List.mem_of_getElem? (i := 1098) (by decide +kernel), List.mem_of_getElem? (i := 1099) (by decide +kernel)⟩
theorem lw_p46 : lw_okq (⟨"HiccupTown$Sentence", "readOne", "(LHiccupTown$Tape;LHiccupTown$Plan;I)Z"⟩, 5) := ⟨⟨by decide +kernel, by decide +kernel⟩, List.mem_of_getElem? (i := 226) (by decide +kernel), List.mem_of_getElem? (i := 1102) (by decide +kernel), List.mem_of_getElem? (i := 1103) (by decide +kernel)⟩
theorem lw_p47 : lw_okq (⟨"HiccupTown$Sentence", "add", "(LHiccupTown$Word;LHiccupTown$Word;I)Z"⟩, 5) := ⟨⟨by decide +kernel, by decide +kernel⟩, List.mem_of_getElem? (i := 226) (by decide +kernel), List.mem_of_getElem? (i := 1130) (by decide +kernel), List.mem_of_getElem? (i := 1131) (by decide +kernel)⟩
def lw_privs_3 : List (MethodName × Nat) := [(⟨"HiccupTown$Moment", "votesBehind", "(LHiccupTown$Plan;II)I"⟩, 9), (⟨"HiccupTown$Moment", "willBeNear", "(LHiccupTown$Plan;II)Z"⟩, 9), (⟨"HiccupTown", "tagName", "(J)V"⟩, 15), (⟨"HiccupTown", "tagByte", "(I)V"⟩, 15), (⟨"HiccupTown", "tagText", "(Ljava/lang/String;)V"⟩, 15), (⟨"HiccupTown", "tagNumber", "(I)V"⟩, 15), (⟨"HiccupTown$Moment", "passDrawnSecond", "(LHiccupTown$Plan;I)I"⟩, 9), (⟨"HiccupTown$Moment", "leaveOrJoin", "(LHiccupTown$Plan;I)V"⟩, 9), (⟨"HiccupTown$Book", "readLine", "(LHiccupTown$Tape;LHiccupTown$Plan;)Z"⟩, 8), (⟨"HiccupTown$Book", "readRelieve", "(LHiccupTown$Tape;LHiccupTown$Plan;)Z"⟩, 8), (⟨"HiccupTown$Book", "add", "(II)Z"⟩, 8), (⟨"HiccupTown$Book", "readWalk", "(LHiccupTown$Tape;I)Z"⟩, 8), (⟨"HiccupTown$Sentence", "readCond", "(LHiccupTown$Tape;LHiccupTown$Plan;I)Z"⟩, 5), (⟨"HiccupTown$Sentence", "readAll", "(LHiccupTown$Tape;LHiccupTown$Plan;I)Z"⟩, 5), (⟨"HiccupTown$Sentence", "readOne", "(LHiccupTown$Tape;LHiccupTown$Plan;I)Z"⟩, 5), (⟨"HiccupTown$Sentence", "add", "(LHiccupTown$Word;LHiccupTown$Word;I)Z"⟩, 5)]
theorem lw_r3 : ∀ q ∈ lw_privs_3, lw_okq q := List.forall_mem_cons.mpr ⟨lw_p32, List.forall_mem_cons.mpr ⟨lw_p33, List.forall_mem_cons.mpr ⟨lw_p34, List.forall_mem_cons.mpr ⟨lw_p35, List.forall_mem_cons.mpr ⟨lw_p36, List.forall_mem_cons.mpr ⟨lw_p37, List.forall_mem_cons.mpr ⟨lw_p38, List.forall_mem_cons.mpr ⟨lw_p39, List.forall_mem_cons.mpr ⟨lw_p40, List.forall_mem_cons.mpr ⟨lw_p41, List.forall_mem_cons.mpr ⟨lw_p42, List.forall_mem_cons.mpr ⟨lw_p43, List.forall_mem_cons.mpr ⟨lw_p44, List.forall_mem_cons.mpr ⟨lw_p45, List.forall_mem_cons.mpr ⟨lw_p46, List.forall_mem_cons.mpr ⟨lw_p47, fun _ h => absurd h List.not_mem_nil⟩⟩⟩⟩⟩⟩⟩⟩⟩⟩⟩⟩⟩⟩⟩⟩
theorem lw_p48 : lw_okq (⟨"HiccupTown$Sentence", "readCompared", "(LHiccupTown$Tape;LHiccupTown$Word;)Z"⟩, 5) := ⟨⟨by decide +kernel, by decide +kernel⟩, List.mem_of_getElem? (i := 226) (by decide +kernel), List.mem_of_getElem? (i := 1138) (by decide +kernel), List.mem_of_getElem? (i := 1139) (by decide +kernel)⟩
theorem lw_p49 : lw_okq (⟨"HiccupTown$Sentence", "holdsAlone", "(LHiccupTown$Plan;LHiccupTown$Moment;II)Z"⟩, 5) := ⟨⟨by decide +kernel, by decide +kernel⟩, List.mem_of_getElem? (i := 226) (by decide +kernel), List.mem_of_getElem? (i := 1170) (by decide +kernel), List.mem_of_getElem? (i := 1171) (by decide +kernel)⟩
theorem lw_p50 : lw_okq (⟨"java/lang/Throwable", "fillInStackTrace", "(I)Ljava/lang/Throwable;"⟩, 6) := ⟨⟨by decide +kernel, by decide +kernel⟩, List.mem_of_getElem? (i := 1248) (by decide +kernel), List.mem_of_getElem? (i := 1246) (by decide +kernel), List.mem_of_getElem? (i := 1247) (by decide +kernel)⟩
theorem lw_p51 : lw_okq (⟨"HiccupTownModel", "come", "(I)V"⟩, 47) := ⟨⟨by decide +kernel, by decide +kernel⟩, List.mem_of_getElem? (i := 1289) (by decide +kernel), List.mem_of_getElem? (i := 1287) (by decide +kernel), List.mem_of_getElem? (i := 1288) (by decide +kernel)⟩
theorem lw_p52 : lw_okq (⟨"HiccupTownModel", "startRead", "()V"⟩, 47) := ⟨⟨by decide +kernel, by decide +kernel⟩, List.mem_of_getElem? (i := 1289) (by decide +kernel), List.mem_of_getElem? (i := 1301) (by decide +kernel), List.mem_of_getElem? (i := 1302) (by decide +kernel)⟩
theorem lw_p53 : lw_okq (⟨"HiccupTownModel", "startSo", "()V"⟩, 47) := ⟨⟨by decide +kernel, by decide +kernel⟩, List.mem_of_getElem? (i := 1289) (by decide +kernel), List.mem_of_getElem? (i := 1305) (by decide +kernel), List.mem_of_getElem? (i := 1306) (by decide +kernel)⟩
theorem lw_p54 : lw_okq (⟨"HiccupTownModel", "begin", "(I)V"⟩, 47) := ⟨⟨by decide +kernel, by decide +kernel⟩, List.mem_of_getElem? (i := 1289) (by decide +kernel), List.mem_of_getElem? (i := 1455) (by decide +kernel), List.mem_of_getElem? (i := 1456) (by decide +kernel)⟩
theorem lw_p55 : lw_okq (⟨"HiccupTownModel", "take", "()I"⟩, 47) := ⟨⟨by decide +kernel, by decide +kernel⟩, List.mem_of_getElem? (i := 1289) (by decide +kernel), List.mem_of_getElem? (i := 1459) (by decide +kernel), List.mem_of_getElem? (i := 1460) (by decide +kernel)⟩
theorem lw_p56 : lw_okq (⟨"HiccupTownModel", "go", "()V"⟩, 47) := ⟨⟨by decide +kernel, by decide +kernel⟩, List.mem_of_getElem? (i := 1289) (by decide +kernel), List.mem_of_getElem? (i := 1463) (by decide +kernel), List.mem_of_getElem? (i := 1464) (by decide +kernel)⟩
theorem lw_p57 : lw_okq (⟨"HiccupTownModel", "tapeAt", "(I)I"⟩, 47) := ⟨⟨by decide +kernel, by decide +kernel⟩, List.mem_of_getElem? (i := 1289) (by decide +kernel), List.mem_of_getElem? (i := 1473) (by decide +kernel), List.mem_of_getElem? (i := 1474) (by decide +kernel)⟩
theorem lw_p58 : lw_okq (⟨"HiccupTownModel", "readLine", "()Z"⟩, 47) := ⟨⟨by decide +kernel, by decide +kernel⟩, List.mem_of_getElem? (i := 1289) (by decide +kernel), List.mem_of_getElem? (i := 1479) (by decide +kernel), List.mem_of_getElem? (i := 1480) (by decide +kernel)⟩
theorem lw_p59 : lw_okq (⟨"HiccupTownModel", "isWord", "(I)Z"⟩, 47) := ⟨⟨by decide +kernel, by decide +kernel⟩, List.mem_of_getElem? (i := 1289) (by decide +kernel), List.mem_of_getElem? (i := 1483) (by decide +kernel), List.mem_of_getElem? (i := 1484) (by decide +kernel)⟩
theorem lw_p60 : lw_okq (⟨"HiccupTownModel", "readRing", "()Z"⟩, 47) := ⟨⟨by decide +kernel, by decide +kernel⟩, List.mem_of_getElem? (i := 1289) (by decide +kernel), List.mem_of_getElem? (i := 1493) (by decide +kernel), List.mem_of_getElem? (i := 1494) (by decide +kernel)⟩
theorem lw_p61 : lw_okq (⟨"HiccupTownModel", "bad", "(I)Z"⟩, 47) := ⟨⟨by decide +kernel, by decide +kernel⟩, List.mem_of_getElem? (i := 1289) (by decide +kernel), List.mem_of_getElem? (i := 1497) (by decide +kernel), List.mem_of_getElem? (i := 1498) (by decide +kernel)⟩
theorem lw_p62 : lw_okq (⟨"HiccupTownModel", "isFresh", "(I)Z"⟩, 47) := ⟨⟨by decide +kernel, by decide +kernel⟩, List.mem_of_getElem? (i := 1289) (by decide +kernel), List.mem_of_getElem? (i := 1501) (by decide +kernel), List.mem_of_getElem? (i := 1502) (by decide +kernel)⟩
theorem lw_p63 : lw_okq (⟨"HiccupTownModel", "readNumber", "(II)Z"⟩, 47) := ⟨⟨by decide +kernel, by decide +kernel⟩, List.mem_of_getElem? (i := 1289) (by decide +kernel), List.mem_of_getElem? (i := 1505) (by decide +kernel), List.mem_of_getElem? (i := 1506) (by decide +kernel)⟩
def lw_privs_4 : List (MethodName × Nat) := [(⟨"HiccupTown$Sentence", "readCompared", "(LHiccupTown$Tape;LHiccupTown$Word;)Z"⟩, 5), (⟨"HiccupTown$Sentence", "holdsAlone", "(LHiccupTown$Plan;LHiccupTown$Moment;II)Z"⟩, 5), (⟨"java/lang/Throwable", "fillInStackTrace", "(I)Ljava/lang/Throwable;"⟩, 6), (⟨"HiccupTownModel", "come", "(I)V"⟩, 47), (⟨"HiccupTownModel", "startRead", "()V"⟩, 47), (⟨"HiccupTownModel", "startSo", "()V"⟩, 47), (⟨"HiccupTownModel", "begin", "(I)V"⟩, 47), (⟨"HiccupTownModel", "take", "()I"⟩, 47), (⟨"HiccupTownModel", "go", "()V"⟩, 47), (⟨"HiccupTownModel", "tapeAt", "(I)I"⟩, 47), (⟨"HiccupTownModel", "readLine", "()Z"⟩, 47), (⟨"HiccupTownModel", "isWord", "(I)Z"⟩, 47), (⟨"HiccupTownModel", "readRing", "()Z"⟩, 47), (⟨"HiccupTownModel", "bad", "(I)Z"⟩, 47), (⟨"HiccupTownModel", "isFresh", "(I)Z"⟩, 47), (⟨"HiccupTownModel", "readNumber", "(II)Z"⟩, 47)]
theorem lw_r4 : ∀ q ∈ lw_privs_4, lw_okq q := List.forall_mem_cons.mpr ⟨lw_p48, List.forall_mem_cons.mpr ⟨lw_p49, List.forall_mem_cons.mpr ⟨lw_p50, List.forall_mem_cons.mpr ⟨lw_p51, List.forall_mem_cons.mpr ⟨lw_p52, List.forall_mem_cons.mpr ⟨lw_p53, List.forall_mem_cons.mpr ⟨lw_p54, List.forall_mem_cons.mpr ⟨lw_p55, List.forall_mem_cons.mpr ⟨lw_p56, List.forall_mem_cons.mpr ⟨lw_p57, List.forall_mem_cons.mpr ⟨lw_p58, List.forall_mem_cons.mpr ⟨lw_p59, List.forall_mem_cons.mpr ⟨lw_p60, List.forall_mem_cons.mpr ⟨lw_p61, List.forall_mem_cons.mpr ⟨lw_p62, List.forall_mem_cons.mpr ⟨lw_p63, fun _ h => absurd h List.not_mem_nil⟩⟩⟩⟩⟩⟩⟩⟩⟩⟩⟩⟩⟩⟩⟩⟩
theorem lw_p64 : lw_okq (⟨"HiccupTownModel", "put", "(IZ)Z"⟩, 47) := ⟨⟨by decide +kernel, by decide +kernel⟩, List.mem_of_getElem? (i := 1289) (by decide +kernel), List.mem_of_getElem? (i := 1512) (by decide +kernel), List.mem_of_getElem? (i := 1513) (by decide +kernel)⟩
theorem lw_p65 : lw_okq (⟨"HiccupTownModel", "readCousin", "()Z"⟩, 47) := ⟨⟨by decide +kernel, by decide +kernel⟩, List.mem_of_getElem? (i := 1289) (by decide +kernel), List.mem_of_getElem? (i := 1516) (by decide +kernel), List.mem_of_getElem? (i := 1517) (by decide +kernel)⟩
theorem lw_p66 : lw_okq (⟨"HiccupTownModel", "readFirst", "(II)Z"⟩, 47) := ⟨⟨by decide +kernel, by decide +kernel⟩, List.mem_of_getElem? (i := 1289) (by decide +kernel), List.mem_of_getElem? (i := 1520) (by decide +kernel), List.mem_of_getElem? (i := 1521) (by decide +kernel)⟩
theorem lw_p67 : lw_okq (⟨"HiccupTownModel", "readNew", "(I)Z"⟩, 47) := ⟨⟨by decide +kernel, by decide +kernel⟩, List.mem_of_getElem? (i := 1289) (by decide +kernel), List.mem_of_getElem? (i := 1524) (by decide +kernel), List.mem_of_getElem? (i := 1525) (by decide +kernel)⟩
theorem lw_p68 : lw_okq (⟨"HiccupTownModel", "isName", "()Z"⟩, 47) := ⟨⟨by decide +kernel, by decide +kernel⟩, List.mem_of_getElem? (i := 1289) (by decide +kernel), List.mem_of_getElem? (i := 1528) (by decide +kernel), List.mem_of_getElem? (i := 1529) (by decide +kernel)⟩
theorem lw_p69 : lw_okq (⟨"HiccupTownModel", "isTaken", "()Z"⟩, 47) := ⟨⟨by decide +kernel, by decide +kernel⟩, List.mem_of_getElem? (i := 1289) (by decide +kernel), List.mem_of_getElem? (i := 1532) (by decide +kernel), List.mem_of_getElem? (i := 1533) (by decide +kernel)⟩
theorem lw_p70 : lw_okq (⟨"HiccupTownModel", "readPerson", "()Z"⟩, 47) := ⟨⟨by decide +kernel, by decide +kernel⟩, List.mem_of_getElem? (i := 1289) (by decide +kernel), List.mem_of_getElem? (i := 1539) (by decide +kernel), List.mem_of_getElem? (i := 1540) (by decide +kernel)⟩
theorem lw_p71 : lw_okq (⟨"HiccupTownModel", "readPlace", "(I)Z"⟩, 47) := ⟨⟨by decide +kernel, by decide +kernel⟩, List.mem_of_getElem? (i := 1289) (by decide +kernel), List.mem_of_getElem? (i := 1543) (by decide +kernel), List.mem_of_getElem? (i := 1544) (by decide +kernel)⟩
theorem lw_p72 : lw_okq (⟨"HiccupTownModel", "readWork", "()Z"⟩, 47) := ⟨⟨by decide +kernel, by decide +kernel⟩, List.mem_of_getElem? (i := 1289) (by decide +kernel), List.mem_of_getElem? (i := 1547) (by decide +kernel), List.mem_of_getElem? (i := 1548) (by decide +kernel)⟩
theorem lw_p73 : lw_okq (⟨"HiccupTownModel", "readAfter", "()Z"⟩, 47) := ⟨⟨by decide +kernel, by decide +kernel⟩, List.mem_of_getElem? (i := 1289) (by decide +kernel), List.mem_of_getElem? (i := 1551) (by decide +kernel), List.mem_of_getElem? (i := 1552) (by decide +kernel)⟩
theorem lw_p74 : lw_okq (⟨"HiccupTownModel", "isWorkHere", "()Z"⟩, 47) := ⟨⟨by decide +kernel, by decide +kernel⟩, List.mem_of_getElem? (i := 1289) (by decide +kernel), List.mem_of_getElem? (i := 1555) (by decide +kernel), List.mem_of_getElem? (i := 1556) (by decide +kernel)⟩
theorem lw_p75 : lw_okq (⟨"HiccupTownModel", "readThing", "()Z"⟩, 47) := ⟨⟨by decide +kernel, by decide +kernel⟩, List.mem_of_getElem? (i := 1289) (by decide +kernel), List.mem_of_getElem? (i := 1562) (by decide +kernel), List.mem_of_getElem? (i := 1563) (by decide +kernel)⟩
theorem lw_p76 : lw_okq (⟨"HiccupTownModel", "readEnd", "()Z"⟩, 47) := ⟨⟨by decide +kernel, by decide +kernel⟩, List.mem_of_getElem? (i := 1289) (by decide +kernel), List.mem_of_getElem? (i := 1566) (by decide +kernel), List.mem_of_getElem? (i := 1567) (by decide +kernel)⟩
theorem lw_p77 : lw_okq (⟨"HiccupTownModel", "isSign", "(I)Z"⟩, 47) := ⟨⟨by decide +kernel, by decide +kernel⟩, List.mem_of_getElem? (i := 1289) (by decide +kernel), List.mem_of_getElem? (i := 1570) (by decide +kernel), List.mem_of_getElem? (i := 1571) (by decide +kernel)⟩
theorem lw_p78 : lw_okq (⟨"HiccupTownModel", "isPerson", "(I)Z"⟩, 47) := ⟨⟨by decide +kernel, by decide +kernel⟩, List.mem_of_getElem? (i := 1289) (by decide +kernel), List.mem_of_getElem? (i := 1582) (by decide +kernel), List.mem_of_getElem? (i := 1583) (by decide +kernel)⟩
theorem lw_p79 : lw_okq (⟨"HiccupTownModel", "refuse", "()I"⟩, 47) := ⟨⟨by decide +kernel, by decide +kernel⟩, List.mem_of_getElem? (i := 1289) (by decide +kernel), List.mem_of_getElem? (i := 1586) (by decide +kernel), List.mem_of_getElem? (i := 1587) (by decide +kernel)⟩
def lw_privs_5 : List (MethodName × Nat) := [(⟨"HiccupTownModel", "put", "(IZ)Z"⟩, 47), (⟨"HiccupTownModel", "readCousin", "()Z"⟩, 47), (⟨"HiccupTownModel", "readFirst", "(II)Z"⟩, 47), (⟨"HiccupTownModel", "readNew", "(I)Z"⟩, 47), (⟨"HiccupTownModel", "isName", "()Z"⟩, 47), (⟨"HiccupTownModel", "isTaken", "()Z"⟩, 47), (⟨"HiccupTownModel", "readPerson", "()Z"⟩, 47), (⟨"HiccupTownModel", "readPlace", "(I)Z"⟩, 47), (⟨"HiccupTownModel", "readWork", "()Z"⟩, 47), (⟨"HiccupTownModel", "readAfter", "()Z"⟩, 47), (⟨"HiccupTownModel", "isWorkHere", "()Z"⟩, 47), (⟨"HiccupTownModel", "readThing", "()Z"⟩, 47), (⟨"HiccupTownModel", "readEnd", "()Z"⟩, 47), (⟨"HiccupTownModel", "isSign", "(I)Z"⟩, 47), (⟨"HiccupTownModel", "isPerson", "(I)Z"⟩, 47), (⟨"HiccupTownModel", "refuse", "()I"⟩, 47)]
theorem lw_r5 : ∀ q ∈ lw_privs_5, lw_okq q := List.forall_mem_cons.mpr ⟨lw_p64, List.forall_mem_cons.mpr ⟨lw_p65, List.forall_mem_cons.mpr ⟨lw_p66, List.forall_mem_cons.mpr ⟨lw_p67, List.forall_mem_cons.mpr ⟨lw_p68, List.forall_mem_cons.mpr ⟨lw_p69, List.forall_mem_cons.mpr ⟨lw_p70, List.forall_mem_cons.mpr ⟨lw_p71, List.forall_mem_cons.mpr ⟨lw_p72, List.forall_mem_cons.mpr ⟨lw_p73, List.forall_mem_cons.mpr ⟨lw_p74, List.forall_mem_cons.mpr ⟨lw_p75, List.forall_mem_cons.mpr ⟨lw_p76, List.forall_mem_cons.mpr ⟨lw_p77, List.forall_mem_cons.mpr ⟨lw_p78, List.forall_mem_cons.mpr ⟨lw_p79, fun _ h => absurd h List.not_mem_nil⟩⟩⟩⟩⟩⟩⟩⟩⟩⟩⟩⟩⟩⟩⟩⟩
theorem lw_p80 : lw_okq (⟨"HiccupTownModel", "isOut", "(I)Z"⟩, 47) := ⟨⟨by decide +kernel, by decide +kernel⟩, List.mem_of_getElem? (i := 1289) (by decide +kernel), List.mem_of_getElem? (i := 1590) (by decide +kernel), List.mem_of_getElem? (i := 1591) (by decide +kernel)⟩
theorem lw_p81 : lw_okq (⟨"HiccupTownModel", "isBusy", "(I)Z"⟩, 47) := ⟨⟨by decide +kernel, by decide +kernel⟩, List.mem_of_getElem? (i := 1289) (by decide +kernel), List.mem_of_getElem? (i := 1594) (by decide +kernel), List.mem_of_getElem? (i := 1595) (by decide +kernel)⟩
theorem lw_p82 : lw_okq (⟨"HiccupTownModel", "openWorks", "()I"⟩, 47) := ⟨⟨by decide +kernel, by decide +kernel⟩, List.mem_of_getElem? (i := 1289) (by decide +kernel), List.mem_of_getElem? (i := 1598) (by decide +kernel), List.mem_of_getElem? (i := 1599) (by decide +kernel)⟩
theorem lw_p83 : lw_okq (⟨"HiccupTownModel", "doneWorks", "()I"⟩, 47) := ⟨⟨by decide +kernel, by decide +kernel⟩, List.mem_of_getElem? (i := 1289) (by decide +kernel), List.mem_of_getElem? (i := 1602) (by decide +kernel), List.mem_of_getElem? (i := 1603) (by decide +kernel)⟩
theorem lw_p84 : lw_okq (⟨"HiccupTownModel", "isWork", "(I)Z"⟩, 47) := ⟨⟨by decide +kernel, by decide +kernel⟩, List.mem_of_getElem? (i := 1289) (by decide +kernel), List.mem_of_getElem? (i := 1610) (by decide +kernel), List.mem_of_getElem? (i := 1611) (by decide +kernel)⟩
theorem lw_p85 : lw_okq (⟨"HiccupTownModel", "isBeater", "(I)Z"⟩, 47) := ⟨⟨by decide +kernel, by decide +kernel⟩, List.mem_of_getElem? (i := 1289) (by decide +kernel), List.mem_of_getElem? (i := 1618) (by decide +kernel), List.mem_of_getElem? (i := 1619) (by decide +kernel)⟩
theorem lw_p86 : lw_okq (⟨"HiccupTownModel", "act", "(IIZ)I"⟩, 47) := ⟨⟨by decide +kernel, by decide +kernel⟩, List.mem_of_getElem? (i := 1289) (by decide +kernel), List.mem_of_getElem? (i := 1630) (by decide +kernel), List.mem_of_getElem? (i := 1631) (by decide +kernel)⟩
theorem lw_p87 : lw_okq (⟨"HiccupTownModel", "why", "(II)I"⟩, 47) := ⟨⟨by decide +kernel, by decide +kernel⟩, List.mem_of_getElem? (i := 1289) (by decide +kernel), List.mem_of_getElem? (i := 1634) (by decide +kernel), List.mem_of_getElem? (i := 1635) (by decide +kernel)⟩
theorem lw_p88 : lw_okq (⟨"HiccupTownModel", "isCrowded", "(I)Z"⟩, 47) := ⟨⟨by decide +kernel, by decide +kernel⟩, List.mem_of_getElem? (i := 1289) (by decide +kernel), List.mem_of_getElem? (i := 1638) (by decide +kernel), List.mem_of_getElem? (i := 1639) (by decide +kernel)⟩
theorem lw_p89 : lw_okq (⟨"HiccupTownModel", "snap", "()V"⟩, 47) := ⟨⟨by decide +kernel, by decide +kernel⟩, List.mem_of_getElem? (i := 1289) (by decide +kernel), List.mem_of_getElem? (i := 1642) (by decide +kernel), List.mem_of_getElem? (i := 1643) (by decide +kernel)⟩
theorem lw_p90 : lw_okq (⟨"HiccupTownModel", "live", "(II)V"⟩, 47) := ⟨⟨by decide +kernel, by decide +kernel⟩, List.mem_of_getElem? (i := 1289) (by decide +kernel), List.mem_of_getElem? (i := 1646) (by decide +kernel), List.mem_of_getElem? (i := 1647) (by decide +kernel)⟩
theorem lw_p91 : lw_okq (⟨"HiccupTownModel", "relieved", "(I)V"⟩, 47) := ⟨⟨by decide +kernel, by decide +kernel⟩, List.mem_of_getElem? (i := 1289) (by decide +kernel), List.mem_of_getElem? (i := 1653) (by decide +kernel), List.mem_of_getElem? (i := 1654) (by decide +kernel)⟩
theorem lw_p92 : lw_okq (⟨"HiccupTownModel", "passSeconds", "(I)I"⟩, 47) := ⟨⟨by decide +kernel, by decide +kernel⟩, List.mem_of_getElem? (i := 1289) (by decide +kernel), List.mem_of_getElem? (i := 1685) (by decide +kernel), List.mem_of_getElem? (i := 1686) (by decide +kernel)⟩
theorem lw_p93 : lw_okq (⟨"HiccupTownModel", "oneSecond", "()V"⟩, 47) := ⟨⟨by decide +kernel, by decide +kernel⟩, List.mem_of_getElem? (i := 1289) (by decide +kernel), List.mem_of_getElem? (i := 1689) (by decide +kernel), List.mem_of_getElem? (i := 1690) (by decide +kernel)⟩
theorem lw_p94 : lw_okq (⟨"HiccupTownModel", "isStanding", "()Z"⟩, 47) := ⟨⟨by decide +kernel, by decide +kernel⟩, List.mem_of_getElem? (i := 1289) (by decide +kernel), List.mem_of_getElem? (i := 1693) (by decide +kernel), List.mem_of_getElem? (i := 1694) (by decide +kernel)⟩
theorem lw_p95 : lw_okq (⟨"HiccupTownModel", "beat", "()V"⟩, 47) := ⟨⟨by decide +kernel, by decide +kernel⟩, List.mem_of_getElem? (i := 1289) (by decide +kernel), List.mem_of_getElem? (i := 1697) (by decide +kernel), List.mem_of_getElem? (i := 1698) (by decide +kernel)⟩
def lw_privs_6 : List (MethodName × Nat) := [(⟨"HiccupTownModel", "isOut", "(I)Z"⟩, 47), (⟨"HiccupTownModel", "isBusy", "(I)Z"⟩, 47), (⟨"HiccupTownModel", "openWorks", "()I"⟩, 47), (⟨"HiccupTownModel", "doneWorks", "()I"⟩, 47), (⟨"HiccupTownModel", "isWork", "(I)Z"⟩, 47), (⟨"HiccupTownModel", "isBeater", "(I)Z"⟩, 47), (⟨"HiccupTownModel", "act", "(IIZ)I"⟩, 47), (⟨"HiccupTownModel", "why", "(II)I"⟩, 47), (⟨"HiccupTownModel", "isCrowded", "(I)Z"⟩, 47), (⟨"HiccupTownModel", "snap", "()V"⟩, 47), (⟨"HiccupTownModel", "live", "(II)V"⟩, 47), (⟨"HiccupTownModel", "relieved", "(I)V"⟩, 47), (⟨"HiccupTownModel", "passSeconds", "(I)I"⟩, 47), (⟨"HiccupTownModel", "oneSecond", "()V"⟩, 47), (⟨"HiccupTownModel", "isStanding", "()Z"⟩, 47), (⟨"HiccupTownModel", "beat", "()V"⟩, 47)]
theorem lw_r6 : ∀ q ∈ lw_privs_6, lw_okq q := List.forall_mem_cons.mpr ⟨lw_p80, List.forall_mem_cons.mpr ⟨lw_p81, List.forall_mem_cons.mpr ⟨lw_p82, List.forall_mem_cons.mpr ⟨lw_p83, List.forall_mem_cons.mpr ⟨lw_p84, List.forall_mem_cons.mpr ⟨lw_p85, List.forall_mem_cons.mpr ⟨lw_p86, List.forall_mem_cons.mpr ⟨lw_p87, List.forall_mem_cons.mpr ⟨lw_p88, List.forall_mem_cons.mpr ⟨lw_p89, List.forall_mem_cons.mpr ⟨lw_p90, List.forall_mem_cons.mpr ⟨lw_p91, List.forall_mem_cons.mpr ⟨lw_p92, List.forall_mem_cons.mpr ⟨lw_p93, List.forall_mem_cons.mpr ⟨lw_p94, List.forall_mem_cons.mpr ⟨lw_p95, fun _ h => absurd h List.not_mem_nil⟩⟩⟩⟩⟩⟩⟩⟩⟩⟩⟩⟩⟩⟩⟩⟩
theorem lw_p96 : lw_okq (⟨"HiccupTownModel", "placeBehind", "(II)I"⟩, 47) := ⟨⟨by decide +kernel, by decide +kernel⟩, List.mem_of_getElem? (i := 1289) (by decide +kernel), List.mem_of_getElem? (i := 1705) (by decide +kernel), List.mem_of_getElem? (i := 1706) (by decide +kernel)⟩
theorem lw_p97 : lw_okq (⟨"HiccupTownModel", "doneBy", "(II)I"⟩, 47) := ⟨⟨by decide +kernel, by decide +kernel⟩, List.mem_of_getElem? (i := 1289) (by decide +kernel), List.mem_of_getElem? (i := 1717) (by decide +kernel), List.mem_of_getElem? (i := 1718) (by decide +kernel)⟩
theorem lw_p98 : lw_okq (⟨"HiccupTownModel", "layAside", "()V"⟩, 47) := ⟨⟨by decide +kernel, by decide +kernel⟩, List.mem_of_getElem? (i := 1289) (by decide +kernel), List.mem_of_getElem? (i := 1721) (by decide +kernel), List.mem_of_getElem? (i := 1722) (by decide +kernel)⟩
theorem lw_p99 : lw_okq (⟨"HiccupTownModel", "takeBack", "()V"⟩, 47) := ⟨⟨by decide +kernel, by decide +kernel⟩, List.mem_of_getElem? (i := 1289) (by decide +kernel), List.mem_of_getElem? (i := 1726) (by decide +kernel), List.mem_of_getElem? (i := 1727) (by decide +kernel)⟩
theorem lw_p100 : lw_okq (⟨"HiccupTownModel", "hasStood", "(II)Z"⟩, 47) := ⟨⟨by decide +kernel, by decide +kernel⟩, List.mem_of_getElem? (i := 1289) (by decide +kernel), List.mem_of_getElem? (i := 1749) (by decide +kernel), List.mem_of_getElem? (i := 1750) (by decide +kernel)⟩
theorem lw_p101 : lw_okq (⟨"HiccupTownModel", "leftBy", "(II)I"⟩, 47) := ⟨⟨by decide +kernel, by decide +kernel⟩, List.mem_of_getElem? (i := 1289) (by decide +kernel), List.mem_of_getElem? (i := 1753) (by decide +kernel), List.mem_of_getElem? (i := 1754) (by decide +kernel)⟩
theorem lw_p102 : lw_okq (⟨"HiccupTownModel", "layRows", "(I)V"⟩, 47) := ⟨⟨by decide +kernel, by decide +kernel⟩, List.mem_of_getElem? (i := 1289) (by decide +kernel), List.mem_of_getElem? (i := 1773) (by decide +kernel), List.mem_of_getElem? (i := 1774) (by decide +kernel)⟩
theorem lw_p103 : lw_okq (⟨"HiccupTownModel", "rowsOf", "(II)I"⟩, 47) := ⟨⟨by decide +kernel, by decide +kernel⟩, List.mem_of_getElem? (i := 1289) (by decide +kernel), List.mem_of_getElem? (i := 1777) (by decide +kernel), List.mem_of_getElem? (i := 1778) (by decide +kernel)⟩
theorem lw_p104 : lw_okq (⟨"HiccupTownModel", "isFor", "(II)Z"⟩, 47) := ⟨⟨by decide +kernel, by decide +kernel⟩, List.mem_of_getElem? (i := 1289) (by decide +kernel), List.mem_of_getElem? (i := 1789) (by decide +kernel), List.mem_of_getElem? (i := 1790) (by decide +kernel)⟩
theorem lw_p105 : lw_okq (⟨"HiccupTownModel", "areNear", "(II)Z"⟩, 47) := ⟨⟨by decide +kernel, by decide +kernel⟩, List.mem_of_getElem? (i := 1289) (by decide +kernel), List.mem_of_getElem? (i := 1793) (by decide +kernel), List.mem_of_getElem? (i := 1794) (by decide +kernel)⟩
theorem lw_p106 : lw_okq (⟨"HiccupTownModel", "writeWord", "(J)V"⟩, 47) := ⟨⟨by decide +kernel, by decide +kernel⟩, List.mem_of_getElem? (i := 1289) (by decide +kernel), List.mem_of_getElem? (i := 1808) (by decide +kernel), List.mem_of_getElem? (i := 1809) (by decide +kernel)⟩
theorem lw_p107 : lw_okq (⟨"HiccupTownModel", "write", "(I)V"⟩, 47) := ⟨⟨by decide +kernel, by decide +kernel⟩, List.mem_of_getElem? (i := 1289) (by decide +kernel), List.mem_of_getElem? (i := 1812) (by decide +kernel), List.mem_of_getElem? (i := 1813) (by decide +kernel)⟩
theorem lw_p108 : lw_okq (⟨"HiccupTownModel", "writeNext", "(J)V"⟩, 47) := ⟨⟨by decide +kernel, by decide +kernel⟩, List.mem_of_getElem? (i := 1289) (by decide +kernel), List.mem_of_getElem? (i := 1816) (by decide +kernel), List.mem_of_getElem? (i := 1817) (by decide +kernel)⟩
theorem lw_p109 : lw_okq (⟨"HiccupTownModel", "writeNumber", "(I)V"⟩, 47) := ⟨⟨by decide +kernel, by decide +kernel⟩, List.mem_of_getElem? (i := 1289) (by decide +kernel), List.mem_of_getElem? (i := 1820) (by decide +kernel), List.mem_of_getElem? (i := 1821) (by decide +kernel)⟩
theorem lw_p110 : lw_okq (⟨"HiccupTownModel", "drawSeconds", "(II)I"⟩, 47) := ⟨⟨by decide +kernel, by decide +kernel⟩, List.mem_of_getElem? (i := 1289) (by decide +kernel), List.mem_of_getElem? (i := 1832) (by decide +kernel), List.mem_of_getElem? (i := 1833) (by decide +kernel)⟩
theorem lw_p111 : lw_okq (⟨"HiccupTownModel", "draw", "(I)I"⟩, 47) := ⟨⟨by decide +kernel, by decide +kernel⟩, List.mem_of_getElem? (i := 1289) (by decide +kernel), List.mem_of_getElem? (i := 1836) (by decide +kernel), List.mem_of_getElem? (i := 1837) (by decide +kernel)⟩
def lw_privs_7 : List (MethodName × Nat) := [(⟨"HiccupTownModel", "placeBehind", "(II)I"⟩, 47), (⟨"HiccupTownModel", "doneBy", "(II)I"⟩, 47), (⟨"HiccupTownModel", "layAside", "()V"⟩, 47), (⟨"HiccupTownModel", "takeBack", "()V"⟩, 47), (⟨"HiccupTownModel", "hasStood", "(II)Z"⟩, 47), (⟨"HiccupTownModel", "leftBy", "(II)I"⟩, 47), (⟨"HiccupTownModel", "layRows", "(I)V"⟩, 47), (⟨"HiccupTownModel", "rowsOf", "(II)I"⟩, 47), (⟨"HiccupTownModel", "isFor", "(II)Z"⟩, 47), (⟨"HiccupTownModel", "areNear", "(II)Z"⟩, 47), (⟨"HiccupTownModel", "writeWord", "(J)V"⟩, 47), (⟨"HiccupTownModel", "write", "(I)V"⟩, 47), (⟨"HiccupTownModel", "writeNext", "(J)V"⟩, 47), (⟨"HiccupTownModel", "writeNumber", "(I)V"⟩, 47), (⟨"HiccupTownModel", "drawSeconds", "(II)I"⟩, 47), (⟨"HiccupTownModel", "draw", "(I)I"⟩, 47)]
theorem lw_r7 : ∀ q ∈ lw_privs_7, lw_okq q := List.forall_mem_cons.mpr ⟨lw_p96, List.forall_mem_cons.mpr ⟨lw_p97, List.forall_mem_cons.mpr ⟨lw_p98, List.forall_mem_cons.mpr ⟨lw_p99, List.forall_mem_cons.mpr ⟨lw_p100, List.forall_mem_cons.mpr ⟨lw_p101, List.forall_mem_cons.mpr ⟨lw_p102, List.forall_mem_cons.mpr ⟨lw_p103, List.forall_mem_cons.mpr ⟨lw_p104, List.forall_mem_cons.mpr ⟨lw_p105, List.forall_mem_cons.mpr ⟨lw_p106, List.forall_mem_cons.mpr ⟨lw_p107, List.forall_mem_cons.mpr ⟨lw_p108, List.forall_mem_cons.mpr ⟨lw_p109, List.forall_mem_cons.mpr ⟨lw_p110, List.forall_mem_cons.mpr ⟨lw_p111, fun _ h => absurd h List.not_mem_nil⟩⟩⟩⟩⟩⟩⟩⟩⟩⟩⟩⟩⟩⟩⟩⟩
theorem lw_p112 : lw_okq (⟨"HiccupTownModel", "drawsFor", "(II)V"⟩, 47) := ⟨⟨by decide +kernel, by decide +kernel⟩, List.mem_of_getElem? (i := 1289) (by decide +kernel), List.mem_of_getElem? (i := 1841) (by decide +kernel), List.mem_of_getElem? (i := 1842) (by decide +kernel)⟩
theorem lw_p113 : lw_okq (⟨"HiccupTownModel", "readBookLine", "()Z"⟩, 47) := ⟨⟨by decide +kernel, by decide +kernel⟩, List.mem_of_getElem? (i := 1289) (by decide +kernel), List.mem_of_getElem? (i := 1853) (by decide +kernel), List.mem_of_getElem? (i := 1854) (by decide +kernel)⟩
theorem lw_p114 : lw_okq (⟨"HiccupTownModel", "readDoes", "(I)Z"⟩, 47) := ⟨⟨by decide +kernel, by decide +kernel⟩, List.mem_of_getElem? (i := 1289) (by decide +kernel), List.mem_of_getElem? (i := 1857) (by decide +kernel), List.mem_of_getElem? (i := 1858) (by decide +kernel)⟩
theorem lw_p115 : lw_okq (⟨"HiccupTownModel", "readBeater", "()Z"⟩, 47) := ⟨⟨by decide +kernel, by decide +kernel⟩, List.mem_of_getElem? (i := 1289) (by decide +kernel), List.mem_of_getElem? (i := 1861) (by decide +kernel), List.mem_of_getElem? (i := 1862) (by decide +kernel)⟩
theorem lw_p116 : lw_okq (⟨"HiccupTownModel", "readNamed", "(II)Z"⟩, 47) := ⟨⟨by decide +kernel, by decide +kernel⟩, List.mem_of_getElem? (i := 1289) (by decide +kernel), List.mem_of_getElem? (i := 1865) (by decide +kernel), List.mem_of_getElem? (i := 1866) (by decide +kernel)⟩
theorem lw_p117 : lw_okq (⟨"HiccupTownModel", "keep", "(IZ)Z"⟩, 47) := ⟨⟨by decide +kernel, by decide +kernel⟩, List.mem_of_getElem? (i := 1289) (by decide +kernel), List.mem_of_getElem? (i := 1869) (by decide +kernel), List.mem_of_getElem? (i := 1870) (by decide +kernel)⟩
theorem lw_p118 : lw_okq (⟨"HiccupTownModel", "goBy", "(I)I"⟩, 47) := ⟨⟨by decide +kernel, by decide +kernel⟩, List.mem_of_getElem? (i := 1289) (by decide +kernel), List.mem_of_getElem? (i := 1873) (by decide +kernel), List.mem_of_getElem? (i := 1874) (by decide +kernel)⟩
theorem lw_p119 : lw_okq (⟨"HiccupTownModel", "stay", "(Z)V"⟩, 47) := ⟨⟨by decide +kernel, by decide +kernel⟩, List.mem_of_getElem? (i := 1289) (by decide +kernel), List.mem_of_getElem? (i := 1877) (by decide +kernel), List.mem_of_getElem? (i := 1878) (by decide +kernel)⟩
theorem lw_p120 : lw_okq (⟨"HiccupTownModel", "readOr", "()Z"⟩, 47) := ⟨⟨by decide +kernel, by decide +kernel⟩, List.mem_of_getElem? (i := 1289) (by decide +kernel), List.mem_of_getElem? (i := 1889) (by decide +kernel), List.mem_of_getElem? (i := 1890) (by decide +kernel)⟩
theorem lw_p121 : lw_okq (⟨"HiccupTownModel", "readAnd", "()Z"⟩, 47) := ⟨⟨by decide +kernel, by decide +kernel⟩, List.mem_of_getElem? (i := 1289) (by decide +kernel), List.mem_of_getElem? (i := 1893) (by decide +kernel), List.mem_of_getElem? (i := 1894) (by decide +kernel)⟩
theorem lw_p122 : lw_okq (⟨"HiccupTownModel", "readSaid", "()Z"⟩, 47) := ⟨⟨by decide +kernel, by decide +kernel⟩, List.mem_of_getElem? (i := 1289) (by decide +kernel), List.mem_of_getElem? (i := 1897) (by decide +kernel), List.mem_of_getElem? (i := 1898) (by decide +kernel)⟩
theorem lw_p123 : lw_okq (⟨"HiccupTownModel", "readBracket", "()Z"⟩, 47) := ⟨⟨by decide +kernel, by decide +kernel⟩, List.mem_of_getElem? (i := 1289) (by decide +kernel), List.mem_of_getElem? (i := 1901) (by decide +kernel), List.mem_of_getElem? (i := 1902) (by decide +kernel)⟩
theorem lw_p124 : lw_okq (⟨"HiccupTownModel", "readNot", "()Z"⟩, 47) := ⟨⟨by decide +kernel, by decide +kernel⟩, List.mem_of_getElem? (i := 1289) (by decide +kernel), List.mem_of_getElem? (i := 1905) (by decide +kernel), List.mem_of_getElem? (i := 1906) (by decide +kernel)⟩
theorem lw_p125 : lw_okq (⟨"HiccupTownModel", "saysOne", "(IIII)I"⟩, 47) := ⟨⟨by decide +kernel, by decide +kernel⟩, List.mem_of_getElem? (i := 1289) (by decide +kernel), List.mem_of_getElem? (i := 1909) (by decide +kernel), List.mem_of_getElem? (i := 1910) (by decide +kernel)⟩
theorem lw_p126 : lw_okq (⟨"HiccupTownModel", "readOf", "(I)Z"⟩, 47) := ⟨⟨by decide +kernel, by decide +kernel⟩, List.mem_of_getElem? (i := 1289) (by decide +kernel), List.mem_of_getElem? (i := 1913) (by decide +kernel), List.mem_of_getElem? (i := 1914) (by decide +kernel)⟩
theorem lw_p127 : lw_okq (⟨"HiccupTownModel", "readCompare", "(I)Z"⟩, 47) := ⟨⟨by decide +kernel, by decide +kernel⟩, List.mem_of_getElem? (i := 1289) (by decide +kernel), List.mem_of_getElem? (i := 1917) (by decide +kernel), List.mem_of_getElem? (i := 1918) (by decide +kernel)⟩
def lw_privs_8 : List (MethodName × Nat) := [(⟨"HiccupTownModel", "drawsFor", "(II)V"⟩, 47), (⟨"HiccupTownModel", "readBookLine", "()Z"⟩, 47), (⟨"HiccupTownModel", "readDoes", "(I)Z"⟩, 47), (⟨"HiccupTownModel", "readBeater", "()Z"⟩, 47), (⟨"HiccupTownModel", "readNamed", "(II)Z"⟩, 47), (⟨"HiccupTownModel", "keep", "(IZ)Z"⟩, 47), (⟨"HiccupTownModel", "goBy", "(I)I"⟩, 47), (⟨"HiccupTownModel", "stay", "(Z)V"⟩, 47), (⟨"HiccupTownModel", "readOr", "()Z"⟩, 47), (⟨"HiccupTownModel", "readAnd", "()Z"⟩, 47), (⟨"HiccupTownModel", "readSaid", "()Z"⟩, 47), (⟨"HiccupTownModel", "readBracket", "()Z"⟩, 47), (⟨"HiccupTownModel", "readNot", "()Z"⟩, 47), (⟨"HiccupTownModel", "saysOne", "(IIII)I"⟩, 47), (⟨"HiccupTownModel", "readOf", "(I)Z"⟩, 47), (⟨"HiccupTownModel", "readCompare", "(I)Z"⟩, 47)]
theorem lw_r8 : ∀ q ∈ lw_privs_8, lw_okq q := List.forall_mem_cons.mpr ⟨lw_p112, List.forall_mem_cons.mpr ⟨lw_p113, List.forall_mem_cons.mpr ⟨lw_p114, List.forall_mem_cons.mpr ⟨lw_p115, List.forall_mem_cons.mpr ⟨lw_p116, List.forall_mem_cons.mpr ⟨lw_p117, List.forall_mem_cons.mpr ⟨lw_p118, List.forall_mem_cons.mpr ⟨lw_p119, List.forall_mem_cons.mpr ⟨lw_p120, List.forall_mem_cons.mpr ⟨lw_p121, List.forall_mem_cons.mpr ⟨lw_p122, List.forall_mem_cons.mpr ⟨lw_p123, List.forall_mem_cons.mpr ⟨lw_p124, List.forall_mem_cons.mpr ⟨lw_p125, List.forall_mem_cons.mpr ⟨lw_p126, List.forall_mem_cons.mpr ⟨lw_p127, fun _ h => absurd h List.not_mem_nil⟩⟩⟩⟩⟩⟩⟩⟩⟩⟩⟩⟩⟩⟩⟩⟩
theorem lw_p128 : lw_okq (⟨"HiccupTownModel", "holds", "(II)Z"⟩, 47) := ⟨⟨by decide +kernel, by decide +kernel⟩, List.mem_of_getElem? (i := 1289) (by decide +kernel), List.mem_of_getElem? (i := 1925) (by decide +kernel), List.mem_of_getElem? (i := 1926) (by decide +kernel)⟩
def lw_privs_9 : List (MethodName × Nat) := [(⟨"HiccupTownModel", "holds", "(II)Z"⟩, 47)]
theorem lw_r9 : ∀ q ∈ lw_privs_9, lw_okq q := List.forall_mem_cons.mpr ⟨lw_p128, fun _ h => absurd h List.not_mem_nil⟩
def lw_privs : List (MethodName × Nat) := lw_privs_1 ++ (lw_privs_2 ++ (lw_privs_3 ++ (lw_privs_4 ++ (lw_privs_5 ++ (lw_privs_6 ++ (lw_privs_7 ++ (lw_privs_8 ++ (lw_privs_9))))))))
def lw_tbl : List Cond := k2_sels lw_privs ++ tables_1
theorem lw_privs_ok : ∀ q ∈ lw_privs, lw_okq q := by
  show ∀ q ∈ lw_privs_1 ++ (lw_privs_2 ++ (lw_privs_3 ++ (lw_privs_4 ++ (lw_privs_5 ++ (lw_privs_6 ++ (lw_privs_7 ++ (lw_privs_8 ++ (lw_privs_9)))))))), lw_okq q
  exact List.forall_mem_append.mpr ⟨lw_r1, List.forall_mem_append.mpr ⟨lw_r2, List.forall_mem_append.mpr ⟨lw_r3, List.forall_mem_append.mpr ⟨lw_r4, List.forall_mem_append.mpr ⟨lw_r5, List.forall_mem_append.mpr ⟨lw_r6, List.forall_mem_append.mpr ⟨lw_r7, List.forall_mem_append.mpr ⟨lw_r8, lw_r9⟩⟩⟩⟩⟩⟩⟩⟩
end
section
/-! ===== BEGIN printed: names, fields, word lists, decode rows ===== -/
def RX0 : String := "HiccupTown$Book"
def TX0 : u_T := fun k => match k with
  | 0 => ("HiccupTown$Book", "acts", "[I", true)
  | 1 => ("HiccupTown$Book", "whom", "[I", true)
  | 2 => ("HiccupTown$Book", "lines", "I", false)
  | 3 => ("HiccupTown$Book", "judged", "Z", false)
  | 4 => ("HiccupTown$Book", "why", "I", false)
  | 5 => ("HiccupTown$Book", "rightLines", "I", false)
  | 6 => ("HiccupTown$Book", "secondThen", "I", false)
  | _ => ("HiccupTown$Book", "doneThen", "I", false)
def tyX0 : Nat → FieldType := fun k => match k with
  | 0 => .array .int
  | 1 => .array .int
  | 2 => .int
  | 3 => .boolean
  | 4 => .int
  | 5 => .int
  | 6 => .int
  | _ => .int
abbrev wsX00 : List Cond := u_ws RX0 TX0 8
theorem nmX0 : ∀ a, a < 8 → ∀ b, b < 8 → a ≠ b → (TX0 a).2.1 ≠ (TX0 b).2.1 := by decide +kernel
theorem tyX0_ok : ∀ k, k < 8 → parseFieldDescriptor (TX0 k).2.2.1 = some (tyX0 k) := by decide +kernel
abbrev cX0_init : ByteArray := prog_2_method_1_code
def yX0_init : MethodName := ⟨RX0, "<init>", "()V"⟩
abbrev cX0_readBook : ByteArray := prog_2_method_2_code
def yX0_readBook : MethodName := ⟨RX0, "readBook", "(LHiccupTown$Tape;LHiccupTown$Plan;)Z"⟩
abbrev cX0_readLine : ByteArray := prog_2_method_3_code
def yX0_readLine : MethodName := ⟨RX0, "readLine", "(LHiccupTown$Tape;LHiccupTown$Plan;)Z"⟩
abbrev cX0_isAct : ByteArray := prog_2_method_4_code
def yX0_isAct : MethodName := ⟨RX0, "isAct", "(LHiccupTown$Word;)Z"⟩
abbrev cX0_actOf : ByteArray := prog_2_method_5_code
def yX0_actOf : MethodName := ⟨RX0, "actOf", "(LHiccupTown$Word;)I"⟩
abbrev cX0_readRelieve : ByteArray := prog_2_method_6_code
def yX0_readRelieve : MethodName := ⟨RX0, "readRelieve", "(LHiccupTown$Tape;LHiccupTown$Plan;)Z"⟩
abbrev cX0_readWalk : ByteArray := prog_2_method_7_code
def yX0_readWalk : MethodName := ⟨RX0, "readWalk", "(LHiccupTown$Tape;I)Z"⟩
abbrev cX0_add : ByteArray := prog_2_method_8_code
def yX0_add : MethodName := ⟨RX0, "add", "(II)Z"⟩
abbrev cX0_live : ByteArray := prog_2_method_9_code
def yX0_live : MethodName := ⟨RX0, "live", "(LHiccupTown$Plan;LHiccupTown$Moment;)I"⟩
abbrev cX0_tell : ByteArray := prog_2_method_10_code
def yX0_tell : MethodName := ⟨RX0, "tell", "(I)I"⟩
def RX1 : String := "HiccupTown$Clues"
def TX1 : u_T := fun k => match k with
  | 0 => ("HiccupTown$Clues", "fits", "[Z", true)
  | 1 => ("HiccupTown$Clues", "least", "I", false)
  | 2 => ("HiccupTown$Clues", "greatest", "I", false)
  | _ => ("HiccupTown$Clues", "nextThing", "I", false)
def tyX1 : Nat → FieldType := fun k => match k with
  | 0 => .array .boolean
  | 1 => .int
  | 2 => .int
  | _ => .int
abbrev wsX10 : List Cond := u_ws RX1 TX1 4
theorem nmX1 : ∀ a, a < 4 → ∀ b, b < 4 → a ≠ b → (TX1 a).2.1 ≠ (TX1 b).2.1 := by decide +kernel
theorem tyX1_ok : ∀ k, k < 4 → parseFieldDescriptor (TX1 k).2.2.1 = some (tyX1 k) := by decide +kernel
abbrev cX1_init : ByteArray := prog_3_method_1_code
def yX1_init : MethodName := ⟨RX1, "<init>", "()V"⟩
abbrev cX1_judge : ByteArray := prog_3_method_2_code
def yX1_judge : MethodName := ⟨RX1, "judge", "(LHiccupTown$Tape;LHiccupTown$Plan;)I"⟩
abbrev cX1_arePairs : ByteArray := prog_3_method_3_code
def yX1_arePairs : MethodName := ⟨RX1, "arePairs", "(LHiccupTown$Tape;LHiccupTown$Plan;)Z"⟩
abbrev cX1_leavesRests : ByteArray := prog_3_method_4_code
def yX1_leavesRests : MethodName := ⟨RX1, "leavesRests", "(LHiccupTown$Tape;LHiccupTown$Plan;I)Z"⟩
abbrev cX1_keepBounds : ByteArray := prog_3_method_5_code
def yX1_keepBounds : MethodName := ⟨RX1, "keepBounds", "()V"⟩
abbrev cX1_thingToLookAt : ByteArray := prog_3_method_6_code
def yX1_thingToLookAt : MethodName := ⟨RX1, "thingToLookAt", "(LHiccupTown$Plan;)I"⟩
abbrev cX1_mostLeftBy : ByteArray := prog_3_method_7_code
def yX1_mostLeftBy : MethodName := ⟨RX1, "mostLeftBy", "(I)I"⟩
def RX2 : String := "HiccupTown$Moment"
def TX2 : u_T := fun k => match k with
  | 0 => ("HiccupTown$Moment", "second", "I", false)
  | 1 => ("HiccupTown$Moment", "beater", "I", false)
  | 2 => ("HiccupTown$Moment", "waits", "I", false)
  | 3 => ("HiccupTown$Moment", "stands", "Z", false)
  | 4 => ("HiccupTown$Moment", "beats", "I", false)
  | 5 => ("HiccupTown$Moment", "out", "I", false)
  | 6 => ("HiccupTown$Moment", "place", "[I", true)
  | 7 => ("HiccupTown$Moment", "steps", "[I", true)
  | _ => ("HiccupTown$Moment", "left", "[I", true)
def tyX2 : Nat → FieldType := fun k => match k with
  | 0 => .int
  | 1 => .int
  | 2 => .int
  | 3 => .boolean
  | 4 => .int
  | 5 => .int
  | 6 => .array .int
  | 7 => .array .int
  | _ => .array .int
abbrev wsX20 : List Cond := u_ws RX2 TX2 9
theorem nmX2 : ∀ a, a < 9 → ∀ b, b < 9 → a ≠ b → (TX2 a).2.1 ≠ (TX2 b).2.1 := by decide +kernel
theorem tyX2_ok : ∀ k, k < 9 → parseFieldDescriptor (TX2 k).2.2.1 = some (tyX2 k) := by decide +kernel
abbrev cX2_init : ByteArray := prog_4_method_1_code
def yX2_init : MethodName := ⟨RX2, "<init>", "()V"⟩
abbrev cX2_begin : ByteArray := prog_4_method_2_code
def yX2_begin : MethodName := ⟨RX2, "begin", "(LHiccupTown$Plan;)V"⟩
abbrev cX2_copyFrom : ByteArray := prog_4_method_3_code
def yX2_copyFrom : MethodName := ⟨RX2, "copyFrom", "(LHiccupTown$Moment;)V"⟩
abbrev cX2_isOut : ByteArray := prog_4_method_4_code
def yX2_isOut : MethodName := ⟨RX2, "isOut", "(I)Z"⟩
abbrev cX2_isDone : ByteArray := prog_4_method_5_code
def yX2_isDone : MethodName := ⟨RX2, "isDone", "(I)Z"⟩
abbrev cX2_secondsLeft : ByteArray := prog_4_method_6_code
def yX2_secondsLeft : MethodName := ⟨RX2, "secondsLeft", "()I"⟩
abbrev cX2_doneWorks : ByteArray := prog_4_method_7_code
def yX2_doneWorks : MethodName := ⟨RX2, "doneWorks", "(LHiccupTown$Plan;)I"⟩
abbrev cX2_openWorks : ByteArray := prog_4_method_8_code
def yX2_openWorks : MethodName := ⟨RX2, "openWorks", "(LHiccupTown$Plan;)I"⟩
abbrev cX2_howWorkIs : ByteArray := prog_4_method_9_code
def yX2_howWorkIs : MethodName := ⟨RX2, "howWorkIs", "(LHiccupTown$Plan;I)I"⟩
abbrev cX2_isBusy : ByteArray := prog_4_method_10_code
def yX2_isBusy : MethodName := ⟨RX2, "isBusy", "(LHiccupTown$Plan;I)Z"⟩
abbrev cX2_placeBehind : ByteArray := prog_4_method_11_code
def yX2_placeBehind : MethodName := ⟨RX2, "placeBehind", "(LHiccupTown$Plan;II)I"⟩
abbrev cX2_somebodyWalksAt : ByteArray := prog_4_method_12_code
def yX2_somebodyWalksAt : MethodName := ⟨RX2, "somebodyWalksAt", "(LHiccupTown$Plan;I)Z"⟩
abbrev cX2_act : ByteArray := prog_4_method_13_code
def yX2_act : MethodName := ⟨RX2, "act", "(LHiccupTown$Plan;II)I"⟩
abbrev cX2_takeFright : ByteArray := prog_4_method_14_code
def yX2_takeFright : MethodName := ⟨RX2, "takeFright", "(LHiccupTown$Plan;)I"⟩
abbrev cX2_takeCure : ByteArray := prog_4_method_15_code
def yX2_takeCure : MethodName := ⟨RX2, "takeCure", "()I"⟩
abbrev cX2_takeFly : ByteArray := prog_4_method_16_code
def yX2_takeFly : MethodName := ⟨RX2, "takeFly", "()I"⟩
abbrev cX2_changeBeater : ByteArray := prog_4_method_17_code
def yX2_changeBeater : MethodName := ⟨RX2, "changeBeater", "(LHiccupTown$Plan;I)I"⟩
abbrev cX2_goOut : ByteArray := prog_4_method_18_code
def yX2_goOut : MethodName := ⟨RX2, "goOut", "(I)I"⟩
abbrev cX2_comeIn : ByteArray := prog_4_method_19_code
def yX2_comeIn : MethodName := ⟨RX2, "comeIn", "(LHiccupTown$Plan;I)I"⟩
abbrev cX2_passAll : ByteArray := prog_4_method_20_code
def yX2_passAll : MethodName := ⟨RX2, "passAll", "(LHiccupTown$Plan;I)I"⟩
abbrev cX2_passSecond : ByteArray := prog_4_method_21_code
def yX2_passSecond : MethodName := ⟨RX2, "passSecond", "(LHiccupTown$Plan;)V"⟩
abbrev cX2_beat : ByteArray := prog_4_method_22_code
def yX2_beat : MethodName := ⟨RX2, "beat", "(LHiccupTown$Plan;)V"⟩
abbrev cX2_secondsTillDone : ByteArray := prog_4_method_23_code
def yX2_secondsTillDone : MethodName := ⟨RX2, "secondsTillDone", "(LHiccupTown$Plan;I)I"⟩
abbrev cX2_secondsTillFree : ByteArray := prog_4_method_24_code
def yX2_secondsTillFree : MethodName := ⟨RX2, "secondsTillFree", "(LHiccupTown$Plan;I)I"⟩
abbrev cX2_passDrawn : ByteArray := prog_4_method_25_code
def yX2_passDrawn : MethodName := ⟨RX2, "passDrawn", "(LHiccupTown$Plan;II)I"⟩
abbrev cX2_passDrawnSecond : ByteArray := prog_4_method_26_code
def yX2_passDrawnSecond : MethodName := ⟨RX2, "passDrawnSecond", "(LHiccupTown$Plan;I)I"⟩
abbrev cX2_leaveOrJoin : ByteArray := prog_4_method_27_code
def yX2_leaveOrJoin : MethodName := ⟨RX2, "leaveOrJoin", "(LHiccupTown$Plan;I)V"⟩
abbrev cX2_stir : ByteArray := prog_4_method_28_code
def yX2_stir : MethodName := ⟨RX2, "stir", "(I)I"⟩
abbrev cX2_drawOf : ByteArray := prog_4_method_29_code
def yX2_drawOf : MethodName := ⟨RX2, "drawOf", "(II)I"⟩
abbrev cX2_votesBehindRound : ByteArray := prog_4_method_30_code
def yX2_votesBehindRound : MethodName := ⟨RX2, "votesBehindRound", "(LHiccupTown$Plan;I)I"⟩
abbrev cX2_votesBehind : ByteArray := prog_4_method_31_code
def yX2_votesBehind : MethodName := ⟨RX2, "votesBehind", "(LHiccupTown$Plan;II)I"⟩
abbrev cX2_willBeNear : ByteArray := prog_4_method_32_code
def yX2_willBeNear : MethodName := ⟨RX2, "willBeNear", "(LHiccupTown$Plan;II)Z"⟩
def RX3 : String := "HiccupTown$Past"
def TX3 : u_T := fun k => match k with
  | 0 => ("HiccupTown$Past", "moments", "[LHiccupTown$Moment;", true)
  | 1 => ("HiccupTown$Past", "newest", "I", false)
  | _ => ("HiccupTown$Past", "size", "I", false)
def tyX3 : Nat → FieldType := fun k => match k with
  | 0 => .array (.object "HiccupTown$Moment")
  | 1 => .int
  | _ => .int
abbrev wsX30 : List Cond := u_ws RX3 TX3 3
theorem nmX3 : ∀ a, a < 3 → ∀ b, b < 3 → a ≠ b → (TX3 a).2.1 ≠ (TX3 b).2.1 := by decide +kernel
theorem tyX3_ok : ∀ k, k < 3 → parseFieldDescriptor (TX3 k).2.2.1 = some (tyX3 k) := by decide +kernel
abbrev cX3_init : ByteArray := prog_5_method_1_code
def yX3_init : MethodName := ⟨RX3, "<init>", "()V"⟩
abbrev cX3_forget : ByteArray := prog_5_method_2_code
def yX3_forget : MethodName := ⟨RX3, "forget", "()V"⟩
abbrev cX3_keep : ByteArray := prog_5_method_3_code
def yX3_keep : MethodName := ⟨RX3, "keep", "(LHiccupTown$Moment;)V"⟩
abbrev cX3_takeBack : ByteArray := prog_5_method_4_code
def yX3_takeBack : MethodName := ⟨RX3, "takeBack", "(LHiccupTown$Moment;)I"⟩
def RX4 : String := "HiccupTown$Plan"
def TX4 : u_T := fun k => match k with
  | 0 => ("HiccupTown$Plan", "ring", "I", false)
  | 1 => ("HiccupTown$Plan", "outAtFirst", "I", false)
  | 2 => ("HiccupTown$Plan", "counts", "[I", true)
  | 3 => ("HiccupTown$Plan", "names", "[J", true)
  | 4 => ("HiccupTown$Plan", "gaps", "[I", true)
  | 5 => ("HiccupTown$Plan", "personPlace", "[I", true)
  | 6 => ("HiccupTown$Plan", "personPace", "[I", true)
  | 7 => ("HiccupTown$Plan", "workPlace", "[I", true)
  | 8 => ("HiccupTown$Plan", "workBeats", "[I", true)
  | 9 => ("HiccupTown$Plan", "workBehind", "[I", true)
  | _ => ("HiccupTown$Plan", "every", "[I", true)
def tyX4 : Nat → FieldType := fun k => match k with
  | 0 => .int
  | 1 => .int
  | 2 => .array .int
  | 3 => .array .long
  | 4 => .array .int
  | 5 => .array .int
  | 6 => .array .int
  | 7 => .array .int
  | 8 => .array .int
  | 9 => .array .int
  | _ => .array .int
abbrev wsX40 : List Cond := u_ws RX4 TX4 11
theorem nmX4 : ∀ a, a < 11 → ∀ b, b < 11 → a ≠ b → (TX4 a).2.1 ≠ (TX4 b).2.1 := by decide +kernel
theorem tyX4_ok : ∀ k, k < 11 → parseFieldDescriptor (TX4 k).2.2.1 = some (tyX4 k) := by decide +kernel
abbrev cX4_init : ByteArray := prog_6_method_1_code
def yX4_init : MethodName := ⟨RX4, "<init>", "()V"⟩
abbrev cX4_clear : ByteArray := prog_6_method_2_code
def yX4_clear : MethodName := ⟨RX4, "clear", "()V"⟩
abbrev cX4_copyFrom : ByteArray := prog_6_method_3_code
def yX4_copyFrom : MethodName := ⟨RX4, "copyFrom", "(LHiccupTown$Plan;)V"⟩
abbrev cX4_has : ByteArray := prog_6_method_4_code
def yX4_has : MethodName := ⟨RX4, "has", "(II)Z"⟩
abbrev cX4_isFull : ByteArray := prog_6_method_5_code
def yX4_isFull : MethodName := ⟨RX4, "isFull", "(I)Z"⟩
abbrev cX4_beaters : ByteArray := prog_6_method_6_code
def yX4_beaters : MethodName := ⟨RX4, "beaters", "()I"⟩
abbrev cX4_mayBeat : ByteArray := prog_6_method_7_code
def yX4_mayBeat : MethodName := ⟨RX4, "mayBeat", "(I)Z"⟩
abbrev cX4_gapOf : ByteArray := prog_6_method_8_code
def yX4_gapOf : MethodName := ⟨RX4, "gapOf", "(I)I"⟩
abbrev cX4_addName : ByteArray := prog_6_method_9_code
def yX4_addName : MethodName := ⟨RX4, "addName", "(IJ)I"⟩
abbrev cX4_nameOf : ByteArray := prog_6_method_10_code
def yX4_nameOf : MethodName := ⟨RX4, "nameOf", "(II)J"⟩
abbrev cX4_numberOf : ByteArray := prog_6_method_11_code
def yX4_numberOf : MethodName := ⟨RX4, "numberOf", "(IJ)I"⟩
abbrev cX4_knows : ByteArray := prog_6_method_12_code
def yX4_knows : MethodName := ⟨RX4, "knows", "(J)Z"⟩
abbrev cX4_placeOn : ByteArray := prog_6_method_13_code
def yX4_placeOn : MethodName := ⟨RX4, "placeOn", "(II)I"⟩
def RX5 : String := "HiccupTown$Rows"
def TX5 : u_T := fun k => match k with
  | 0 => ("HiccupTown$Rows", "ways", "[[I", true)
  | 1 => ("HiccupTown$Rows", "first", "[I", true)
  | _ => ("HiccupTown$Rows", "firstLength", "I", false)
def tyX5 : Nat → FieldType := fun k => match k with
  | 0 => .array (.array .int)
  | 1 => .array .int
  | _ => .int
abbrev wsX50 : List Cond := u_ws RX5 TX5 3
theorem nmX5 : ∀ a, a < 3 → ∀ b, b < 3 → a ≠ b → (TX5 a).2.1 ≠ (TX5 b).2.1 := by decide +kernel
theorem tyX5_ok : ∀ k, k < 3 → parseFieldDescriptor (TX5 k).2.2.1 = some (tyX5 k) := by decide +kernel
abbrev cX5_init : ByteArray := prog_7_method_1_code
def yX5_init : MethodName := ⟨RX5, "<init>", "()V"⟩
abbrev cX5_countFor : ByteArray := prog_7_method_2_code
def yX5_countFor : MethodName := ⟨RX5, "countFor", "(LHiccupTown$Plan;II)I"⟩
abbrev cX5_waysWithOneMore : ByteArray := prog_7_method_3_code
def yX5_waysWithOneMore : MethodName := ⟨RX5, "waysWithOneMore", "(LHiccupTown$Plan;II)I"⟩
abbrev cX5_keepFirst : ByteArray := prog_7_method_4_code
def yX5_keepFirst : MethodName := ⟨RX5, "keepFirst", "(LHiccupTown$Plan;II)V"⟩
abbrev cX5_leastBeater : ByteArray := prog_7_method_5_code
def yX5_leastBeater : MethodName := ⟨RX5, "leastBeater", "(LHiccupTown$Plan;II)I"⟩
def RX6 : String := "HiccupTown$Scene"
def TX6 : u_T := fun k => match k with
  | 0 => ("HiccupTown$Scene", "plan", "LHiccupTown$Plan;", true)
  | 1 => ("HiccupTown$Scene", "moment", "LHiccupTown$Moment;", true)
  | 2 => ("HiccupTown$Scene", "sentence", "LHiccupTown$Sentence;", true)
  | _ => ("HiccupTown$Scene", "kept", "Z", false)
def tyX6 : Nat → FieldType := fun k => match k with
  | 0 => .object "HiccupTown$Plan"
  | 1 => .object "HiccupTown$Moment"
  | 2 => .object "HiccupTown$Sentence"
  | _ => .boolean
abbrev wsX60 : List Cond := u_ws RX6 TX6 4
theorem nmX6 : ∀ a, a < 4 → ∀ b, b < 4 → a ≠ b → (TX6 a).2.1 ≠ (TX6 b).2.1 := by decide +kernel
theorem tyX6_ok : ∀ k, k < 4 → parseFieldDescriptor (TX6 k).2.2.1 = some (tyX6 k) := by decide +kernel
abbrev cX6_init : ByteArray := prog_8_method_1_code
def yX6_init : MethodName := ⟨RX6, "<init>", "()V"⟩
abbrev cX6_begin : ByteArray := prog_8_method_2_code
def yX6_begin : MethodName := ⟨RX6, "begin", "(LHiccupTown$Plan;)V"⟩
abbrev cX6_copyFrom : ByteArray := prog_8_method_3_code
def yX6_copyFrom : MethodName := ⟨RX6, "copyFrom", "(LHiccupTown$Scene;)V"⟩
def RX7 : String := "HiccupTown$Sentence"
def TX7 : u_T := fun k => match k with
  | 0 => ("HiccupTown$Sentence", "parts", "[LHiccupTown$Word;", true)
  | 1 => ("HiccupTown$Sentence", "signs", "[LHiccupTown$Word;", true)
  | 2 => ("HiccupTown$Sentence", "numbers", "[I", true)
  | 3 => ("HiccupTown$Sentence", "size", "I", false)
  | _ => ("HiccupTown$Sentence", "ones", "I", false)
def tyX7 : Nat → FieldType := fun k => match k with
  | 0 => .array (.object "HiccupTown$Word")
  | 1 => .array (.object "HiccupTown$Word")
  | 2 => .array .int
  | 3 => .int
  | _ => .int
abbrev wsX70 : List Cond := u_ws RX7 TX7 5
theorem nmX7 : ∀ a, a < 5 → ∀ b, b < 5 → a ≠ b → (TX7 a).2.1 ≠ (TX7 b).2.1 := by decide +kernel
theorem tyX7_ok : ∀ k, k < 5 → parseFieldDescriptor (TX7 k).2.2.1 = some (tyX7 k) := by decide +kernel
abbrev cX7_init : ByteArray := prog_9_method_1_code
def yX7_init : MethodName := ⟨RX7, "<init>", "()V"⟩
abbrev cX7_clear : ByteArray := prog_9_method_2_code
def yX7_clear : MethodName := ⟨RX7, "clear", "()V"⟩
abbrev cX7_isTold : ByteArray := prog_9_method_3_code
def yX7_isTold : MethodName := ⟨RX7, "isTold", "()Z"⟩
abbrev cX7_copyFrom : ByteArray := prog_9_method_4_code
def yX7_copyFrom : MethodName := ⟨RX7, "copyFrom", "(LHiccupTown$Sentence;)V"⟩
abbrev cX7_readSentence : ByteArray := prog_9_method_5_code
def yX7_readSentence : MethodName := ⟨RX7, "readSentence", "(LHiccupTown$Tape;LHiccupTown$Plan;)Z"⟩
abbrev cX7_readCond : ByteArray := prog_9_method_6_code
def yX7_readCond : MethodName := ⟨RX7, "readCond", "(LHiccupTown$Tape;LHiccupTown$Plan;I)Z"⟩
abbrev cX7_readAll : ByteArray := prog_9_method_7_code
def yX7_readAll : MethodName := ⟨RX7, "readAll", "(LHiccupTown$Tape;LHiccupTown$Plan;I)Z"⟩
abbrev cX7_readOne : ByteArray := prog_9_method_8_code
def yX7_readOne : MethodName := ⟨RX7, "readOne", "(LHiccupTown$Tape;LHiccupTown$Plan;I)Z"⟩
abbrev cX7_beginsOne : ByteArray := prog_9_method_9_code
def yX7_beginsOne : MethodName := ⟨RX7, "beginsOne", "(LHiccupTown$Word;)Z"⟩
abbrev cX7_readCompared : ByteArray := prog_9_method_10_code
def yX7_readCompared : MethodName := ⟨RX7, "readCompared", "(LHiccupTown$Tape;LHiccupTown$Word;)Z"⟩
abbrev cX7_add : ByteArray := prog_9_method_11_code
def yX7_add : MethodName := ⟨RX7, "add", "(LHiccupTown$Word;LHiccupTown$Word;I)Z"⟩
abbrev cX7_holds : ByteArray := prog_9_method_12_code
def yX7_holds : MethodName := ⟨RX7, "holds", "(LHiccupTown$Plan;LHiccupTown$Moment;I)Z"⟩
abbrev cX7_holdsAlone : ByteArray := prog_9_method_13_code
def yX7_holdsAlone : MethodName := ⟨RX7, "holdsAlone", "(LHiccupTown$Plan;LHiccupTown$Moment;II)Z"⟩
abbrev cX7_measure : ByteArray := prog_9_method_14_code
def yX7_measure : MethodName := ⟨RX7, "measure", "(LHiccupTown$Plan;LHiccupTown$Moment;ILHiccupTown$Word;)I"⟩
abbrev cX7_compares : ByteArray := prog_9_method_15_code
def yX7_compares : MethodName := ⟨RX7, "compares", "(ILHiccupTown$Word;I)Z"⟩
def RX8 : String := "HiccupTown$Tape"
def TX8 : u_T := fun k => match k with
  | 0 => ("HiccupTown$Tape", "bytes", "[B", true)
  | 1 => ("HiccupTown$Tape", "length", "I", false)
  | 2 => ("HiccupTown$Tape", "most", "I", false)
  | 3 => ("HiccupTown$Tape", "position", "I", false)
  | 4 => ("HiccupTown$Tape", "kind", "LHiccupTown$Word;", false)
  | 5 => ("HiccupTown$Tape", "place", "I", false)
  | 6 => ("HiccupTown$Tape", "number", "I", false)
  | 7 => ("HiccupTown$Tape", "key", "J", false)
  | 8 => ("HiccupTown$Tape", "fault", "I", false)
  | _ => ("HiccupTown$Tape", "faultPlace", "I", false)
def tyX8 : Nat → FieldType := fun k => match k with
  | 0 => .array .byte
  | 1 => .int
  | 2 => .int
  | 3 => .int
  | 4 => .object "HiccupTown$Word"
  | 5 => .int
  | 6 => .int
  | 7 => .long
  | 8 => .int
  | _ => .int
abbrev wsX80 : List Cond := u_ws RX8 TX8 10
theorem nmX8 : ∀ a, a < 10 → ∀ b, b < 10 → a ≠ b → (TX8 a).2.1 ≠ (TX8 b).2.1 := by decide +kernel
theorem tyX8_ok : ∀ k, k < 10 → parseFieldDescriptor (TX8 k).2.2.1 = some (tyX8 k) := by decide +kernel
abbrev cX8_init : ByteArray := prog_10_method_1_code
def yX8_init : MethodName := ⟨RX8, "<init>", "()V"⟩
abbrev cX8_append : ByteArray := prog_10_method_2_code
def yX8_append : MethodName := ⟨RX8, "append", "(I)V"⟩
abbrev cX8_get : ByteArray := prog_10_method_3_code
def yX8_get : MethodName := ⟨RX8, "get", "(I)I"⟩
abbrev cX8_beginText : ByteArray := prog_10_method_4_code
def yX8_beginText : MethodName := ⟨RX8, "beginText", "(I)V"⟩
abbrev cX8_advance : ByteArray := prog_10_method_5_code
def yX8_advance : MethodName := ⟨RX8, "advance", "()V"⟩
abbrev cX8_skipBlanks : ByteArray := prog_10_method_6_code
def yX8_skipBlanks : MethodName := ⟨RX8, "skipBlanks", "()V"⟩
abbrev cX8_readToken : ByteArray := prog_10_method_7_code
def yX8_readToken : MethodName := ⟨RX8, "readToken", "()V"⟩
abbrev cX8_joinLetters : ByteArray := prog_10_method_8_code
def yX8_joinLetters : MethodName := ⟨RX8, "joinLetters", "()V"⟩
abbrev cX8_joinDigits : ByteArray := prog_10_method_9_code
def yX8_joinDigits : MethodName := ⟨RX8, "joinDigits", "()V"⟩
abbrev cX8_failAt : ByteArray := prog_10_method_10_code
def yX8_failAt : MethodName := ⟨RX8, "failAt", "(II)Z"⟩
abbrev cX8_fail : ByteArray := prog_10_method_11_code
def yX8_fail : MethodName := ⟨RX8, "fail", "(I)Z"⟩
abbrev cX8_take : ByteArray := prog_10_method_12_code
def yX8_take : MethodName := ⟨RX8, "take", "(LHiccupTown$Word;)Z"⟩
abbrev cX8_takeNumber : ByteArray := prog_10_method_13_code
def yX8_takeNumber : MethodName := ⟨RX8, "takeNumber", "(II)I"⟩
abbrev cX8_takeOneOf : ByteArray := prog_10_method_14_code
def yX8_takeOneOf : MethodName := ⟨RX8, "takeOneOf", "(LHiccupTown$Plan;I)I"⟩
def RX9 : String := "HiccupTown$TownReader"
def TX9 : u_T := fun k => match k with
  | 0 => ("HiccupTown$TownReader", "plan", "LHiccupTown$Plan;", true)
  | 1 => ("HiccupTown$TownReader", "ringTold", "Z", false)
  | _ => ("HiccupTown$TownReader", "gapTold", "Z", false)
def tyX9 : Nat → FieldType := fun k => match k with
  | 0 => .object "HiccupTown$Plan"
  | 1 => .boolean
  | _ => .boolean
abbrev wsX90 : List Cond := u_ws RX9 TX9 3
theorem nmX9 : ∀ a, a < 3 → ∀ b, b < 3 → a ≠ b → (TX9 a).2.1 ≠ (TX9 b).2.1 := by decide +kernel
theorem tyX9_ok : ∀ k, k < 3 → parseFieldDescriptor (TX9 k).2.2.1 = some (tyX9 k) := by decide +kernel
abbrev cX9_init : ByteArray := prog_11_method_1_code
def yX9_init : MethodName := ⟨RX9, "<init>", "()V"⟩
abbrev cX9_readTown : ByteArray := prog_11_method_2_code
def yX9_readTown : MethodName := ⟨RX9, "readTown", "(LHiccupTown$Tape;)I"⟩
abbrev cX9_readLine : ByteArray := prog_11_method_3_code
def yX9_readLine : MethodName := ⟨RX9, "readLine", "(LHiccupTown$Tape;)Z"⟩
abbrev cX9_readRing : ByteArray := prog_11_method_4_code
def yX9_readRing : MethodName := ⟨RX9, "readRing", "(LHiccupTown$Tape;)Z"⟩
abbrev cX9_readGap : ByteArray := prog_11_method_5_code
def yX9_readGap : MethodName := ⟨RX9, "readGap", "(LHiccupTown$Tape;)Z"⟩
abbrev cX9_readNewOne : ByteArray := prog_11_method_6_code
def yX9_readNewOne : MethodName := ⟨RX9, "readNewOne", "(LHiccupTown$Tape;I)I"⟩
abbrev cX9_readCousin : ByteArray := prog_11_method_7_code
def yX9_readCousin : MethodName := ⟨RX9, "readCousin", "(LHiccupTown$Tape;)Z"⟩
abbrev cX9_readPerson : ByteArray := prog_11_method_8_code
def yX9_readPerson : MethodName := ⟨RX9, "readPerson", "(LHiccupTown$Tape;)Z"⟩
abbrev cX9_readWork : ByteArray := prog_11_method_9_code
def yX9_readWork : MethodName := ⟨RX9, "readWork", "(LHiccupTown$Tape;)Z"⟩
abbrev cX9_readAfter : ByteArray := prog_11_method_10_code
def yX9_readAfter : MethodName := ⟨RX9, "readAfter", "(LHiccupTown$Tape;)Z"⟩
abbrev cX9_readThing : ByteArray := prog_11_method_11_code
def yX9_readThing : MethodName := ⟨RX9, "readThing", "(LHiccupTown$Tape;)Z"⟩
def RX10 : String := "HiccupTown$Word"
def TX10 : u_T := fun k => match k with
  | _ => ("", "", "", false)
def tyX10 : Nat → FieldType := fun k => match k with
  | _ => .int
abbrev wsX100 : List Cond := u_ws RX10 TX10 0
theorem nmX10 : ∀ a, a < 0 → ∀ b, b < 0 → a ≠ b → (TX10 a).2.1 ≠ (TX10 b).2.1 := by decide +kernel
theorem tyX10_ok : ∀ k, k < 0 → parseFieldDescriptor (TX10 k).2.2.1 = some (tyX10 k) := by decide +kernel
abbrev cX10_find : ByteArray := prog_12_method_5_code
def yX10_find : MethodName := ⟨RX10, "find", "(JLHiccupTown$Word;)LHiccupTown$Word;"⟩
def RX11 : String := "HiccupTown"
def TX11 : u_T := fun k => match k with
  | 0 => ("HiccupTown", "tape", "LHiccupTown$Tape;", true)
  | 1 => ("HiccupTown", "townReader", "LHiccupTown$TownReader;", true)
  | 2 => ("HiccupTown", "scene", "LHiccupTown$Scene;", true)
  | 3 => ("HiccupTown", "images", "[LHiccupTown$Scene;", true)
  | 4 => ("HiccupTown", "past", "LHiccupTown$Past;", true)
  | 5 => ("HiccupTown", "before", "LHiccupTown$Moment;", true)
  | 6 => ("HiccupTown", "trial", "LHiccupTown$Moment;", true)
  | 7 => ("HiccupTown", "clues", "LHiccupTown$Clues;", true)
  | 8 => ("HiccupTown", "beatRows", "LHiccupTown$Rows;", true)
  | 9 => ("HiccupTown", "latestBook", "LHiccupTown$Book;", true)
  | 10 => ("HiccupTown", "draft", "LHiccupTown$Sentence;", true)
  | 11 => ("HiccupTown", "tagBytes", "[B", true)
  | 12 => ("HiccupTown", "tagLength", "I", false)
  | 13 => ("HiccupTown", "faultKind", "I", false)
  | _ => ("HiccupTown", "votes", "I", false)
def tyX11 : Nat → FieldType := fun k => match k with
  | 0 => .object "HiccupTown$Tape"
  | 1 => .object "HiccupTown$TownReader"
  | 2 => .object "HiccupTown$Scene"
  | 3 => .array (.object "HiccupTown$Scene")
  | 4 => .object "HiccupTown$Past"
  | 5 => .object "HiccupTown$Moment"
  | 6 => .object "HiccupTown$Moment"
  | 7 => .object "HiccupTown$Clues"
  | 8 => .object "HiccupTown$Rows"
  | 9 => .object "HiccupTown$Book"
  | 10 => .object "HiccupTown$Sentence"
  | 11 => .array .byte
  | 12 => .int
  | 13 => .int
  | _ => .int
abbrev wsX110 : List Cond := u_ws RX11 TX11 15
theorem nmX11 : ∀ a, a < 15 → ∀ b, b < 15 → a ≠ b → (TX11 a).2.1 ≠ (TX11 b).2.1 := by decide +kernel
theorem tyX11_ok : ∀ k, k < 15 → parseFieldDescriptor (TX11 k).2.2.1 = some (tyX11 k) := by decide +kernel
abbrev cX11_init : ByteArray := prog_1_method_1_code
def yX11_init : MethodName := ⟨RX11, "<init>", "()V"⟩
abbrev cX11_feed : ByteArray := prog_1_method_2_code
def yX11_feed : MethodName := ⟨RX11, "feed", "(IIIII)I"⟩
abbrev cX11_end : ByteArray := prog_1_method_3_code
def yX11_end : MethodName := ⟨RX11, "end", "(I)Z"⟩
abbrev cX11_town : ByteArray := prog_1_method_4_code
def yX11_town : MethodName := ⟨RX11, "town", "()I"⟩
abbrev cX11_fault : ByteArray := prog_1_method_5_code
def yX11_fault : MethodName := ⟨RX11, "fault", "()I"⟩
abbrev cX11_person : ByteArray := prog_1_method_6_code
def yX11_person : MethodName := ⟨RX11, "person", "(II)I"⟩
abbrev cX11_work : ByteArray := prog_1_method_7_code
def yX11_work : MethodName := ⟨RX11, "work", "(II)I"⟩
abbrev cX11_gap : ByteArray := prog_1_method_8_code
def yX11_gap : MethodName := ⟨RX11, "gap", "(I)I"⟩
abbrev cX11_now : ByteArray := prog_1_method_9_code
def yX11_now : MethodName := ⟨RX11, "now", "(I)I"⟩
abbrev cX11_fright : ByteArray := prog_1_method_10_code
def yX11_fright : MethodName := ⟨RX11, "fright", "()I"⟩
abbrev cX11_cure : ByteArray := prog_1_method_11_code
def yX11_cure : MethodName := ⟨RX11, "cure", "()I"⟩
abbrev cX11_fly : ByteArray := prog_1_method_12_code
def yX11_fly : MethodName := ⟨RX11, "fly", "()I"⟩
abbrev cX11_relieve : ByteArray := prog_1_method_13_code
def yX11_relieve : MethodName := ⟨RX11, "relieve", "(I)I"⟩
abbrev cX11_leave : ByteArray := prog_1_method_14_code
def yX11_leave : MethodName := ⟨RX11, "leave", "(I)I"⟩
abbrev cX11_join : ByteArray := prog_1_method_15_code
def yX11_join : MethodName := ⟨RX11, "join", "(I)I"⟩
abbrev cX11_seconds : ByteArray := prog_1_method_16_code
def yX11_seconds : MethodName := ⟨RX11, "seconds", "(I)I"⟩
abbrev cX11_undo : ByteArray := prog_1_method_17_code
def yX11_undo : MethodName := ⟨RX11, "undo", "()I"⟩
abbrev cX11_at : ByteArray := prog_1_method_18_code
def yX11_at : MethodName := ⟨RX11, "at", "(II)I"⟩
abbrev cX11_meet : ByteArray := prog_1_method_19_code
def yX11_meet : MethodName := ⟨RX11, "meet", "(II)I"⟩
abbrev cX11_when : ByteArray := prog_1_method_20_code
def yX11_when : MethodName := ⟨RX11, "when", "(I)I"⟩
abbrev cX11_once : ByteArray := prog_1_method_21_code
def yX11_once : MethodName := ⟨RX11, "once", "(II)I"⟩
abbrev cX11_stood : ByteArray := prog_1_method_22_code
def yX11_stood : MethodName := ⟨RX11, "stood", "()I"⟩
abbrev cX11_stoodLeast : ByteArray := prog_1_method_23_code
def yX11_stoodLeast : MethodName := ⟨RX11, "stoodLeast", "()I"⟩
abbrev cX11_stoodMost : ByteArray := prog_1_method_24_code
def yX11_stoodMost : MethodName := ⟨RX11, "stoodMost", "()I"⟩
abbrev cX11_next : ByteArray := prog_1_method_25_code
def yX11_next : MethodName := ⟨RX11, "next", "()I"⟩
abbrev cX11_rows : ByteArray := prog_1_method_26_code
def yX11_rows : MethodName := ⟨RX11, "rows", "(II)I"⟩
abbrev cX11_rowAt : ByteArray := prog_1_method_27_code
def yX11_rowAt : MethodName := ⟨RX11, "rowAt", "(I)I"⟩
abbrev cX11_swift : ByteArray := prog_1_method_28_code
def yX11_swift : MethodName := ⟨RX11, "swift", "(I)I"⟩
abbrev cX11_joins : ByteArray := prog_1_method_29_code
def yX11_joins : MethodName := ⟨RX11, "joins", "(I)I"⟩
abbrev cX11_vote : ByteArray := prog_1_method_30_code
def yX11_vote : MethodName := ⟨RX11, "vote", "()I"⟩
abbrev cX11_voted : ByteArray := prog_1_method_31_code
def yX11_voted : MethodName := ⟨RX11, "voted", "()I"⟩
abbrev cX11_tag : ByteArray := prog_1_method_32_code
def yX11_tag : MethodName := ⟨RX11, "tag", "(I)I"⟩
abbrev cX11_byteAt : ByteArray := prog_1_method_33_code
def yX11_byteAt : MethodName := ⟨RX11, "byteAt", "(I)I"⟩
abbrev cX11_drawn : ByteArray := prog_1_method_34_code
def yX11_drawn : MethodName := ⟨RX11, "drawn", "(II)I"⟩
abbrev cX11_odds : ByteArray := prog_1_method_35_code
def yX11_odds : MethodName := ⟨RX11, "odds", "(III)I"⟩
abbrev cX11_book : ByteArray := prog_1_method_36_code
def yX11_book : MethodName := ⟨RX11, "book", "(I)I"⟩
abbrev cX11_told : ByteArray := prog_1_method_37_code
def yX11_told : MethodName := ⟨RX11, "told", "(I)I"⟩
abbrev cX11_sentence : ByteArray := prog_1_method_38_code
def yX11_sentence : MethodName := ⟨RX11, "sentence", "()I"⟩
abbrev cX11_said : ByteArray := prog_1_method_39_code
def yX11_said : MethodName := ⟨RX11, "said", "(I)I"⟩
abbrev cX11_image : ByteArray := prog_1_method_40_code
def yX11_image : MethodName := ⟨RX11, "image", "(I)Z"⟩
abbrev cX11_restore : ByteArray := prog_1_method_41_code
def yX11_restore : MethodName := ⟨RX11, "restore", "(I)Z"⟩
abbrev cX11_count : ByteArray := prog_1_method_42_code
def yX11_count : MethodName := ⟨RX11, "count", "(I)I"⟩
abbrev cX11_endText : ByteArray := prog_1_method_43_code
def yX11_endText : MethodName := ⟨RX11, "endText", "()Z"⟩
abbrev cX11_actKept : ByteArray := prog_1_method_44_code
def yX11_actKept : MethodName := ⟨RX11, "actKept", "(II)I"⟩
abbrev cX11_keepBefore : ByteArray := prog_1_method_45_code
def yX11_keepBefore : MethodName := ⟨RX11, "keepBefore", "(Z)V"⟩
abbrev cX11_tagByte : ByteArray := prog_1_method_46_code
def yX11_tagByte : MethodName := ⟨RX11, "tagByte", "(I)V"⟩
abbrev cX11_tagName : ByteArray := prog_1_method_47_code
def yX11_tagName : MethodName := ⟨RX11, "tagName", "(J)V"⟩
abbrev cX11_tagText : ByteArray := prog_1_method_48_code
def yX11_tagText : MethodName := ⟨RX11, "tagText", "(Ljava/lang/String;)V"⟩
abbrev cX11_tagNumber : ByteArray := prog_1_method_49_code
def yX11_tagNumber : MethodName := ⟨RX11, "tagNumber", "(I)V"⟩
abbrev cX11_hasBit : ByteArray := prog_1_method_50_code
def yX11_hasBit : MethodName := ⟨RX11, "hasBit", "(II)Z"⟩
abbrev cX11_remainder : ByteArray := prog_1_method_51_code
def yX11_remainder : MethodName := ⟨RX11, "remainder", "(II)I"⟩
def RX12 : String := "HiccupTownModel"
def TX12 : u_T := fun k => match k with
  | 0 => ("HiccupTownModel", "thrown", "I", false)
  | 1 => ("HiccupTownModel", "tape", "[I", true)
  | 2 => ("HiccupTownModel", "taped", "I", false)
  | 3 => ("HiccupTownModel", "size", "I", false)
  | 4 => ("HiccupTownModel", "limit", "I", false)
  | 5 => ("HiccupTownModel", "to", "I", false)
  | 6 => ("HiccupTownModel", "from", "I", false)
  | 7 => ("HiccupTownModel", "kind", "I", false)
  | 8 => ("HiccupTownModel", "number", "I", false)
  | 9 => ("HiccupTownModel", "sign", "I", false)
  | 10 => ("HiccupTownModel", "fault", "I", false)
  | 11 => ("HiccupTownModel", "place", "I", false)
  | 12 => ("HiccupTownModel", "word", "J", false)
  | 13 => ("HiccupTownModel", "told", "I", false)
  | 14 => ("HiccupTownModel", "now", "[I", true)
  | 15 => ("HiccupTownModel", "read", "[I", true)
  | 16 => ("HiccupTownModel", "kept", "[I", true)
  | 17 => ("HiccupTownModel", "snaps", "[I", true)
  | 18 => ("HiccupTownModel", "aside", "[I", true)
  | 19 => ("HiccupTownModel", "name", "[J", true)
  | 20 => ("HiccupTownModel", "readName", "[J", true)
  | 21 => ("HiccupTownModel", "keptName", "[J", true)
  | 22 => ("HiccupTownModel", "isKept", "[Z", true)
  | 23 => ("HiccupTownModel", "onces", "[Z", true)
  | 24 => ("HiccupTownModel", "snapMany", "I", false)
  | 25 => ("HiccupTownModel", "hasPlaces", "Z", false)
  | 26 => ("HiccupTownModel", "seconds", "[I", true)
  | 27 => ("HiccupTownModel", "rests", "[I", true)
  | 28 => ("HiccupTownModel", "stoodLeast", "I", false)
  | 29 => ("HiccupTownModel", "stoodMost", "I", false)
  | 30 => ("HiccupTownModel", "nextThing", "I", false)
  | 31 => ("HiccupTownModel", "rowMany", "[I", true)
  | 32 => ("HiccupTownModel", "row", "[I", true)
  | 33 => ("HiccupTownModel", "rowLong", "I", false)
  | 34 => ("HiccupTownModel", "voted", "I", false)
  | 35 => ("HiccupTownModel", "text", "[I", true)
  | 36 => ("HiccupTownModel", "texts", "I", false)
  | 37 => ("HiccupTownModel", "seed", "I", false)
  | 38 => ("HiccupTownModel", "line", "[I", true)
  | 39 => ("HiccupTownModel", "written", "[I", true)
  | 40 => ("HiccupTownModel", "lineMany", "I", false)
  | 41 => ("HiccupTownModel", "hasWritten", "Z", false)
  | 42 => ("HiccupTownModel", "node", "[I", true)
  | 43 => ("HiccupTownModel", "nodes", "I", false)
  | 44 => ("HiccupTownModel", "onesMany", "I", false)
  | 45 => ("HiccupTownModel", "within", "I", false)
  | _ => ("HiccupTownModel", "top", "I", false)
def tyX12 : Nat → FieldType := fun k => match k with
  | 0 => .int
  | 1 => .array .int
  | 2 => .int
  | 3 => .int
  | 4 => .int
  | 5 => .int
  | 6 => .int
  | 7 => .int
  | 8 => .int
  | 9 => .int
  | 10 => .int
  | 11 => .int
  | 12 => .long
  | 13 => .int
  | 14 => .array .int
  | 15 => .array .int
  | 16 => .array .int
  | 17 => .array .int
  | 18 => .array .int
  | 19 => .array .long
  | 20 => .array .long
  | 21 => .array .long
  | 22 => .array .boolean
  | 23 => .array .boolean
  | 24 => .int
  | 25 => .boolean
  | 26 => .array .int
  | 27 => .array .int
  | 28 => .int
  | 29 => .int
  | 30 => .int
  | 31 => .array .int
  | 32 => .array .int
  | 33 => .int
  | 34 => .int
  | 35 => .array .int
  | 36 => .int
  | 37 => .int
  | 38 => .array .int
  | 39 => .array .int
  | 40 => .int
  | 41 => .boolean
  | 42 => .array .int
  | 43 => .int
  | 44 => .int
  | 45 => .int
  | _ => .int
abbrev wsX120 : List Cond := u_ws RX12 TX12 47
theorem nmX12 : ∀ a, a < 47 → ∀ b, b < 47 → a ≠ b → (TX12 a).2.1 ≠ (TX12 b).2.1 := by decide +kernel
theorem tyX12_ok : ∀ k, k < 47 → parseFieldDescriptor (TX12 k).2.2.1 = some (tyX12 k) := by decide +kernel
abbrev cX12_thrown : ByteArray := prog_14_method_1_code
def yX12_thrown : MethodName := ⟨RX12, "thrown", "()I"⟩
abbrev cX12_refuse : ByteArray := prog_14_method_2_code
def yX12_refuse : MethodName := ⟨RX12, "refuse", "()I"⟩
abbrev cX12_come : ByteArray := prog_14_method_3_code
def yX12_come : MethodName := ⟨RX12, "come", "(I)V"⟩
abbrev cX12_feed : ByteArray := prog_14_method_4_code
def yX12_feed : MethodName := ⟨RX12, "feed", "(IIIII)I"⟩
abbrev cX12_end : ByteArray := prog_14_method_5_code
def yX12_end : MethodName := ⟨RX12, "end", "(I)Z"⟩
abbrev cX12_take : ByteArray := prog_14_method_6_code
def yX12_take : MethodName := ⟨RX12, "take", "()I"⟩
abbrev cX12_isIn : ByteArray := prog_14_method_7_code
def yX12_isIn : MethodName := ⟨RX12, "isIn", "(III)Z"⟩
abbrev cX12_has : ByteArray := prog_14_method_8_code
def yX12_has : MethodName := ⟨RX12, "has", "(II)Z"⟩
abbrev cX12_least : ByteArray := prog_14_method_10_code
def yX12_least : MethodName := ⟨RX12, "least", "(II)I"⟩
abbrev cX12_size : ByteArray := prog_14_method_11_code
def yX12_size : MethodName := ⟨RX12, "size", "(I)I"⟩
abbrev cX12_common : ByteArray := prog_14_method_12_code
def yX12_common : MethodName := ⟨RX12, "common", "(II)I"⟩
abbrev cX12_tapeAt : ByteArray := prog_14_method_13_code
def yX12_tapeAt : MethodName := ⟨RX12, "tapeAt", "(I)I"⟩
abbrev cX12_isDigit : ByteArray := prog_14_method_14_code
def yX12_isDigit : MethodName := ⟨RX12, "isDigit", "(I)Z"⟩
abbrev cX12_isLetter : ByteArray := prog_14_method_15_code
def yX12_isLetter : MethodName := ⟨RX12, "isLetter", "(I)Z"⟩
abbrev cX12_go : ByteArray := prog_14_method_16_code
def yX12_go : MethodName := ⟨RX12, "go", "()V"⟩
abbrev cX12_spelt : ByteArray := prog_14_method_17_code
def yX12_spelt : MethodName := ⟨RX12, "spelt", "(IIIIIII)J"⟩
abbrev cX12_wordOf : ByteArray := prog_14_method_18_code
def yX12_wordOf : MethodName := ⟨RX12, "wordOf", "(I)J"⟩
abbrev cX12_isWord : ByteArray := prog_14_method_19_code
def yX12_isWord : MethodName := ⟨RX12, "isWord", "(I)Z"⟩
abbrev cX12_isSign : ByteArray := prog_14_method_20_code
def yX12_isSign : MethodName := ⟨RX12, "isSign", "(I)Z"⟩
abbrev cX12_isName : ByteArray := prog_14_method_21_code
def yX12_isName : MethodName := ⟨RX12, "isName", "()Z"⟩
abbrev cX12_bad : ByteArray := prog_14_method_22_code
def yX12_bad : MethodName := ⟨RX12, "bad", "(I)Z"⟩
abbrev cX12_readNumber : ByteArray := prog_14_method_23_code
def yX12_readNumber : MethodName := ⟨RX12, "readNumber", "(II)Z"⟩
abbrev cX12_readEnd : ByteArray := prog_14_method_24_code
def yX12_readEnd : MethodName := ⟨RX12, "readEnd", "()Z"⟩
abbrev cX12_begin : ByteArray := prog_14_method_25_code
def yX12_begin : MethodName := ⟨RX12, "begin", "(I)V"⟩
abbrev cX12_init : ByteArray := prog_14_method_26_code
def yX12_init : MethodName := ⟨RX12, "<init>", "()V"⟩
abbrev cX12_startRead : ByteArray := prog_14_method_27_code
def yX12_startRead : MethodName := ⟨RX12, "startRead", "()V"⟩
abbrev cX12_startSo : ByteArray := prog_14_method_28_code
def yX12_startSo : MethodName := ⟨RX12, "startSo", "()V"⟩
abbrev cX12_findIn : ByteArray := prog_14_method_29_code
def yX12_findIn : MethodName := ⟨RX12, "findIn", "([JIIJ)I"⟩
abbrev cX12_isTaken : ByteArray := prog_14_method_30_code
def yX12_isTaken : MethodName := ⟨RX12, "isTaken", "()Z"⟩
abbrev cX12_readNew : ByteArray := prog_14_method_31_code
def yX12_readNew : MethodName := ⟨RX12, "readNew", "(I)Z"⟩
abbrev cX12_readFirst : ByteArray := prog_14_method_32_code
def yX12_readFirst : MethodName := ⟨RX12, "readFirst", "(II)Z"⟩
abbrev cX12_put : ByteArray := prog_14_method_33_code
def yX12_put : MethodName := ⟨RX12, "put", "(IZ)Z"⟩
abbrev cX12_isFresh : ByteArray := prog_14_method_34_code
def yX12_isFresh : MethodName := ⟨RX12, "isFresh", "(I)Z"⟩
abbrev cX12_readRing : ByteArray := prog_14_method_35_code
def yX12_readRing : MethodName := ⟨RX12, "readRing", "()Z"⟩
abbrev cX12_readCousin : ByteArray := prog_14_method_36_code
def yX12_readCousin : MethodName := ⟨RX12, "readCousin", "()Z"⟩
abbrev cX12_readPlace : ByteArray := prog_14_method_37_code
def yX12_readPlace : MethodName := ⟨RX12, "readPlace", "(I)Z"⟩
abbrev cX12_readPerson : ByteArray := prog_14_method_38_code
def yX12_readPerson : MethodName := ⟨RX12, "readPerson", "()Z"⟩
abbrev cX12_readWork : ByteArray := prog_14_method_39_code
def yX12_readWork : MethodName := ⟨RX12, "readWork", "()Z"⟩
abbrev cX12_isWorkHere : ByteArray := prog_14_method_40_code
def yX12_isWorkHere : MethodName := ⟨RX12, "isWorkHere", "()Z"⟩
abbrev cX12_readAfter : ByteArray := prog_14_method_41_code
def yX12_readAfter : MethodName := ⟨RX12, "readAfter", "()Z"⟩
abbrev cX12_readThing : ByteArray := prog_14_method_42_code
def yX12_readThing : MethodName := ⟨RX12, "readThing", "()Z"⟩
abbrev cX12_readLine : ByteArray := prog_14_method_43_code
def yX12_readLine : MethodName := ⟨RX12, "readLine", "()Z"⟩
abbrev cX12_town : ByteArray := prog_14_method_44_code
def yX12_town : MethodName := ⟨RX12, "town", "()I"⟩
abbrev cX12_fault : ByteArray := prog_14_method_45_code
def yX12_fault : MethodName := ⟨RX12, "fault", "()I"⟩
abbrev cX12_isBeater : ByteArray := prog_14_method_46_code
def yX12_isBeater : MethodName := ⟨RX12, "isBeater", "(I)Z"⟩
abbrev cX12_isPerson : ByteArray := prog_14_method_47_code
def yX12_isPerson : MethodName := ⟨RX12, "isPerson", "(I)Z"⟩
abbrev cX12_isWork : ByteArray := prog_14_method_48_code
def yX12_isWork : MethodName := ⟨RX12, "isWork", "(I)Z"⟩
abbrev cX12_isOut : ByteArray := prog_14_method_49_code
def yX12_isOut : MethodName := ⟨RX12, "isOut", "(I)Z"⟩
abbrev cX12_isStanding : ByteArray := prog_14_method_50_code
def yX12_isStanding : MethodName := ⟨RX12, "isStanding", "()Z"⟩
abbrev cX12_doneWorks : ByteArray := prog_14_method_51_code
def yX12_doneWorks : MethodName := ⟨RX12, "doneWorks", "()I"⟩
abbrev cX12_openWorks : ByteArray := prog_14_method_52_code
def yX12_openWorks : MethodName := ⟨RX12, "openWorks", "()I"⟩
abbrev cX12_isBusy : ByteArray := prog_14_method_53_code
def yX12_isBusy : MethodName := ⟨RX12, "isBusy", "(I)Z"⟩
abbrev cX12_person : ByteArray := prog_14_method_54_code
def yX12_person : MethodName := ⟨RX12, "person", "(II)I"⟩
abbrev cX12_work : ByteArray := prog_14_method_55_code
def yX12_work : MethodName := ⟨RX12, "work", "(II)I"⟩
abbrev cX12_gap : ByteArray := prog_14_method_56_code
def yX12_gap : MethodName := ⟨RX12, "gap", "(I)I"⟩
abbrev cX12_now : ByteArray := prog_14_method_57_code
def yX12_now : MethodName := ⟨RX12, "now", "(I)I"⟩
abbrev cX12_snap : ByteArray := prog_14_method_58_code
def yX12_snap : MethodName := ⟨RX12, "snap", "()V"⟩
abbrev cX12_isCrowded : ByteArray := prog_14_method_59_code
def yX12_isCrowded : MethodName := ⟨RX12, "isCrowded", "(I)Z"⟩
abbrev cX12_why : ByteArray := prog_14_method_60_code
def yX12_why : MethodName := ⟨RX12, "why", "(II)I"⟩
abbrev cX12_relieved : ByteArray := prog_14_method_61_code
def yX12_relieved : MethodName := ⟨RX12, "relieved", "(I)V"⟩
abbrev cX12_live : ByteArray := prog_14_method_62_code
def yX12_live : MethodName := ⟨RX12, "live", "(II)V"⟩
abbrev cX12_act : ByteArray := prog_14_method_63_code
def yX12_act : MethodName := ⟨RX12, "act", "(IIZ)I"⟩
abbrev cX12_fright : ByteArray := prog_14_method_64_code
def yX12_fright : MethodName := ⟨RX12, "fright", "()I"⟩
abbrev cX12_cure : ByteArray := prog_14_method_65_code
def yX12_cure : MethodName := ⟨RX12, "cure", "()I"⟩
abbrev cX12_fly : ByteArray := prog_14_method_66_code
def yX12_fly : MethodName := ⟨RX12, "fly", "()I"⟩
abbrev cX12_relieve : ByteArray := prog_14_method_67_code
def yX12_relieve : MethodName := ⟨RX12, "relieve", "(I)I"⟩
abbrev cX12_leave : ByteArray := prog_14_method_68_code
def yX12_leave : MethodName := ⟨RX12, "leave", "(I)I"⟩
abbrev cX12_join : ByteArray := prog_14_method_69_code
def yX12_join : MethodName := ⟨RX12, "join", "(I)I"⟩
abbrev cX12_undo : ByteArray := prog_14_method_70_code
def yX12_undo : MethodName := ⟨RX12, "undo", "()I"⟩
abbrev cX12_beat : ByteArray := prog_14_method_71_code
def yX12_beat : MethodName := ⟨RX12, "beat", "()V"⟩
abbrev cX12_oneSecond : ByteArray := prog_14_method_72_code
def yX12_oneSecond : MethodName := ⟨RX12, "oneSecond", "()V"⟩
abbrev cX12_passSeconds : ByteArray := prog_14_method_73_code
def yX12_passSeconds : MethodName := ⟨RX12, "passSeconds", "(I)I"⟩
abbrev cX12_seconds : ByteArray := prog_14_method_74_code
def yX12_seconds : MethodName := ⟨RX12, "seconds", "(I)I"⟩
abbrev cX12_placeBehind : ByteArray := prog_14_method_75_code
def yX12_placeBehind : MethodName := ⟨RX12, "placeBehind", "(II)I"⟩
abbrev cX12_at : ByteArray := prog_14_method_76_code
def yX12_at : MethodName := ⟨RX12, "at", "(II)I"⟩
abbrev cX12_meet : ByteArray := prog_14_method_77_code
def yX12_meet : MethodName := ⟨RX12, "meet", "(II)I"⟩
abbrev cX12_layAside : ByteArray := prog_14_method_78_code
def yX12_layAside : MethodName := ⟨RX12, "layAside", "()V"⟩
abbrev cX12_takeBack : ByteArray := prog_14_method_79_code
def yX12_takeBack : MethodName := ⟨RX12, "takeBack", "()V"⟩
abbrev cX12_doneBy : ByteArray := prog_14_method_80_code
def yX12_doneBy : MethodName := ⟨RX12, "doneBy", "(II)I"⟩
abbrev cX12_when : ByteArray := prog_14_method_81_code
def yX12_when : MethodName := ⟨RX12, "when", "(I)I"⟩
abbrev cX12_swift : ByteArray := prog_14_method_82_code
def yX12_swift : MethodName := ⟨RX12, "swift", "(I)I"⟩
abbrev cX12_joins : ByteArray := prog_14_method_83_code
def yX12_joins : MethodName := ⟨RX12, "joins", "(I)I"⟩
abbrev cX12_once : ByteArray := prog_14_method_84_code
def yX12_once : MethodName := ⟨RX12, "once", "(II)I"⟩
abbrev cX12_hasStood : ByteArray := prog_14_method_85_code
def yX12_hasStood : MethodName := ⟨RX12, "hasStood", "(II)Z"⟩
abbrev cX12_leftBy : ByteArray := prog_14_method_86_code
def yX12_leftBy : MethodName := ⟨RX12, "leftBy", "(II)I"⟩
abbrev cX12_stood : ByteArray := prog_14_method_87_code
def yX12_stood : MethodName := ⟨RX12, "stood", "()I"⟩
abbrev cX12_stoodLeast : ByteArray := prog_14_method_88_code
def yX12_stoodLeast : MethodName := ⟨RX12, "stoodLeast", "()I"⟩
abbrev cX12_stoodMost : ByteArray := prog_14_method_89_code
def yX12_stoodMost : MethodName := ⟨RX12, "stoodMost", "()I"⟩
abbrev cX12_next : ByteArray := prog_14_method_90_code
def yX12_next : MethodName := ⟨RX12, "next", "()I"⟩
abbrev cX12_rowsOf : ByteArray := prog_14_method_91_code
def yX12_rowsOf : MethodName := ⟨RX12, "rowsOf", "(II)I"⟩
abbrev cX12_layRows : ByteArray := prog_14_method_92_code
def yX12_layRows : MethodName := ⟨RX12, "layRows", "(I)V"⟩
abbrev cX12_rows : ByteArray := prog_14_method_93_code
def yX12_rows : MethodName := ⟨RX12, "rows", "(II)I"⟩
abbrev cX12_rowAt : ByteArray := prog_14_method_94_code
def yX12_rowAt : MethodName := ⟨RX12, "rowAt", "(I)I"⟩
abbrev cX12_areNear : ByteArray := prog_14_method_95_code
def yX12_areNear : MethodName := ⟨RX12, "areNear", "(II)Z"⟩
abbrev cX12_isFor : ByteArray := prog_14_method_96_code
def yX12_isFor : MethodName := ⟨RX12, "isFor", "(II)Z"⟩
abbrev cX12_vote : ByteArray := prog_14_method_97_code
def yX12_vote : MethodName := ⟨RX12, "vote", "()I"⟩
abbrev cX12_voted : ByteArray := prog_14_method_98_code
def yX12_voted : MethodName := ⟨RX12, "voted", "()I"⟩
abbrev cX12_write : ByteArray := prog_14_method_99_code
def yX12_write : MethodName := ⟨RX12, "write", "(I)V"⟩
abbrev cX12_writeWord : ByteArray := prog_14_method_100_code
def yX12_writeWord : MethodName := ⟨RX12, "writeWord", "(J)V"⟩
abbrev cX12_writeNumber : ByteArray := prog_14_method_101_code
def yX12_writeNumber : MethodName := ⟨RX12, "writeNumber", "(I)V"⟩
abbrev cX12_writeNext : ByteArray := prog_14_method_102_code
def yX12_writeNext : MethodName := ⟨RX12, "writeNext", "(J)V"⟩
abbrev cX12_tag : ByteArray := prog_14_method_103_code
def yX12_tag : MethodName := ⟨RX12, "tag", "(I)I"⟩
abbrev cX12_byteAt : ByteArray := prog_14_method_104_code
def yX12_byteAt : MethodName := ⟨RX12, "byteAt", "(I)I"⟩
abbrev cX12_draw : ByteArray := prog_14_method_105_code
def yX12_draw : MethodName := ⟨RX12, "draw", "(I)I"⟩
abbrev cX12_drawsFor : ByteArray := prog_14_method_106_code
def yX12_drawsFor : MethodName := ⟨RX12, "drawsFor", "(II)V"⟩
abbrev cX12_drawSeconds : ByteArray := prog_14_method_107_code
def yX12_drawSeconds : MethodName := ⟨RX12, "drawSeconds", "(II)I"⟩
abbrev cX12_drawn : ByteArray := prog_14_method_108_code
def yX12_drawn : MethodName := ⟨RX12, "drawn", "(II)I"⟩
abbrev cX12_odds : ByteArray := prog_14_method_109_code
def yX12_odds : MethodName := ⟨RX12, "odds", "(III)I"⟩
abbrev cX12_keep : ByteArray := prog_14_method_110_code
def yX12_keep : MethodName := ⟨RX12, "keep", "(IZ)Z"⟩
abbrev cX12_readNamed : ByteArray := prog_14_method_111_code
def yX12_readNamed : MethodName := ⟨RX12, "readNamed", "(II)Z"⟩
abbrev cX12_readBeater : ByteArray := prog_14_method_112_code
def yX12_readBeater : MethodName := ⟨RX12, "readBeater", "()Z"⟩
abbrev cX12_readDoes : ByteArray := prog_14_method_113_code
def yX12_readDoes : MethodName := ⟨RX12, "readDoes", "(I)Z"⟩
abbrev cX12_readBookLine : ByteArray := prog_14_method_114_code
def yX12_readBookLine : MethodName := ⟨RX12, "readBookLine", "()Z"⟩
abbrev cX12_goBy : ByteArray := prog_14_method_115_code
def yX12_goBy : MethodName := ⟨RX12, "goBy", "(I)I"⟩
abbrev cX12_book : ByteArray := prog_14_method_116_code
def yX12_book : MethodName := ⟨RX12, "book", "(I)I"⟩
abbrev cX12_stay : ByteArray := prog_14_method_117_code
def yX12_stay : MethodName := ⟨RX12, "stay", "(Z)V"⟩
abbrev cX12_told : ByteArray := prog_14_method_118_code
def yX12_told : MethodName := ⟨RX12, "told", "(I)I"⟩
abbrev cX12_saysOne : ByteArray := prog_14_method_119_code
def yX12_saysOne : MethodName := ⟨RX12, "saysOne", "(IIII)I"⟩
abbrev cX12_readOr : ByteArray := prog_14_method_120_code
def yX12_readOr : MethodName := ⟨RX12, "readOr", "()Z"⟩
abbrev cX12_readAnd : ByteArray := prog_14_method_121_code
def yX12_readAnd : MethodName := ⟨RX12, "readAnd", "()Z"⟩
abbrev cX12_readSaid : ByteArray := prog_14_method_122_code
def yX12_readSaid : MethodName := ⟨RX12, "readSaid", "()Z"⟩
abbrev cX12_readNot : ByteArray := prog_14_method_123_code
def yX12_readNot : MethodName := ⟨RX12, "readNot", "()Z"⟩
abbrev cX12_readBracket : ByteArray := prog_14_method_124_code
def yX12_readBracket : MethodName := ⟨RX12, "readBracket", "()Z"⟩
abbrev cX12_readOf : ByteArray := prog_14_method_125_code
def yX12_readOf : MethodName := ⟨RX12, "readOf", "(I)Z"⟩
abbrev cX12_readCompare : ByteArray := prog_14_method_126_code
def yX12_readCompare : MethodName := ⟨RX12, "readCompare", "(I)Z"⟩
abbrev cX12_sentence : ByteArray := prog_14_method_127_code
def yX12_sentence : MethodName := ⟨RX12, "sentence", "()I"⟩
abbrev cX12_holds : ByteArray := prog_14_method_128_code
def yX12_holds : MethodName := ⟨RX12, "holds", "(II)Z"⟩
abbrev cX12_said : ByteArray := prog_14_method_129_code
def yX12_said : MethodName := ⟨RX12, "said", "(I)I"⟩
abbrev cX12_image : ByteArray := prog_14_method_130_code
def yX12_image : MethodName := ⟨RX12, "image", "(I)Z"⟩
abbrev cX12_restore : ByteArray := prog_14_method_131_code
def yX12_restore : MethodName := ⟨RX12, "restore", "(I)Z"⟩
abbrev cX12_count : ByteArray := prog_14_method_132_code
def yX12_count : MethodName := ⟨RX12, "count", "(I)I"⟩
def RJx145de : String := "java/io/Serializable"
def TJx145de : u_T := fun k => match k with
  | _ => ("", "", "", false)
def tyJx145de : Nat → FieldType := fun k => match k with
  | _ => .int
abbrev wsJx145de0 : List Cond := u_ws RJx145de TJx145de 0
theorem nmJx145de : ∀ a, a < 0 → ∀ b, b < 0 → a ≠ b → (TJx145de a).2.1 ≠ (TJx145de b).2.1 := by decide +kernel
theorem tyJx145de_ok : ∀ k, k < 0 → parseFieldDescriptor (TJx145de k).2.2.1 = some (tyJx145de k) := by decide +kernel
def RJx9f9b0 : String := "java/lang/CharSequence"
def TJx9f9b0 : u_T := fun k => match k with
  | _ => ("", "", "", false)
def tyJx9f9b0 : Nat → FieldType := fun k => match k with
  | _ => .int
abbrev wsJx9f9b00 : List Cond := u_ws RJx9f9b0 TJx9f9b0 0
theorem nmJx9f9b0 : ∀ a, a < 0 → ∀ b, b < 0 → a ≠ b → (TJx9f9b0 a).2.1 ≠ (TJx9f9b0 b).2.1 := by decide +kernel
theorem tyJx9f9b0_ok : ∀ k, k < 0 → parseFieldDescriptor (TJx9f9b0 k).2.2.1 = some (tyJx9f9b0 k) := by decide +kernel
def RJxb160c : String := "java/lang/Comparable"
def TJxb160c : u_T := fun k => match k with
  | _ => ("", "", "", false)
def tyJxb160c : Nat → FieldType := fun k => match k with
  | _ => .int
abbrev wsJxb160c0 : List Cond := u_ws RJxb160c TJxb160c 0
theorem nmJxb160c : ∀ a, a < 0 → ∀ b, b < 0 → a ≠ b → (TJxb160c a).2.1 ≠ (TJxb160c b).2.1 := by decide +kernel
theorem tyJxb160c_ok : ∀ k, k < 0 → parseFieldDescriptor (TJxb160c k).2.2.1 = some (tyJxb160c k) := by decide +kernel
def RJx29ce0 : String := "java/lang/Enum"
def TJx29ce0 : u_T := fun k => match k with
  | _ => ("", "", "", false)
def tyJx29ce0 : Nat → FieldType := fun k => match k with
  | _ => .int
abbrev wsJx29ce00 : List Cond := u_ws RJx29ce0 TJx29ce0 0
theorem nmJx29ce0 : ∀ a, a < 0 → ∀ b, b < 0 → a ≠ b → (TJx29ce0 a).2.1 ≠ (TJx29ce0 b).2.1 := by decide +kernel
theorem tyJx29ce0_ok : ∀ k, k < 0 → parseFieldDescriptor (TJx29ce0 k).2.2.1 = some (tyJx29ce0 k) := by decide +kernel
def RJ9 : String := "java/lang/Math"
def TJ9 : u_T := fun k => match k with
  | _ => ("", "", "", false)
def tyJ9 : Nat → FieldType := fun k => match k with
  | _ => .int
abbrev wsJ90 : List Cond := u_ws RJ9 TJ9 0
theorem nmJ9 : ∀ a, a < 0 → ∀ b, b < 0 → a ≠ b → (TJ9 a).2.1 ≠ (TJ9 b).2.1 := by decide +kernel
theorem tyJ9_ok : ∀ k, k < 0 → parseFieldDescriptor (TJ9 k).2.2.1 = some (tyJ9 k) := by decide +kernel
abbrev cJ9_abs_0f7a4 : ByteArray := prog_20_method_59_code
def yJ9_abs_0f7a4 : MethodName := ⟨RJ9, "abs", "(I)I"⟩
abbrev cJ9_max_7cf53 : ByteArray := prog_20_method_65_code
def yJ9_max_7cf53 : MethodName := ⟨RJ9, "max", "(II)I"⟩
abbrev cJ9_min_7cf53 : ByteArray := prog_20_method_69_code
def yJ9_min_7cf53 : MethodName := ⟨RJ9, "min", "(II)I"⟩
def RJ0 : String := "java/lang/String"
def TJ0 : u_T := fun k => match k with
  | _ => ("", "", "", false)
def tyJ0 : Nat → FieldType := fun k => match k with
  | _ => .int
abbrev wsJ00 : List Cond := u_ws RJ0 TJ0 0
theorem nmJ0 : ∀ a, a < 0 → ∀ b, b < 0 → a ≠ b → (TJ0 a).2.1 ≠ (TJ0 b).2.1 := by decide +kernel
theorem tyJ0_ok : ∀ k, k < 0 → parseFieldDescriptor (TJ0 k).2.2.1 = some (tyJ0 k) := by decide +kernel
abbrev cJ0_length_8abf5 : ByteArray := prog_22_method_54_code
def yJ0_length_8abf5 : MethodName := ⟨RJ0, "length", "()I"⟩
abbrev cJ0_charAt_5068e : ByteArray := prog_22_method_56_code
def yJ0_charAt_5068e : MethodName := ⟨RJ0, "charAt", "(I)C"⟩
abbrev cJ0_coder_7d493 : ByteArray := prog_22_method_152_code
def yJ0_coder_7d493 : MethodName := ⟨RJ0, "coder", "()B"⟩
abbrev cJ0_isLatin1_aae02 : ByteArray := prog_22_method_154_code
def yJ0_isLatin1_aae02 : MethodName := ⟨RJ0, "isLatin1", "()Z"⟩
abbrev cJ0_checkIndex_df160 : ByteArray := prog_22_method_155_code
def yJ0_checkIndex_df160 : MethodName := ⟨RJ0, "checkIndex", "(II)V"⟩
def RJ1 : String := "java/lang/StringLatin1"
def TJ1 : u_T := fun k => match k with
  | _ => ("", "", "", false)
def tyJ1 : Nat → FieldType := fun k => match k with
  | _ => .int
abbrev wsJ10 : List Cond := u_ws RJ1 TJ1 0
theorem nmJ1 : ∀ a, a < 0 → ∀ b, b < 0 → a ≠ b → (TJ1 a).2.1 ≠ (TJ1 b).2.1 := by decide +kernel
theorem tyJ1_ok : ∀ k, k < 0 → parseFieldDescriptor (TJ1 k).2.2.1 = some (tyJ1 k) := by decide +kernel
abbrev cJ1_charAt_3b067 : ByteArray := prog_23_method_2_code
def yJ1_charAt_3b067 : MethodName := ⟨RJ1, "charAt", "([BI)C"⟩
def RJ2 : String := "java/lang/StringUTF16"
def TJ2 : u_T := fun k => match k with
  | _ => ("", "", "", false)
def tyJ2 : Nat → FieldType := fun k => match k with
  | _ => .int
abbrev wsJ20 : List Cond := u_ws RJ2 TJ2 0
theorem nmJ2 : ∀ a, a < 0 → ∀ b, b < 0 → a ≠ b → (TJ2 a).2.1 ≠ (TJ2 b).2.1 := by decide +kernel
theorem tyJ2_ok : ∀ k, k < 0 → parseFieldDescriptor (TJ2 k).2.2.1 = some (tyJ2 k) := by decide +kernel
abbrev cJ2_getChar_3b067 : ByteArray := prog_24_method_5_code
def yJ2_getChar_3b067 : MethodName := ⟨RJ2, "getChar", "([BI)C"⟩
abbrev cJ2_length_9d52b : ByteArray := prog_24_method_6_code
def yJ2_length_9d52b : MethodName := ⟨RJ2, "length", "([B)I"⟩
abbrev cJ2_charAt_3b067 : ByteArray := prog_24_method_83_code
def yJ2_charAt_3b067 : MethodName := ⟨RJ2, "charAt", "([BI)C"⟩
abbrev cJ2_checkIndex_2214a : ByteArray := prog_24_method_91_code
def yJ2_checkIndex_2214a : MethodName := ⟨RJ2, "checkIndex", "(I[B)V"⟩
def RJ10 : String := "java/lang/System"
def TJ10 : u_T := fun k => match k with
  | _ => ("", "", "", false)
def tyJ10 : Nat → FieldType := fun k => match k with
  | _ => .int
abbrev wsJ100 : List Cond := u_ws RJ10 TJ10 0
theorem nmJ10 : ∀ a, a < 0 → ∀ b, b < 0 → a ≠ b → (TJ10 a).2.1 ≠ (TJ10 b).2.1 := by decide +kernel
theorem tyJ10_ok : ∀ k, k < 0 → parseFieldDescriptor (TJ10 k).2.2.1 = some (tyJ10 k) := by decide +kernel
def RJxfd54e : String := "java/lang/constant/Constable"
def TJxfd54e : u_T := fun k => match k with
  | _ => ("", "", "", false)
def tyJxfd54e : Nat → FieldType := fun k => match k with
  | _ => .int
abbrev wsJxfd54e0 : List Cond := u_ws RJxfd54e TJxfd54e 0
theorem nmJxfd54e : ∀ a, a < 0 → ∀ b, b < 0 → a ≠ b → (TJxfd54e a).2.1 ≠ (TJxfd54e b).2.1 := by decide +kernel
theorem tyJxfd54e_ok : ∀ k, k < 0 → parseFieldDescriptor (TJxfd54e k).2.2.1 = some (tyJxfd54e k) := by decide +kernel
def RJx3cf43 : String := "java/lang/constant/ConstantDesc"
def TJx3cf43 : u_T := fun k => match k with
  | _ => ("", "", "", false)
def tyJx3cf43 : Nat → FieldType := fun k => match k with
  | _ => .int
abbrev wsJx3cf430 : List Cond := u_ws RJx3cf43 TJx3cf43 0
theorem nmJx3cf43 : ∀ a, a < 0 → ∀ b, b < 0 → a ≠ b → (TJx3cf43 a).2.1 ≠ (TJx3cf43 b).2.1 := by decide +kernel
theorem tyJx3cf43_ok : ∀ k, k < 0 → parseFieldDescriptor (TJx3cf43 k).2.2.1 = some (tyJx3cf43 k) := by decide +kernel
def RJ3 : String := "jdk/internal/util/Preconditions"
def TJ3 : u_T := fun k => match k with
  | _ => ("", "", "", false)
def tyJ3 : Nat → FieldType := fun k => match k with
  | _ => .int
abbrev wsJ30 : List Cond := u_ws RJ3 TJ3 0
theorem nmJ3 : ∀ a, a < 0 → ∀ b, b < 0 → a ≠ b → (TJ3 a).2.1 ≠ (TJ3 b).2.1 := by decide +kernel
theorem tyJ3_ok : ∀ k, k < 0 → parseFieldDescriptor (TJ3 k).2.2.1 = some (tyJ3 k) := by decide +kernel
abbrev cJ3_checkIndex_8e157 : ByteArray := prog_30_method_11_code
def yJ3_checkIndex_8e157 : MethodName := ⟨RJ3, "checkIndex", "(IILjava/util/function/BiFunction;)I"⟩
end
section
/-! THE SMALL MACHINE: every value is a number with a tag; every object that is ever written has a number, and what it refers to for good lies at a fixed distance from it. Tags: 0 int, 1 long, 2 a Word (its ordinal; null: below 0), 3 a text constant, 4 Word.ALL, 5 MOST_OF_SORT, 9 nothing, 10 and on: the kinds of objects (classes as in vwCl), 22 and on: the kinds of arrays -/
abbrev mm_V : Type := Nat × Int
abbrev mm_H : Type := Int → Int → Int
abbrev mm_E : Type := Nat × Instr × Nat × List Nat × Int
abbrev mm_O : Type := Int × mm_H
def mm_w (x : Int) : Int := Int.bmod x 4294967296
def mm_wl (x : Int) : Int := Int.bmod x 18446744073709551616
def mm_w8 (x : Int) : Int := Int.bmod x 256
def mm_up (h : mm_H) (o k v : Int) : mm_H := fun o' k' => if o' = o ∧ k' = k then v else h o' k'
def mm_cp (h : mm_H) (a i b j n : Int) : mm_H := fun o k => if o = b ∧ j ≤ k ∧ k < j + n then h a (i + (k - j)) else h o k
def mm_and (x y : Int) : Int := (Int32.ofInt x &&& Int32.ofInt y).toInt
def mm_or (x y : Int) : Int := (Int32.ofInt x ||| Int32.ofInt y).toInt
def mm_xor (x y : Int) : Int := (Int32.ofInt x ^^^ Int32.ofInt y).toInt
def mm_shl (x y : Int) : Int := (Int32.ofInt x <<< (Int32.ofInt y &&& 31)).toInt
def mm_shr (x y : Int) : Int := (Int32.ofInt x >>> (Int32.ofInt y &&& 31)).toInt
def mm_ushr (x y : Int) : Int := ((Int32.ofInt x).toUInt32 >>> ((Int32.ofInt y).toUInt32 &&& Int32.toUInt32 31)).toInt32.toInt
def mm_div (x y : Int) : Int := (Int32.ofInt x / Int32.ofInt y).toInt
def mm_rem (x y : Int) : Int := (Int32.ofInt x - Int32.ofInt x / Int32.ofInt y * Int32.ofInt y).toInt
def mm_lor (x y : Int) : Int := (Int64.ofInt x ||| Int64.ofInt y).toInt
def mm_lshl (x y : Int) : Int := (Int64.ofInt x <<< ((Int32.ofInt y).toInt64 &&& 63)).toInt
def mm_lushr (x y : Int) : Int := ((Int64.ofInt x).toUInt64 >>> ((Int32.ofInt y).toInt64.toUInt64 &&& Int64.toUInt64 63)).toInt64.toInt
def mm_ldiv (x y : Int) : Int := (Int64.ofInt x / Int64.ofInt y).toInt
def mm_lrem (x y : Int) : Int := (Int64.ofInt x - Int64.ofInt x / Int64.ofInt y * Int64.ofInt y).toInt
def mm_lcmp (x y : Int) : Int := if x < y then -1 else if x = y then 0 else 1
def mm_wr (i : Int) : Bool := decide (0 ≤ i ∧ i < 36)
/-- the kinds of arrays: what they hold (0 int, 1 long, 2 Word, 3 byte, 4 boolean, 5 Moment, 6 Scene, 7 int[]), how many -/
def mm_akl : List (Nat × Nat) := [(0, 4), (0, 5), (0, 6), (0, 7), (0, 40), (0, 61), (1, 28), (3, 940), (3, 21), (4, 256), (2, 40), (5, 8), (6, 2), (7, 6), (0, 940), (0, 316), (0, 48), (0, 632), (0, 208), (0, 26), (1, 22), (1, 44), (4, 2), (0, 256), (0, 60), (0, 366), (0, 64), (0, 80), (0, 240)]
def mm_ak (t : Nat) : Nat × Nat := if t < 22 then (9, 0) else mm_akl.getD (t - 22) (9, 0)
def mm_mos (i : Int) : Int := if i = 0 then 4 else if i = 1 then 7 else if i = 2 then 6 else 5
/-- the text constants: " at ", " out", " in air", " in step" -/
def mm_txt (s : Int) : List Int := if s = 0 then [32, 97, 116, 32] else if s = 1 then [32, 111, 117, 116] else if s = 2 then [32, 105, 110, 32, 97, 105, 114] else [32, 105, 110, 32, 115, 116, 101, 112]
/-- the keys of the 36 Words -/
def mm_keys : List Int := [0, 0, 0, 0, 59, 60, 61, 62, 40, 41, 1919512167, 6775152, 109330363017582, 123581014175598, 2003792491, 418330731890, 499967946343, 7304564, 112641580689524, 1668641381, 6712441, 32199663644145253, 7168366, 119182682645875, 457135713907, 126879297138276, 28530, 6385252, 7237492, 25209, 2003399784, 1651864441, 482854658917, 1885430629, 495874044019, 121450625394034]
def mm_key (i : Int) : Int := mm_keys.getD i.toNat 0
def mm_t1 {α : Type} (st : List mm_V) (t : Nat) (f : α) (k : Int → List mm_V → α) : α := match st with
  | [] => f
  | v :: r => bif v.1 == t then k v.2 r else f
/-- a value of one word -/
def mm_an {α : Type} (st : List mm_V) (f : α) (k : mm_V → List mm_V → α) : α := match st with
  | [] => f
  | v :: r => bif v.1 == 1 || v.1 == 9 then f else k v r
def mm_nl {α : Type} (st : List mm_V) (f : α) (k : α) : α := match st with
  | [] => k
  | _ :: _ => f
def mm_ld {α : Type} (ls : List mm_V) (i t : Nat) (f : α) (k : Int → α) : α := match ls[i]? with
  | none => f
  | some v => bif v.1 == t then k v.2 else f
def mm_la {α : Type} (ls : List mm_V) (i : Nat) (f : α) (k : mm_V → α) : α := match ls[i]? with
  | none => f
  | some v => bif v.1 == 0 || v.1 == 1 || v.1 == 9 then f else k v
/-- the local ahead of i isn't a long -/
def mm_pv (ls : List mm_V) (i : Nat) : Bool := match i with
  | 0 => true
  | j + 1 => match ls[j]? with
    | none => true
    | some v => !(v.1 == 1)
def mm_s1 {α : Type} (ls : List mm_V) (i : Nat) (v : mm_V) (f : α) (k : List mm_V → α) : α := bif decide (i < ls.length) && mm_pv ls i then k (ls.set i v) else f
def mm_s2 {α : Type} (ls : List mm_V) (i : Nat) (v : mm_V) (f : α) (k : List mm_V → α) : α := bif decide (i + 1 < ls.length) && mm_pv ls i then k ((ls.set i v).set (i + 1) (9, 0)) else f
def mm_tg (pc : Nat) (off : Int) : Nat := ((pc : Int) + off).toNat
def mm_sw {α : Type} (x : Int) (pc : Nat) (K : Nat → α) (d : Int) (lo : Int) : List Int → α
  | [] => K (mm_tg pc d)
  | o :: os => if x = lo then K (mm_tg pc o) else mm_sw x pc K d (lo + 1) os
def mm_lk {α : Type} (x : Int) (pc : Nat) (K : Nat → α) (d : Int) : List (Int × Int) → α
  | [] => K (mm_tg pc d)
  | o :: os => if x = o.1 then K (mm_tg pc o.2) else mm_lk x pc K d os
def mm_wd (st : List mm_V) : Nat := (st.map fun v => if v.1 = 1 then 2 else 1).sum
/-- what a call pushes, by the tag of what comes back (8: nothing) -/
def mm_pu (t : Nat) (x : Int) (st : List mm_V) : List mm_V := bif t == 8 then st else (t, x) :: st
def mm_ck {α : Type} (st : List mm_V) (f k : α) : α := bif decide (mm_wd st ≤ 20) then k else f
def mm_F {α : Type} (f : α) (r : Int → mm_H → α) (K : Nat → List mm_V → List mm_V → mm_H → α) (C : Nat → List mm_V → Nat → Nat → List mm_V → List mm_V → mm_H → α) (e : mm_E) (ls st : List mm_V) (h : mm_H) : α :=
  match e.2.1 with
  | .iconst n => K (e.1 + e.2.2.1) ls ((0, n) :: st) h
  | .bipush n => K (e.1 + e.2.2.1) ls ((0, n) :: st) h
  | .sipush n => K (e.1 + e.2.2.1) ls ((0, n) :: st) h
  | .ldc _ => K (e.1 + e.2.2.1) ls ((e.2.2.2.1.headD 0, e.2.2.2.2) :: st) h
  | .ldc_w _ => K (e.1 + e.2.2.1) ls ((e.2.2.2.1.headD 0, e.2.2.2.2) :: st) h
  | .ldc2_w _ => K (e.1 + e.2.2.1) ls ((1, e.2.2.2.2) :: st) h
  | .lconst n => K (e.1 + e.2.2.1) ls ((1, ((n : Nat) : Int)) :: st) h
  | .iload_n i => mm_ld ls i 0 f fun x => K (e.1 + e.2.2.1) ls ((0, x) :: st) h
  | .iload i => mm_ld ls i 0 f fun x => K (e.1 + e.2.2.1) ls ((0, x) :: st) h
  | .lload_n i => mm_ld ls i 1 f fun x => K (e.1 + e.2.2.1) ls ((1, x) :: st) h
  | .lload i => mm_ld ls i 1 f fun x => K (e.1 + e.2.2.1) ls ((1, x) :: st) h
  | .aload_n i => mm_la ls i f fun v => K (e.1 + e.2.2.1) ls (v :: st) h
  | .aload i => mm_la ls i f fun v => K (e.1 + e.2.2.1) ls (v :: st) h
  | .istore_n i => mm_t1 st 0 f fun x st => mm_s1 ls i (0, x) f fun ls => K (e.1 + e.2.2.1) ls st h
  | .istore i => mm_t1 st 0 f fun x st => mm_s1 ls i (0, x) f fun ls => K (e.1 + e.2.2.1) ls st h
  | .lstore_n i => mm_t1 st 1 f fun x st => mm_s2 ls i (1, x) f fun ls => K (e.1 + e.2.2.1) ls st h
  | .lstore i => mm_t1 st 1 f fun x st => mm_s2 ls i (1, x) f fun ls => K (e.1 + e.2.2.1) ls st h
  | .astore_n i => mm_an st f fun v st => bif v.1 == 0 then f else mm_s1 ls i v f fun ls => K (e.1 + e.2.2.1) ls st h
  | .astore i => mm_an st f fun v st => bif v.1 == 0 then f else mm_s1 ls i v f fun ls => K (e.1 + e.2.2.1) ls st h
  | .iinc i n => mm_ld ls i 0 f fun x => mm_s1 ls i (0, mm_w (x + n)) f fun ls => K (e.1 + e.2.2.1) ls st h
  | .iadd => mm_t1 st 0 f fun y st => mm_t1 st 0 f fun x st => K (e.1 + e.2.2.1) ls ((0, mm_w (x + y)) :: st) h
  | .isub => mm_t1 st 0 f fun y st => mm_t1 st 0 f fun x st => K (e.1 + e.2.2.1) ls ((0, mm_w (x - y)) :: st) h
  | .imul => mm_t1 st 0 f fun y st => mm_t1 st 0 f fun x st => K (e.1 + e.2.2.1) ls ((0, mm_w (x * y)) :: st) h
  | .idiv => mm_t1 st 0 f fun y st => mm_t1 st 0 f fun x st => if y = 0 then f else K (e.1 + e.2.2.1) ls ((0, mm_div x y) :: st) h
  | .irem => mm_t1 st 0 f fun y st => mm_t1 st 0 f fun x st => if y = 0 then f else K (e.1 + e.2.2.1) ls ((0, mm_rem x y) :: st) h
  | .ineg => mm_t1 st 0 f fun x st => K (e.1 + e.2.2.1) ls ((0, mm_w (-x)) :: st) h
  | .iand => mm_t1 st 0 f fun y st => mm_t1 st 0 f fun x st => K (e.1 + e.2.2.1) ls ((0, mm_and x y) :: st) h
  | .ior => mm_t1 st 0 f fun y st => mm_t1 st 0 f fun x st => K (e.1 + e.2.2.1) ls ((0, mm_or x y) :: st) h
  | .ixor => mm_t1 st 0 f fun y st => mm_t1 st 0 f fun x st => K (e.1 + e.2.2.1) ls ((0, mm_xor x y) :: st) h
  | .ishl => mm_t1 st 0 f fun y st => mm_t1 st 0 f fun x st => K (e.1 + e.2.2.1) ls ((0, mm_shl x y) :: st) h
  | .ishr => mm_t1 st 0 f fun y st => mm_t1 st 0 f fun x st => K (e.1 + e.2.2.1) ls ((0, mm_shr x y) :: st) h
  | .iushr => mm_t1 st 0 f fun y st => mm_t1 st 0 f fun x st => K (e.1 + e.2.2.1) ls ((0, mm_ushr x y) :: st) h
  | .ladd => mm_t1 st 1 f fun y st => mm_t1 st 1 f fun x st => K (e.1 + e.2.2.1) ls ((1, mm_wl (x + y)) :: st) h
  | .lsub => mm_t1 st 1 f fun y st => mm_t1 st 1 f fun x st => K (e.1 + e.2.2.1) ls ((1, mm_wl (x - y)) :: st) h
  | .lmul => mm_t1 st 1 f fun y st => mm_t1 st 1 f fun x st => K (e.1 + e.2.2.1) ls ((1, mm_wl (x * y)) :: st) h
  | .ldiv => mm_t1 st 1 f fun y st => mm_t1 st 1 f fun x st => if y = 0 then f else K (e.1 + e.2.2.1) ls ((1, mm_ldiv x y) :: st) h
  | .lrem => mm_t1 st 1 f fun y st => mm_t1 st 1 f fun x st => if y = 0 then f else K (e.1 + e.2.2.1) ls ((1, mm_lrem x y) :: st) h
  | .lor => mm_t1 st 1 f fun y st => mm_t1 st 1 f fun x st => K (e.1 + e.2.2.1) ls ((1, mm_lor x y) :: st) h
  | .lshl => mm_t1 st 0 f fun y st => mm_t1 st 1 f fun x st => K (e.1 + e.2.2.1) ls ((1, mm_lshl x y) :: st) h
  | .lushr => mm_t1 st 0 f fun y st => mm_t1 st 1 f fun x st => K (e.1 + e.2.2.1) ls ((1, mm_lushr x y) :: st) h
  | .lcmp => mm_t1 st 1 f fun y st => mm_t1 st 1 f fun x st => K (e.1 + e.2.2.1) ls ((0, mm_lcmp x y) :: st) h
  | .i2l => mm_t1 st 0 f fun x st => K (e.1 + e.2.2.1) ls ((1, x) :: st) h
  | .l2i => mm_t1 st 1 f fun x st => K (e.1 + e.2.2.1) ls ((0, mm_w x) :: st) h
  | .i2b => mm_t1 st 0 f fun x st => K (e.1 + e.2.2.1) ls ((0, mm_w8 x) :: st) h
  | .dup => mm_an st f fun v st => K (e.1 + e.2.2.1) ls (v :: v :: st) h
  | .dup2 => mm_an st f fun v st => mm_an st f fun u st => K (e.1 + e.2.2.1) ls (v :: u :: v :: u :: st) h
  | .pop => mm_an st f fun _ st => K (e.1 + e.2.2.1) ls st h
  | .goto o => K (mm_tg e.1 o) ls st h
  | .ifCond .eq o => mm_t1 st 0 f fun x st => if x = 0 then K (mm_tg e.1 o) ls st h else K (e.1 + e.2.2.1) ls st h
  | .ifCond .ne o => mm_t1 st 0 f fun x st => if x = 0 then K (e.1 + e.2.2.1) ls st h else K (mm_tg e.1 o) ls st h
  | .ifCond .lt o => mm_t1 st 0 f fun x st => if x < 0 then K (mm_tg e.1 o) ls st h else K (e.1 + e.2.2.1) ls st h
  | .ifCond .ge o => mm_t1 st 0 f fun x st => if x < 0 then K (e.1 + e.2.2.1) ls st h else K (mm_tg e.1 o) ls st h
  | .ifCond .gt o => mm_t1 st 0 f fun x st => if 0 < x then K (mm_tg e.1 o) ls st h else K (e.1 + e.2.2.1) ls st h
  | .ifCond .le o => mm_t1 st 0 f fun x st => if 0 < x then K (e.1 + e.2.2.1) ls st h else K (mm_tg e.1 o) ls st h
  | .if_icmp .eq o => mm_t1 st 0 f fun y st => mm_t1 st 0 f fun x st => if x = y then K (mm_tg e.1 o) ls st h else K (e.1 + e.2.2.1) ls st h
  | .if_icmp .ne o => mm_t1 st 0 f fun y st => mm_t1 st 0 f fun x st => if x = y then K (e.1 + e.2.2.1) ls st h else K (mm_tg e.1 o) ls st h
  | .if_icmp .lt o => mm_t1 st 0 f fun y st => mm_t1 st 0 f fun x st => if x < y then K (mm_tg e.1 o) ls st h else K (e.1 + e.2.2.1) ls st h
  | .if_icmp .ge o => mm_t1 st 0 f fun y st => mm_t1 st 0 f fun x st => if x < y then K (e.1 + e.2.2.1) ls st h else K (mm_tg e.1 o) ls st h
  | .if_icmp .gt o => mm_t1 st 0 f fun y st => mm_t1 st 0 f fun x st => if y < x then K (mm_tg e.1 o) ls st h else K (e.1 + e.2.2.1) ls st h
  | .if_icmp .le o => mm_t1 st 0 f fun y st => mm_t1 st 0 f fun x st => if y < x then K (e.1 + e.2.2.1) ls st h else K (mm_tg e.1 o) ls st h
  | .if_acmp .eq o => mm_t1 st 2 f fun y st => mm_t1 st 2 f fun x st => bif mm_wr y then (if x = y then K (mm_tg e.1 o) ls st h else K (e.1 + e.2.2.1) ls st h) else f
  | .if_acmp .ne o => mm_t1 st 2 f fun y st => mm_t1 st 2 f fun x st => bif mm_wr y then (if x = y then K (e.1 + e.2.2.1) ls st h else K (mm_tg e.1 o) ls st h) else f
  | .tableswitch d lo _ os => mm_t1 st 0 f fun x st => mm_sw x e.1 (fun pc => K pc ls st h) d lo os.toList
  | .lookupswitch d ps => mm_t1 st 0 f fun x st => mm_lk x e.1 (fun pc => K pc ls st h) d ps.toList
  | .getstatic _ => K (e.1 + e.2.2.1) ls ((e.2.2.2.1.headD 9, e.2.2.2.2) :: st) h
  | .getfield _ => mm_an st f fun v st => bif v.1 == e.2.2.2.1.getD 0 9 then (match e.2.2.2.1.getD 2 9 with
      | 0 => K (e.1 + e.2.2.1) ls ((0, h v.2 (e.2.2.2.1.getD 1 0 : Nat)) :: st) h
      | 1 => K (e.1 + e.2.2.1) ls ((1, h v.2 (e.2.2.2.1.getD 1 0 : Nat)) :: st) h
      | 2 => K (e.1 + e.2.2.1) ls ((2, h v.2 (e.2.2.2.1.getD 1 0 : Nat)) :: st) h
      | 3 => K (e.1 + e.2.2.1) ls ((e.2.2.2.1.getD 3 9, v.2 + (e.2.2.2.1.getD 4 0 : Nat)) :: st) h
      | 4 => bif mm_wr v.2 then K (e.1 + e.2.2.1) ls ((1, mm_key v.2) :: st) h else f
      | _ => f) else f
  | .putfield _ => match e.2.2.2.1.getD 2 9 with
      | 0 => mm_t1 st 0 f fun x st => mm_an st f fun v st => bif v.1 == e.2.2.2.1.getD 0 9 then K (e.1 + e.2.2.1) ls st (mm_up h v.2 (e.2.2.2.1.getD 1 0 : Nat) x) else f
      | 1 => mm_t1 st 1 f fun x st => mm_an st f fun v st => bif v.1 == e.2.2.2.1.getD 0 9 then K (e.1 + e.2.2.1) ls st (mm_up h v.2 (e.2.2.2.1.getD 1 0 : Nat) x) else f
      | 2 => mm_t1 st 2 f fun x st => mm_an st f fun v st => bif v.1 == e.2.2.2.1.getD 0 9 then K (e.1 + e.2.2.1) ls st (mm_up h v.2 (e.2.2.2.1.getD 1 0 : Nat) x) else f
      | 5 => mm_t1 st 0 f fun x st => mm_an st f fun v st => bif v.1 == e.2.2.2.1.getD 0 9 then (if x = 0 ∨ x = 1 then K (e.1 + e.2.2.1) ls st (mm_up h v.2 (e.2.2.2.1.getD 1 0 : Nat) x) else f) else f
      | _ => f
  | .arraylength => mm_t1 st 4 f fun _ st => K (e.1 + e.2.2.1) ls ((0, 36) :: st) h
  | .iaload => mm_t1 st 0 f fun i st => mm_an st f fun v st => bif v.1 == 5 then (if 0 ≤ i ∧ i < 4 then K (e.1 + e.2.2.1) ls ((0, mm_mos i) :: st) h else f) else bif (mm_ak v.1).1 == 0 then (if 0 ≤ i ∧ i < ((mm_ak v.1).2 : Nat) then K (e.1 + e.2.2.1) ls ((0, h v.2 i) :: st) h else f) else f
  | .laload => mm_t1 st 0 f fun i st => mm_an st f fun v st => bif (mm_ak v.1).1 == 1 then (if 0 ≤ i ∧ i < ((mm_ak v.1).2 : Nat) then K (e.1 + e.2.2.1) ls ((1, h v.2 i) :: st) h else f) else f
  | .baload => mm_t1 st 0 f fun i st => mm_an st f fun v st => bif (mm_ak v.1).1 == 3 || (mm_ak v.1).1 == 4 then (if 0 ≤ i ∧ i < ((mm_ak v.1).2 : Nat) then K (e.1 + e.2.2.1) ls ((0, h v.2 i) :: st) h else f) else f
  | .aaload => mm_t1 st 0 f fun i st => mm_an st f fun v st => bif v.1 == 4 then (if 0 ≤ i ∧ i < 36 then K (e.1 + e.2.2.1) ls ((2, i) :: st) h else f) else if 0 ≤ i ∧ i < ((mm_ak v.1).2 : Nat) then (match (mm_ak v.1).1 with
      | 2 => K (e.1 + e.2.2.1) ls ((2, h v.2 i) :: st) h
      | 5 => K (e.1 + e.2.2.1) ls ((12, v.2 + 1 + 4 * i) :: st) h
      | 6 => K (e.1 + e.2.2.1) ls ((16, v.2 + 62 + 19 * i) :: st) h
      | 7 => K (e.1 + e.2.2.1) ls ((27, v.2 + 1 + i) :: st) h
      | _ => f) else f
  | .iastore => mm_t1 st 0 f fun x st => mm_t1 st 0 f fun i st => mm_an st f fun v st => bif (mm_ak v.1).1 == 0 then (if 0 ≤ i ∧ i < ((mm_ak v.1).2 : Nat) then K (e.1 + e.2.2.1) ls st (mm_up h v.2 i x) else f) else f
  | .lastore => mm_t1 st 1 f fun x st => mm_t1 st 0 f fun i st => mm_an st f fun v st => bif (mm_ak v.1).1 == 1 then (if 0 ≤ i ∧ i < ((mm_ak v.1).2 : Nat) then K (e.1 + e.2.2.1) ls st (mm_up h v.2 i x) else f) else f
  | .bastore => mm_t1 st 0 f fun x st => mm_t1 st 0 f fun i st => mm_an st f fun v st => bif (mm_ak v.1).1 == 3 then (if 0 ≤ i ∧ i < ((mm_ak v.1).2 : Nat) then K (e.1 + e.2.2.1) ls st (mm_up h v.2 i (mm_w8 x)) else f) else bif (mm_ak v.1).1 == 4 then (if 0 ≤ i ∧ i < ((mm_ak v.1).2 : Nat) then (if x = 0 ∨ x = 1 then K (e.1 + e.2.2.1) ls st (mm_up h v.2 i x) else f) else f) else f
  | .aastore => mm_t1 st 2 f fun x st => mm_t1 st 0 f fun i st => mm_an st f fun v st => bif (mm_ak v.1).1 == 2 then (if 0 ≤ i ∧ i < ((mm_ak v.1).2 : Nat) then K (e.1 + e.2.2.1) ls st (mm_up h v.2 i x) else f) else f
  | .invokevirtual _ => match e.2.2.2.1.getD 0 9 with
      | 0 => bif decide (e.2.2.2.1.getD 2 0 ≤ st.length) && decide (mm_wd (st.drop (e.2.2.2.1.getD 2 0)) ≤ 8) && ((st.take (e.2.2.2.1.getD 2 0)).getLast?.elim false fun v => v.1 == e.2.2.2.1.getD 4 9) then C (e.2.2.2.1.getD 1 0) ((st.take (e.2.2.2.1.getD 2 0)).reverse) (e.2.2.2.1.getD 3 9) (e.1 + e.2.2.1) ls (st.drop (e.2.2.2.1.getD 2 0)) h else f
      | 1 => mm_t1 st 3 f fun s st => mm_ck st f <| K (e.1 + e.2.2.1) ls ((0, ((mm_txt s).length : Nat)) :: st) h
      | 2 => mm_t1 st 0 f fun i st => mm_t1 st 3 f fun s st => mm_ck st f <| if 0 ≤ i ∧ i < ((mm_txt s).length : Nat) then K (e.1 + e.2.2.1) ls ((0, (mm_txt s).getD i.toNat 0) :: st) h else f
      | _ => f
  | .invokestatic _ => match e.2.2.2.1.getD 0 9 with
      | 0 => bif decide (e.2.2.2.1.getD 2 0 ≤ st.length) && decide (mm_wd (st.drop (e.2.2.2.1.getD 2 0)) ≤ 8) then C (e.2.2.2.1.getD 1 0) ((st.take (e.2.2.2.1.getD 2 0)).reverse) (e.2.2.2.1.getD 3 9) (e.1 + e.2.2.1) ls (st.drop (e.2.2.2.1.getD 2 0)) h else f
      | 1 => mm_t1 st 0 f fun y st => mm_t1 st 0 f fun x st => mm_ck st f <| K (e.1 + e.2.2.1) ls ((0, min x y) :: st) h
      | 2 => mm_t1 st 0 f fun y st => mm_t1 st 0 f fun x st => mm_ck st f <| K (e.1 + e.2.2.1) ls ((0, max x y) :: st) h
      | 3 => mm_t1 st 0 f fun x st => mm_ck st f <| K (e.1 + e.2.2.1) ls ((0, mm_w (if x < 0 then -x else x)) :: st) h
      | 4 => mm_t1 st 0 f fun n st => mm_t1 st 0 f fun j st => mm_an st f fun b st => mm_t1 st 0 f fun i st => mm_an st f fun a st => mm_ck st f <| bif ((mm_ak a.1).1 == 0 || (mm_ak a.1).1 == 1) && (mm_ak b.1).1 == (mm_ak a.1).1 && decide (0 ≤ i ∧ 0 ≤ j ∧ 0 ≤ n ∧ i + n ≤ ((mm_ak a.1).2 : Nat) ∧ j + n ≤ ((mm_ak b.1).2 : Nat)) then K (e.1 + e.2.2.1) ls st (mm_cp h a.2 i b.2 j n) else f
      | _ => f
  | .ireturn => mm_t1 st 0 f fun x st => mm_nl st f (bif e.2.2.2.1.headD 0 == 5 then (if x = 0 ∨ x = 1 then r x h else f) else r x h)
  | .lreturn => mm_t1 st 1 f fun x st => mm_nl st f (r x h)
  | .areturn => mm_t1 st 2 f fun x st => mm_nl st f (r x h)
  | .return_ => mm_nl st f (r 0 h)
  | _ => f
/-- the rows of a method's code, by the place -/
def mm_at (c : List mm_E) (pc : Nat) : Option mm_E := c.find? fun e => e.1 == pc
end
section
/-! Runs of the small machine -/
abbrev mm_P : Type := Nat → List mm_E × Nat
def mm_en : List mm_V → List mm_V
  | [] => []
  | v :: r => bif v.1 == 1 then v :: (9, 0) :: mm_en r else v :: mm_en r
def mm_fr (n : Nat) (as : List mm_V) : List mm_V := mm_en as ++ List.replicate (n - (mm_en as).length) (9, 0)
def mm_x (P : mm_P) : Nat → Nat → List mm_E → Nat → List mm_V → List mm_V → mm_H → Option mm_O
  | 0, _, _, _, _, _, _ => none
  | n + 1, d, c, pc, ls, st, h => match mm_at c pc with
    | none => none
    | some e => mm_F none (fun x h => some (x, h)) (fun pc ls st h => mm_x P n d c pc ls st h) (fun q as t pc ls st h => match d with
      | 0 => none
      | d' + 1 => (mm_x P n d' (P q).1 0 (mm_fr (P q).2 as) [] h).bind fun o => mm_x P n d c pc ls (mm_pu t o.1 st) o.2) e ls st h
abbrev mm_S : Type := Option (mm_O ⊕ ((Nat × List mm_V × List mm_V × mm_H) ⊕ (Nat × List mm_V × Nat × Nat × List mm_V × List mm_V × mm_H)))
def mm_st (e : mm_E) (ls st : List mm_V) (h : mm_H) : mm_S := mm_F none (fun x h => some (.inl (x, h))) (fun pc ls st h => some (.inr (.inl (pc, ls, st, h)))) (fun q as t pc ls st h => some (.inr (.inr (q, as, t, pc, ls, st, h)))) e ls st h
theorem mm_t1_nat {α β : Type} (φ : α → β) (st : List mm_V) (t : Nat) (f : α) (k : Int → List mm_V → α) : φ (mm_t1 st t f k) = mm_t1 st t (φ f) (fun x r => φ (k x r)) := by
  unfold mm_t1
  cases st with
  | nil => rfl
  | cons v r => simp only; cases v.1 == t <;> rfl
theorem mm_an_nat {α β : Type} (φ : α → β) (st : List mm_V) (f : α) (k : mm_V → List mm_V → α) : φ (mm_an st f k) = mm_an st (φ f) (fun x r => φ (k x r)) := by
  unfold mm_an
  cases st with
  | nil => rfl
  | cons v r => simp only; cases (v.1 == 1 || v.1 == 9) <;> rfl
theorem mm_nl_nat {α β : Type} (φ : α → β) (st : List mm_V) (f k : α) : φ (mm_nl st f k) = mm_nl st (φ f) (φ k) := by
  unfold mm_nl
  cases st <;> rfl
theorem mm_ld_nat {α β : Type} (φ : α → β) (ls : List mm_V) (i t : Nat) (f : α) (k : Int → α) : φ (mm_ld ls i t f k) = mm_ld ls i t (φ f) (fun x => φ (k x)) := by
  unfold mm_ld
  cases ls[i]? with
  | none => rfl
  | some v => simp only; cases v.1 == t <;> rfl
theorem mm_la_nat {α β : Type} (φ : α → β) (ls : List mm_V) (i : Nat) (f : α) (k : mm_V → α) : φ (mm_la ls i f k) = mm_la ls i (φ f) (fun x => φ (k x)) := by
  unfold mm_la
  cases ls[i]? with
  | none => rfl
  | some v => simp only; cases (v.1 == 0 || v.1 == 1 || v.1 == 9) <;> rfl
theorem mm_s1_nat {α β : Type} (φ : α → β) (ls : List mm_V) (i : Nat) (v : mm_V) (f : α) (k : List mm_V → α) : φ (mm_s1 ls i v f k) = mm_s1 ls i v (φ f) (fun x => φ (k x)) := by
  unfold mm_s1
  cases (decide (i < ls.length) && mm_pv ls i) <;> rfl
theorem mm_s2_nat {α β : Type} (φ : α → β) (ls : List mm_V) (i : Nat) (v : mm_V) (f : α) (k : List mm_V → α) : φ (mm_s2 ls i v f k) = mm_s2 ls i v (φ f) (fun x => φ (k x)) := by
  unfold mm_s2
  cases (decide (i + 1 < ls.length) && mm_pv ls i) <;> rfl
theorem mm_ck_nat {α β : Type} (φ : α → β) (st : List mm_V) (f k : α) : φ (mm_ck st f k) = mm_ck st (φ f) (φ k) := by
  unfold mm_ck
  cases decide (mm_wd st ≤ 20) <;> rfl
theorem mm_if_nat {α β : Type} (φ : α → β) (c : Prop) [Decidable c] (a b : α) : φ (if c then a else b) = if c then φ a else φ b := by
  split <;> rfl
theorem mm_bf_nat {α β : Type} (φ : α → β) (c : Bool) (a b : α) : φ (bif c then a else b) = bif c then φ a else φ b := by
  cases c <;> rfl
theorem mm_sw_nat {α β : Type} (φ : α → β) (x : Int) (pc : Nat) (K : Nat → α) (d : Int) : ∀ (os : List Int) (lo : Int), φ (mm_sw x pc K d lo os) = mm_sw x pc (fun q => φ (K q)) d lo os
  | [], lo => rfl
  | o :: os, lo => by
    show φ (if x = lo then K (mm_tg pc o) else mm_sw x pc K d (lo + 1) os) = if x = lo then φ (K (mm_tg pc o)) else mm_sw x pc (fun q => φ (K q)) d (lo + 1) os
    rw [mm_if_nat φ, mm_sw_nat φ x pc K d os (lo + 1)]
theorem mm_lk_nat {α β : Type} (φ : α → β) (x : Int) (pc : Nat) (K : Nat → α) (d : Int) : ∀ (os : List (Int × Int)), φ (mm_lk x pc K d os) = mm_lk x pc (fun q => φ (K q)) d os
  | [] => rfl
  | o :: os => by
    show φ (if x = o.1 then K (mm_tg pc o.2) else mm_lk x pc K d os) = if x = o.1 then φ (K (mm_tg pc o.2)) else mm_lk x pc (fun q => φ (K q)) d os
    rw [mm_if_nat φ, mm_lk_nat φ x pc K d os]
set_option maxHeartbeats 4000000 in
set_option maxRecDepth 100000 in
theorem mm_F_nat {α β : Type} (φ : α → β) (f : α) (r : Int → mm_H → α) (K : Nat → List mm_V → List mm_V → mm_H → α) (C : Nat → List mm_V → Nat → Nat → List mm_V → List mm_V → mm_H → α) (e : mm_E) (ls st : List mm_V) (h : mm_H) :
    φ (mm_F f r K C e ls st h) = mm_F (φ f) (fun x h => φ (r x h)) (fun pc ls st h => φ (K pc ls st h)) (fun q as t pc ls st h => φ (C q as t pc ls st h)) e ls st h := by
  obtain ⟨pc, ins, len, aux, val⟩ := e
  cases ins
  case ifCond c o => cases c <;> simp only [mm_F, mm_t1_nat φ, mm_if_nat φ]
  case if_icmp c o => cases c <;> simp only [mm_F, mm_t1_nat φ, mm_if_nat φ]
  case if_acmp c o => cases c <;> simp only [mm_F, mm_t1_nat φ, mm_if_nat φ, mm_bf_nat φ]
  case getfield i =>
    simp only [mm_F]
    split <;> simp only [mm_an_nat φ, mm_bf_nat φ]
  case putfield i =>
    simp only [mm_F]
    split <;> simp only [mm_t1_nat φ, mm_an_nat φ, mm_bf_nat φ, mm_if_nat φ, mm_ck_nat φ]
  case aaload =>
    simp only [mm_F, mm_t1_nat φ, mm_an_nat φ, mm_bf_nat φ, mm_if_nat φ, mm_ck_nat φ]
    congr 1; funext i st; congr 1; funext v st; congr 1; split <;> first | rfl | (split <;> rfl)
  case invokevirtual i =>
    simp only [mm_F]
    split <;> simp only [mm_t1_nat φ, mm_an_nat φ, mm_bf_nat φ, mm_if_nat φ, mm_ck_nat φ]
  case invokestatic i =>
    simp only [mm_F]
    split <;> simp only [mm_t1_nat φ, mm_an_nat φ, mm_bf_nat φ, mm_if_nat φ, mm_ck_nat φ]
  all_goals first | rfl | simp only [mm_F, mm_t1_nat φ, mm_an_nat φ, mm_nl_nat φ, mm_ld_nat φ, mm_la_nat φ, mm_s1_nat φ, mm_s2_nat φ, mm_if_nat φ, mm_bf_nat φ, mm_sw_nat φ, mm_lk_nat φ]
theorem mm_F_st {α : Type} (f : α) (r : Int → mm_H → α) (K : Nat → List mm_V → List mm_V → mm_H → α) (C : Nat → List mm_V → Nat → Nat → List mm_V → List mm_V → mm_H → α) (e : mm_E) (ls st : List mm_V) (h : mm_H) :
    mm_F f r K C e ls st h = match mm_st e ls st h with
      | none => f
      | some (.inl o) => r o.1 o.2
      | some (.inr (.inl s)) => K s.1 s.2.1 s.2.2.1 s.2.2.2
      | some (.inr (.inr s)) => C s.1 s.2.1 s.2.2.1 s.2.2.2.1 s.2.2.2.2.1 s.2.2.2.2.2.1 s.2.2.2.2.2.2 :=
  (mm_F_nat (fun z : mm_S => match z with
      | none => f
      | some (.inl o) => r o.1 o.2
      | some (.inr (.inl s)) => K s.1 s.2.1 s.2.2.1 s.2.2.2
      | some (.inr (.inr s)) => C s.1 s.2.1 s.2.2.1 s.2.2.2.1 s.2.2.2.2.1 s.2.2.2.2.2.1 s.2.2.2.2.2.2) none (fun x h => some (.inl (x, h))) (fun pc ls st h => some (.inr (.inl (pc, ls, st, h)))) (fun q as t pc ls st h => some (.inr (.inr (q, as, t, pc, ls, st, h)))) e ls st h).symm
/-- what a call does in a run, by what a method does -/
def mm_cl (P : mm_P) (d : Nat) (X : Nat → List mm_E → Nat → List mm_V → List mm_V → mm_H → Option mm_O) (k : Nat → List mm_V → List mm_V → mm_H → Option mm_O) (q : Nat) (as : List mm_V) (t pc : Nat) (ls st : List mm_V) (h : mm_H) : Option mm_O := match d with
  | 0 => none
  | d' + 1 => (X d' (P q).1 0 (mm_fr (P q).2 as) [] h).bind fun o => k pc ls (mm_pu t o.1 st) o.2
theorem mm_x_S (P : mm_P) (n d : Nat) (c : List mm_E) (pc : Nat) (ls st : List mm_V) (h : mm_H) : mm_x P (n + 1) d c pc ls st h = match mm_at c pc with
    | none => none
    | some e => match mm_st e ls st h with
      | none => none
      | some (.inl o) => some o
      | some (.inr (.inl s)) => mm_x P n d c s.1 s.2.1 s.2.2.1 s.2.2.2
      | some (.inr (.inr s)) => mm_cl P d (mm_x P n) (mm_x P n d c) s.1 s.2.1 s.2.2.1 s.2.2.2.1 s.2.2.2.2.1 s.2.2.2.2.2.1 s.2.2.2.2.2.2 := by
  rw [mm_x]
  cases mm_at c pc with
  | none => rfl
  | some e => exact mm_F_st _ _ _ _ e ls st h
theorem mm_x_up (P : mm_P) : ∀ (n d : Nat) (c : List mm_E) (pc : Nat) (ls st : List mm_V) (h : mm_H) (o : mm_O), mm_x P n d c pc ls st h = some o → mm_x P (n + 1) d c pc ls st h = some o
  | 0, _, _, _, _, _, _, _, q => by simp [mm_x] at q
  | n + 1, d, c, pc, ls, st, h, o, q => by
    rw [mm_x_S] at q ⊢
    cases h1 : mm_at c pc with
    | none => rw [h1] at q; cases q
    | some e =>
      rw [h1] at q
      simp only at q ⊢
      cases h2 : mm_st e ls st h with
      | none => rw [h2] at q; cases q
      | some z =>
        rw [h2] at q
        rcases z with z | z | z
        · exact q
        · exact mm_x_up P n d c _ _ _ _ o q
        · simp only [mm_cl] at q ⊢
          cases d with
          | zero => cases q
          | succ d' =>
            simp only [Option.bind_eq_some_iff] at q ⊢
            obtain ⟨o1, q1, q2⟩ := q
            exact ⟨o1, mm_x_up P n d' _ _ _ _ _ o1 q1, mm_x_up P n (d' + 1) c _ _ _ _ o q2⟩
theorem mm_x_le (P : mm_P) {n m d : Nat} {c : List mm_E} {pc : Nat} {ls st : List mm_V} {h : mm_H} {o : mm_O} (hnm : n ≤ m) (q : mm_x P n d c pc ls st h = some o) : mm_x P m d c pc ls st h = some o := by
  induction hnm with
  | refl => exact q
  | step _ ih => exact mm_x_up P _ d c pc ls st h o ih
noncomputable def mm_R (P : mm_P) (d : Nat) (c : List mm_E) (pc : Nat) (ls st : List mm_V) (h : mm_H) : Option mm_O :=
  @dite _ (∃ o, ∃ n, mm_x P n d c pc ls st h = some o) (Classical.propDecidable _) (fun q => some (Classical.choose q)) (fun _ => none)
theorem mm_R_iff (P : mm_P) (d : Nat) (c : List mm_E) (pc : Nat) (ls st : List mm_V) (h : mm_H) (o : mm_O) : mm_R P d c pc ls st h = some o ↔ ∃ n, mm_x P n d c pc ls st h = some o := by
  unfold mm_R
  constructor
  · intro q
    split at q
    case isTrue hq =>
      cases q
      exact Classical.choose_spec hq
    case isFalse hq => cases q
  · rintro ⟨n, q⟩
    have hq : ∃ o, ∃ n, mm_x P n d c pc ls st h = some o := ⟨o, n, q⟩
    rw [dif_pos hq]
    obtain ⟨m, q2⟩ := Classical.choose_spec hq
    have a := mm_x_le P (Nat.le_max_left n m) q
    have b := mm_x_le P (Nat.le_max_right n m) q2
    rw [a] at b
    exact b.symm
theorem mm_R_ext {a b : Option mm_O} (h : ∀ o, a = some o ↔ b = some o) : a = b := Option.ext h
theorem mm_R_eq (P : mm_P) (d : Nat) (c : List mm_E) (pc : Nat) (ls st : List mm_V) (h : mm_H) : mm_R P d c pc ls st h = match mm_at c pc with
    | none => none
    | some e => mm_F none (fun x h => some (x, h)) (mm_R P d c) (mm_cl P d (mm_R P) (mm_R P d c)) e ls st h := by
  apply mm_R_ext
  intro o
  rw [mm_R_iff]
  cases h1 : mm_at c pc with
  | none =>
    constructor
    · rintro ⟨n, q⟩
      cases n with
      | zero => simp [mm_x] at q
      | succ n => rw [mm_x_S, h1] at q; cases q
    · intro q; cases q
  | some e =>
    simp only
    rw [mm_F_st]
    have hS : (∃ n, mm_x P n d c pc ls st h = some o) ↔ ∃ n, mm_x P (n + 1) d c pc ls st h = some o := by
      constructor
      · rintro ⟨n, q⟩
        exact ⟨n, mm_x_up P n d c pc ls st h o q⟩
      · rintro ⟨n, q⟩
        exact ⟨n + 1, q⟩
    rw [hS]
    simp only [mm_x_S, h1]
    cases mm_st e ls st h with
    | none => simp
    | some z =>
      rcases z with z | z | z
      · simp
      · exact (mm_R_iff P d c _ _ _ _ o).symm
      · simp only [mm_cl]
        cases d with
        | zero => simp
        | succ d' =>
          simp only [Option.bind_eq_some_iff, mm_R_iff]
          constructor
          · rintro ⟨n, o1, q1, q2⟩
            exact ⟨o1, ⟨n, q1⟩, ⟨n, q2⟩⟩
          · rintro ⟨o1, ⟨n1, q1⟩, ⟨n2, q2⟩⟩
            exact ⟨max n1 n2, o1, mm_x_le P (Nat.le_max_left _ _) q1, mm_x_le P (Nat.le_max_right _ _) q2⟩
/-- a method's run at depth d: its callees' are at the depth below -/
noncomputable def mm_M (P : mm_P) (d q : Nat) (as : List mm_V) (h : mm_H) : Option mm_O := match d with
  | 0 => none
  | d' + 1 => mm_R P d' (P q).1 0 (mm_fr (P q).2 as) [] h
theorem mm_cl_M (P : mm_P) (d : Nat) (k : Nat → List mm_V → List mm_V → mm_H → Option mm_O) (q : Nat) (as : List mm_V) (t pc : Nat) (ls st : List mm_V) (h : mm_H) : mm_cl P d (mm_R P) k q as t pc ls st h = (mm_M P d q as h).bind fun o => k pc ls (mm_pu t o.1 st) o.2 := by
  cases d <;> rfl
theorem mm_R_eqM (P : mm_P) (d : Nat) (c : List mm_E) (pc : Nat) (ls st : List mm_V) (h : mm_H) : mm_R P d c pc ls st h = match mm_at c pc with
    | none => none
    | some e => mm_F none (fun x h => some (x, h)) (fun pc ls st h => mm_R P d c pc ls st h) (fun q as t pc ls st h => (mm_M P d q as h).bind fun o => mm_R P d c pc ls (mm_pu t o.1 st) o.2) e ls st h := by
  rw [mm_R_eq]
  have e1 : mm_cl P d (mm_R P) (mm_R P d c) = fun q as t pc ls st h => (mm_M P d q as h).bind fun o => mm_R P d c pc ls (mm_pu t o.1 st) o.2 := by
    funext q as t pc ls st h
    exact mm_cl_M P d _ q as t pc ls st h
  rw [e1]
/-- a stretch of at most k steps, that ends ahead of the places S -/
noncomputable def mm_it (P : mm_P) (S : List Nat) (d : Nat) (c : List mm_E) : Nat → Nat → List mm_V → List mm_V → mm_H → Option mm_O
  | 0, pc, ls, st, h => mm_R P d c pc ls st h
  | k + 1, pc, ls, st, h => bif S.elem pc then mm_R P d c pc ls st h else match mm_at c pc with
    | none => none
    | some e => mm_F none (fun x h => some (x, h)) (fun pc ls st h => mm_it P S d c k pc ls st h) (fun q as t pc ls st h => (mm_M P d q as h).bind fun o => mm_it P S d c k pc ls (mm_pu t o.1 st) o.2) e ls st h
theorem mm_it_R (P : mm_P) (S : List Nat) (d : Nat) (c : List mm_E) : ∀ (k pc : Nat) (ls st : List mm_V) (h : mm_H), mm_it P S d c k pc ls st h = mm_R P d c pc ls st h
  | 0, _, _, _, _ => rfl
  | k + 1, pc, ls, st, h => by
    rw [mm_it]
    cases S.elem pc with
    | true => rfl
    | false =>
      have e1 : mm_it P S d c k = mm_R P d c := by
        funext pc ls st h
        exact mm_it_R P S d c k pc ls st h
      rw [mm_R_eqM]
      simp only [e1, cond_false]
/-- the first step, then a stretch -/
noncomputable def mm_go (P : mm_P) (S : List Nat) (d : Nat) (c : List mm_E) (k pc : Nat) (ls st : List mm_V) (h : mm_H) : Option mm_O := match mm_at c pc with
    | none => none
    | some e => mm_F none (fun x h => some (x, h)) (fun pc ls st h => mm_it P S d c k pc ls st h) (fun q as t pc ls st h => (mm_M P d q as h).bind fun o => mm_it P S d c k pc ls (mm_pu t o.1 st) o.2) e ls st h
theorem mm_go_R (P : mm_P) (S : List Nat) (d : Nat) (c : List mm_E) (k pc : Nat) (ls st : List mm_V) (h : mm_H) : mm_R P d c pc ls st h = mm_go P S d c k pc ls st h := by
  have e1 : mm_it P S d c k = mm_R P d c := by
    funext pc ls st h
    exact mm_it_R P S d c k pc ls st h
  rw [mm_R_eqM, mm_go]
  simp only [e1]
end
section
/-! The rows of the methods: place, instruction, length, what it means here -/
/-- 0: HiccupTown$Book.readBook(LHiccupTown$Tape;LHiccupTown$Plan;)Z -/
def T_X0_readBook : List mm_E := [(0, .aload_n 0, 1, [], 0),
  (1, .iconst 0, 1, [], 0),
  (2, .putfield 18, 3, [10, 2, 0], 0),
  (5, .iconst 0, 1, [], 0),
  (6, .istore_n 3, 1, [], 0),
  (7, .iload_n 3, 1, [], 0),
  (8, .bipush 40, 2, [], 0),
  (10, .if_icmp .gt 42, 3, [], 0),
  (13, .aload_n 1, 1, [], 0),
  (14, .getfield 22, 3, [18, 4, 2], 0),
  (17, .getstatic 28, 3, [2], 0),
  (20, .if_acmp .ne 5, 3, [], 0),
  (23, .iconst 1, 1, [], 0),
  (24, .ireturn, 1, [5], 0),
  (25, .aload_n 0, 1, [], 0),
  (26, .aload_n 1, 1, [], 0),
  (27, .aload_n 2, 1, [], 0),
  (28, .invokevirtual 33, 3, [0, 1, 3, 0, 10], 0),
  (31, .ifCond .eq 13, 3, [], 0),
  (34, .aload_n 1, 1, [], 0),
  (35, .getstatic 37, 3, [2], 4),
  (38, .invokevirtual 40, 3, [0, 91, 2, 0, 18], 0),
  (41, .ifCond .ne 5, 3, [], 0),
  (44, .iconst 0, 1, [], 0),
  (45, .ireturn, 1, [5], 0),
  (46, .iinc 3 1, 3, [], 0),
  (49, .goto (-42), 3, [], 0),
  (52, .iconst 0, 1, [], 0),
  (53, .ireturn, 1, [5], 0)]
/-- 1: HiccupTown$Book.readLine(LHiccupTown$Tape;LHiccupTown$Plan;)Z -/
def T_X0_readLine : List mm_E := [(0, .aload_n 1, 1, [], 0),
  (1, .getfield 22, 3, [18, 4, 2], 0),
  (4, .astore_n 3, 1, [], 0),
  (5, .iconst (-1), 1, [], 0),
  (6, .istore 4, 2, [], 0),
  (8, .aload_n 3, 1, [], 0),
  (9, .getstatic 44, 3, [2], 2),
  (12, .if_acmp .ne 26, 3, [], 0),
  (15, .aload_n 2, 1, [], 0),
  (16, .iconst 1, 1, [], 0),
  (17, .aload_n 1, 1, [], 0),
  (18, .getfield 47, 3, [18, 7, 1], 0),
  (21, .invokevirtual 51, 3, [0, 58, 3, 0, 14], 0),
  (24, .istore 4, 2, [], 0),
  (26, .iload 4, 2, [], 0),
  (28, .iconst (-1), 1, [], 0),
  (29, .if_icmp .ne 22, 3, [], 0),
  (32, .aload_n 1, 1, [], 0),
  (33, .iconst 3, 1, [], 0),
  (34, .invokevirtual 57, 3, [0, 90, 2, 0, 18], 0),
  (37, .ireturn, 1, [5], 0),
  (38, .aload_n 3, 1, [], 0),
  (39, .invokestatic 61, 3, [0, 2, 1, 0], 0),
  (42, .ifCond .ne 9, 3, [], 0),
  (45, .aload_n 1, 1, [], 0),
  (46, .iconst 1, 1, [], 0),
  (47, .invokevirtual 57, 3, [0, 90, 2, 0, 18], 0),
  (50, .ireturn, 1, [5], 0),
  (51, .aload_n 0, 1, [], 0),
  (52, .getfield 18, 3, [10, 2, 0], 0),
  (55, .bipush 40, 2, [], 0),
  (57, .if_icmp .lt 9, 3, [], 0),
  (60, .aload_n 1, 1, [], 0),
  (61, .iconst 4, 1, [], 0),
  (62, .invokevirtual 57, 3, [0, 90, 2, 0, 18], 0),
  (65, .ireturn, 1, [5], 0),
  (66, .aload_n 1, 1, [], 0),
  (67, .invokevirtual 64, 3, [0, 84, 1, 8, 18], 0),
  (70, .aload_n 3, 1, [], 0),
  (71, .getstatic 67, 3, [2], 21),
  (74, .if_acmp .ne 10, 3, [], 0),
  (77, .aload_n 0, 1, [], 0),
  (78, .aload_n 1, 1, [], 0),
  (79, .aload_n 2, 1, [], 0),
  (80, .invokevirtual 70, 3, [0, 4, 3, 0, 10], 0),
  (83, .ireturn, 1, [5], 0),
  (84, .aload_n 3, 1, [], 0),
  (85, .getstatic 73, 3, [2], 25),
  (88, .if_acmp .ne 35, 3, [], 0),
  (91, .aload_n 1, 1, [], 0),
  (92, .iconst 1, 1, [], 0),
  (93, .bipush 60, 2, [], 0),
  (95, .invokevirtual 76, 3, [0, 92, 3, 0, 18], 0),
  (98, .istore 5, 2, [], 0),
  (100, .iload 5, 2, [], 0),
  (102, .iconst (-1), 1, [], 0),
  (103, .if_icmp .eq 18, 3, [], 0),
  (106, .aload_n 0, 1, [], 0),
  (107, .bipush 6, 2, [], 0),
  (109, .iload 5, 2, [], 0),
  (111, .invokevirtual 80, 3, [0, 6, 3, 0, 10], 0),
  (114, .ifCond .eq 7, 3, [], 0),
  (117, .iconst 1, 1, [], 0),
  (118, .goto 4, 3, [], 0),
  (121, .iconst 0, 1, [], 0),
  (122, .ireturn, 1, [5], 0),
  (123, .aload_n 3, 1, [], 0),
  (124, .getstatic 44, 3, [2], 2),
  (127, .if_acmp .ne 13, 3, [], 0),
  (130, .aload_n 0, 1, [], 0),
  (131, .aload_n 1, 1, [], 0),
  (132, .iload 4, 2, [], 0),
  (134, .invokevirtual 84, 3, [0, 5, 3, 0, 10], 0),
  (137, .goto 12, 3, [], 0),
  (140, .aload_n 0, 1, [], 0),
  (141, .aload_n 3, 1, [], 0),
  (142, .invokestatic 88, 3, [0, 3, 1, 0], 0),
  (145, .iconst 0, 1, [], 0),
  (146, .invokevirtual 80, 3, [0, 6, 3, 0, 10], 0),
  (149, .ireturn, 1, [5], 0)]
/-- 2: HiccupTown$Book.isAct(LHiccupTown$Word;)Z -/
def T_X0_isAct : List mm_E := [(0, .aload_n 0, 1, [], 0),
  (1, .getstatic 92, 3, [2], 18),
  (4, .if_acmp .eq 31, 3, [], 0),
  (7, .aload_n 0, 1, [], 0),
  (8, .getstatic 95, 3, [2], 19),
  (11, .if_acmp .eq 24, 3, [], 0),
  (14, .aload_n 0, 1, [], 0),
  (15, .getstatic 98, 3, [2], 20),
  (18, .if_acmp .eq 17, 3, [], 0),
  (21, .aload_n 0, 1, [], 0),
  (22, .getstatic 67, 3, [2], 21),
  (25, .if_acmp .eq 10, 3, [], 0),
  (28, .aload_n 0, 1, [], 0),
  (29, .getstatic 73, 3, [2], 25),
  (32, .if_acmp .ne 7, 3, [], 0),
  (35, .iconst 1, 1, [], 0),
  (36, .goto 4, 3, [], 0),
  (39, .iconst 0, 1, [], 0),
  (40, .ireturn, 1, [5], 0)]
/-- 3: HiccupTown$Book.actOf(LHiccupTown$Word;)I -/
def T_X0_actOf : List mm_E := [(0, .aload_n 0, 1, [], 0),
  (1, .getstatic 92, 3, [2], 18),
  (4, .if_acmp .ne 5, 3, [], 0),
  (7, .iconst 0, 1, [], 0),
  (8, .ireturn, 1, [], 0),
  (9, .aload_n 0, 1, [], 0),
  (10, .getstatic 95, 3, [2], 19),
  (13, .if_acmp .ne 7, 3, [], 0),
  (16, .iconst 1, 1, [], 0),
  (17, .goto 4, 3, [], 0),
  (20, .iconst 2, 1, [], 0),
  (21, .ireturn, 1, [], 0)]
/-- 4: HiccupTown$Book.readRelieve(LHiccupTown$Tape;LHiccupTown$Plan;)Z -/
def T_X0_readRelieve : List mm_E := [(0, .aload_n 1, 1, [], 0),
  (1, .getfield 22, 3, [18, 4, 2], 0),
  (4, .getstatic 101, 3, [2], 22),
  (7, .if_acmp .ne 14, 3, [], 0),
  (10, .aload_n 1, 1, [], 0),
  (11, .invokevirtual 64, 3, [0, 84, 1, 8, 18], 0),
  (14, .aload_n 0, 1, [], 0),
  (15, .iconst 3, 1, [], 0),
  (16, .iconst 0, 1, [], 0),
  (17, .invokevirtual 80, 3, [0, 6, 3, 0, 10], 0),
  (20, .ireturn, 1, [5], 0),
  (21, .aload_n 1, 1, [], 0),
  (22, .aload_n 2, 1, [], 0),
  (23, .iconst 0, 1, [], 0),
  (24, .invokevirtual 104, 3, [0, 93, 3, 0, 18], 0),
  (27, .istore_n 3, 1, [], 0),
  (28, .iload_n 3, 1, [], 0),
  (29, .iconst (-1), 1, [], 0),
  (30, .if_icmp .eq 18, 3, [], 0),
  (33, .aload_n 0, 1, [], 0),
  (34, .iconst 3, 1, [], 0),
  (35, .iconst 1, 1, [], 0),
  (36, .iload_n 3, 1, [], 0),
  (37, .iadd, 1, [], 0),
  (38, .invokevirtual 80, 3, [0, 6, 3, 0, 10], 0),
  (41, .ifCond .eq 7, 3, [], 0),
  (44, .iconst 1, 1, [], 0),
  (45, .goto 4, 3, [], 0),
  (48, .iconst 0, 1, [], 0),
  (49, .ireturn, 1, [5], 0)]
/-- 5: HiccupTown$Book.readWalk(LHiccupTown$Tape;I)Z -/
def T_X0_readWalk : List mm_E := [(0, .aload_n 1, 1, [], 0),
  (1, .getfield 22, 3, [18, 4, 2], 0),
  (4, .getstatic 108, 3, [2], 23),
  (7, .if_acmp .ne 14, 3, [], 0),
  (10, .aload_n 1, 1, [], 0),
  (11, .invokevirtual 64, 3, [0, 84, 1, 8, 18], 0),
  (14, .aload_n 0, 1, [], 0),
  (15, .iconst 4, 1, [], 0),
  (16, .iload_n 2, 1, [], 0),
  (17, .invokevirtual 80, 3, [0, 6, 3, 0, 10], 0),
  (20, .ireturn, 1, [5], 0),
  (21, .aload_n 1, 1, [], 0),
  (22, .getstatic 111, 3, [2], 24),
  (25, .invokevirtual 40, 3, [0, 91, 2, 0, 18], 0),
  (28, .ifCond .eq 16, 3, [], 0),
  (31, .aload_n 0, 1, [], 0),
  (32, .iconst 5, 1, [], 0),
  (33, .iload_n 2, 1, [], 0),
  (34, .invokevirtual 80, 3, [0, 6, 3, 0, 10], 0),
  (37, .ifCond .eq 7, 3, [], 0),
  (40, .iconst 1, 1, [], 0),
  (41, .goto 4, 3, [], 0),
  (44, .iconst 0, 1, [], 0),
  (45, .ireturn, 1, [5], 0)]
/-- 6: HiccupTown$Book.add(II)Z -/
def T_X0_add : List mm_E := [(0, .aload_n 0, 1, [], 0),
  (1, .getfield 18, 3, [10, 2, 0], 0),
  (4, .bipush 40, 2, [], 0),
  (6, .if_icmp .lt 5, 3, [], 0),
  (9, .iconst 0, 1, [], 0),
  (10, .ireturn, 1, [5], 0),
  (11, .aload_n 0, 1, [], 0),
  (12, .getfield 11, 3, [10, 0, 3, 26, 1], 0),
  (15, .aload_n 0, 1, [], 0),
  (16, .getfield 18, 3, [10, 2, 0], 0),
  (19, .iload_n 1, 1, [], 0),
  (20, .iastore, 1, [], 0),
  (21, .aload_n 0, 1, [], 0),
  (22, .getfield 15, 3, [10, 1, 3, 26, 2], 0),
  (25, .aload_n 0, 1, [], 0),
  (26, .getfield 18, 3, [10, 2, 0], 0),
  (29, .iload_n 2, 1, [], 0),
  (30, .iastore, 1, [], 0),
  (31, .aload_n 0, 1, [], 0),
  (32, .dup, 1, [], 0),
  (33, .getfield 18, 3, [10, 2, 0], 0),
  (36, .iconst 1, 1, [], 0),
  (37, .iadd, 1, [], 0),
  (38, .putfield 18, 3, [10, 2, 0], 0),
  (41, .iconst 1, 1, [], 0),
  (42, .ireturn, 1, [5], 0)]
/-- 7: HiccupTown$Book.live(LHiccupTown$Plan;LHiccupTown$Moment;)I -/
def T_X0_live : List mm_E := [(0, .aload_n 0, 1, [], 0),
  (1, .iconst 1, 1, [], 0),
  (2, .putfield 114, 3, [10, 3, 5], 0),
  (5, .aload_n 0, 1, [], 0),
  (6, .iconst 0, 1, [], 0),
  (7, .putfield 118, 3, [10, 4, 0], 0),
  (10, .aload_n 0, 1, [], 0),
  (11, .iconst 0, 1, [], 0),
  (12, .putfield 121, 3, [10, 5, 0], 0),
  (15, .aload_n 0, 1, [], 0),
  (16, .getfield 121, 3, [10, 5, 0], 0),
  (19, .aload_n 0, 1, [], 0),
  (20, .getfield 18, 3, [10, 2, 0], 0),
  (23, .if_icmp .ge 69, 3, [], 0),
  (26, .aload_n 0, 1, [], 0),
  (27, .getfield 118, 3, [10, 4, 0], 0),
  (30, .ifCond .ne 62, 3, [], 0),
  (33, .aload_n 0, 1, [], 0),
  (34, .getfield 11, 3, [10, 0, 3, 26, 1], 0),
  (37, .aload_n 0, 1, [], 0),
  (38, .getfield 121, 3, [10, 5, 0], 0),
  (41, .iaload, 1, [], 0),
  (42, .istore_n 3, 1, [], 0),
  (43, .aload_n 2, 1, [], 0),
  (44, .aload_n 1, 1, [], 0),
  (45, .iload_n 3, 1, [], 0),
  (46, .aload_n 0, 1, [], 0),
  (47, .getfield 15, 3, [10, 1, 3, 26, 2], 0),
  (50, .aload_n 0, 1, [], 0),
  (51, .getfield 121, 3, [10, 5, 0], 0),
  (54, .iaload, 1, [], 0),
  (55, .invokevirtual 124, 3, [0, 26, 4, 0, 12], 0),
  (58, .istore 4, 2, [], 0),
  (60, .iload 4, 2, [], 0),
  (62, .ifCond .ne 16, 3, [], 0),
  (65, .aload_n 0, 1, [], 0),
  (66, .dup, 1, [], 0),
  (67, .getfield 121, 3, [10, 5, 0], 0),
  (70, .iconst 1, 1, [], 0),
  (71, .iadd, 1, [], 0),
  (72, .putfield 121, 3, [10, 5, 0], 0),
  (75, .goto 14, 3, [], 0),
  (78, .aload_n 0, 1, [], 0),
  (79, .bipush 10, 2, [], 0),
  (81, .iload_n 3, 1, [], 0),
  (82, .imul, 1, [], 0),
  (83, .iload 4, 2, [], 0),
  (85, .iadd, 1, [], 0),
  (86, .putfield 118, 3, [10, 4, 0], 0),
  (89, .goto (-74), 3, [], 0),
  (92, .aload_n 0, 1, [], 0),
  (93, .aload_n 2, 1, [], 0),
  (94, .getfield 130, 3, [12, 0, 0], 0),
  (97, .putfield 133, 3, [10, 6, 0], 0),
  (100, .aload_n 0, 1, [], 0),
  (101, .aload_n 2, 1, [], 0),
  (102, .aload_n 1, 1, [], 0),
  (103, .invokevirtual 136, 3, [0, 20, 2, 0, 12], 0),
  (106, .putfield 140, 3, [10, 7, 0], 0),
  (109, .aload_n 0, 1, [], 0),
  (110, .getfield 118, 3, [10, 4, 0], 0),
  (113, .ifCond .ne 7, 3, [], 0),
  (116, .iconst (-1), 1, [], 0),
  (117, .goto 7, 3, [], 0),
  (120, .aload_n 0, 1, [], 0),
  (121, .getfield 121, 3, [10, 5, 0], 0),
  (124, .ireturn, 1, [], 0)]
/-- 8: HiccupTown$Book.tell(I)I -/
def T_X0_tell : List mm_E := [(0, .aload_n 0, 1, [], 0),
  (1, .getfield 114, 3, [10, 3, 0], 0),
  (4, .ifCond .ne 5, 3, [], 0),
  (7, .iconst (-1), 1, [], 0),
  (8, .ireturn, 1, [], 0),
  (9, .iload_n 1, 1, [], 0),
  (10, .tableswitch 50 0 3 #[30, 35, 40, 45], 30, [], 0),
  (40, .aload_n 0, 1, [], 0),
  (41, .getfield 118, 3, [10, 4, 0], 0),
  (44, .ireturn, 1, [], 0),
  (45, .aload_n 0, 1, [], 0),
  (46, .getfield 121, 3, [10, 5, 0], 0),
  (49, .ireturn, 1, [], 0),
  (50, .aload_n 0, 1, [], 0),
  (51, .getfield 133, 3, [10, 6, 0], 0),
  (54, .ireturn, 1, [], 0),
  (55, .aload_n 0, 1, [], 0),
  (56, .getfield 140, 3, [10, 7, 0], 0),
  (59, .ireturn, 1, [], 0),
  (60, .iconst (-1), 1, [], 0),
  (61, .ireturn, 1, [], 0)]
/-- 9: HiccupTown$Clues.judge(LHiccupTown$Tape;LHiccupTown$Plan;)I -/
def T_X1_judge : List mm_E := [(0, .aload_n 1, 1, [], 0),
  (1, .aload_n 2, 1, [], 0),
  (2, .invokestatic 25, 3, [0, 10, 2, 0], 0),
  (5, .ifCond .ne 5, 3, [], 0),
  (8, .iconst (-1), 1, [], 0),
  (9, .ireturn, 1, [], 0),
  (10, .iconst 0, 1, [], 0),
  (11, .istore_n 3, 1, [], 0),
  (12, .iconst 0, 1, [], 0),
  (13, .istore 4, 2, [], 0),
  (15, .iload 4, 2, [], 0),
  (17, .sipush 256, 3, [], 0),
  (20, .if_icmp .ge 36, 3, [], 0),
  (23, .aload_n 0, 1, [], 0),
  (24, .getfield 11, 3, [11, 0, 3, 31, 1], 0),
  (27, .iload 4, 2, [], 0),
  (29, .aload_n 1, 1, [], 0),
  (30, .aload_n 2, 1, [], 0),
  (31, .iload 4, 2, [], 0),
  (33, .invokestatic 29, 3, [0, 11, 3, 0], 0),
  (36, .bastore, 1, [], 0),
  (37, .aload_n 0, 1, [], 0),
  (38, .getfield 11, 3, [11, 0, 3, 31, 1], 0),
  (41, .iload 4, 2, [], 0),
  (43, .baload, 1, [], 0),
  (44, .ifCond .eq 6, 3, [], 0),
  (47, .iinc 3 1, 3, [], 0),
  (50, .iinc 4 1, 3, [], 0),
  (53, .goto (-38), 3, [], 0),
  (56, .iload_n 3, 1, [], 0),
  (57, .ifCond .le 16, 3, [], 0),
  (60, .aload_n 0, 1, [], 0),
  (61, .invokevirtual 33, 3, [0, 12, 1, 8, 11], 0),
  (64, .aload_n 0, 1, [], 0),
  (65, .aload_n 0, 1, [], 0),
  (66, .aload_n 2, 1, [], 0),
  (67, .invokevirtual 36, 3, [0, 13, 2, 0, 11], 0),
  (70, .putfield 22, 3, [11, 3, 0], 0),
  (73, .iload_n 3, 1, [], 0),
  (74, .ireturn, 1, [], 0)]
/-- 10: HiccupTown$Clues.arePairs(LHiccupTown$Tape;LHiccupTown$Plan;)Z -/
def T_X1_arePairs : List mm_E := [(0, .aload_n 0, 1, [], 0),
  (1, .getfield 40, 3, [18, 1, 0], 0),
  (4, .iconst 2, 1, [], 0),
  (5, .if_icmp .lt 21, 3, [], 0),
  (8, .aload_n 0, 1, [], 0),
  (9, .getfield 40, 3, [18, 1, 0], 0),
  (12, .bipush 16, 2, [], 0),
  (14, .if_icmp .gt 12, 3, [], 0),
  (17, .aload_n 0, 1, [], 0),
  (18, .getfield 40, 3, [18, 1, 0], 0),
  (21, .iconst 2, 1, [], 0),
  (22, .irem, 1, [], 0),
  (23, .ifCond .eq 5, 3, [], 0),
  (26, .iconst 0, 1, [], 0),
  (27, .ireturn, 1, [5], 0),
  (28, .iconst 0, 1, [], 0),
  (29, .istore_n 2, 1, [], 0),
  (30, .iload_n 2, 1, [], 0),
  (31, .aload_n 0, 1, [], 0),
  (32, .getfield 40, 3, [18, 1, 0], 0),
  (35, .if_icmp .ge 24, 3, [], 0),
  (38, .aload_n 1, 1, [], 0),
  (39, .iconst 3, 1, [], 0),
  (40, .aload_n 0, 1, [], 0),
  (41, .iload_n 2, 1, [], 0),
  (42, .invokevirtual 45, 3, [0, 82, 2, 0, 18], 0),
  (45, .invokevirtual 49, 3, [0, 51, 3, 0, 14], 0),
  (48, .ifCond .ne 5, 3, [], 0),
  (51, .iconst 0, 1, [], 0),
  (52, .ireturn, 1, [5], 0),
  (53, .iinc 2 2, 3, [], 0),
  (56, .goto (-26), 3, [], 0),
  (59, .iconst 1, 1, [], 0),
  (60, .ireturn, 1, [5], 0)]
/-- 11: HiccupTown$Clues.leavesRests(LHiccupTown$Tape;LHiccupTown$Plan;I)Z -/
def T_X1_leavesRests : List mm_E := [(0, .iconst 0, 1, [], 0),
  (1, .istore_n 3, 1, [], 0),
  (2, .iload_n 3, 1, [], 0),
  (3, .iconst 1, 1, [], 0),
  (4, .iadd, 1, [], 0),
  (5, .aload_n 0, 1, [], 0),
  (6, .getfield 40, 3, [18, 1, 0], 0),
  (9, .if_icmp .ge 49, 3, [], 0),
  (12, .aload_n 0, 1, [], 0),
  (13, .iload_n 3, 1, [], 0),
  (14, .invokevirtual 45, 3, [0, 82, 2, 0, 18], 0),
  (17, .istore 4, 2, [], 0),
  (19, .aload_n 1, 1, [], 0),
  (20, .iconst 3, 1, [], 0),
  (21, .iload 4, 2, [], 0),
  (23, .invokevirtual 49, 3, [0, 51, 3, 0, 14], 0),
  (26, .ifCond .eq 26, 3, [], 0),
  (29, .iload_n 2, 1, [], 0),
  (30, .aload_n 1, 1, [], 0),
  (31, .getfield 55, 3, [14, 10, 3, 23, 9], 0),
  (34, .iload 4, 2, [], 0),
  (36, .iaload, 1, [], 0),
  (37, .invokestatic 59, 3, [0, 153, 2, 0], 0),
  (40, .aload_n 0, 1, [], 0),
  (41, .iload_n 3, 1, [], 0),
  (42, .iconst 1, 1, [], 0),
  (43, .iadd, 1, [], 0),
  (44, .invokevirtual 45, 3, [0, 82, 2, 0, 18], 0),
  (47, .if_icmp .eq 5, 3, [], 0),
  (50, .iconst 0, 1, [], 0),
  (51, .ireturn, 1, [5], 0),
  (52, .iinc 3 2, 3, [], 0),
  (55, .goto (-53), 3, [], 0),
  (58, .iconst 1, 1, [], 0),
  (59, .ireturn, 1, [5], 0)]
/-- 12: HiccupTown$Clues.keepBounds()V -/
def T_X1_keepBounds : List mm_E := [(0, .aload_n 0, 1, [], 0),
  (1, .iconst (-1), 1, [], 0),
  (2, .putfield 15, 3, [11, 1, 0], 0),
  (5, .iconst 0, 1, [], 0),
  (6, .istore_n 1, 1, [], 0),
  (7, .iload_n 1, 1, [], 0),
  (8, .sipush 256, 3, [], 0),
  (11, .if_icmp .ge 36, 3, [], 0),
  (14, .aload_n 0, 1, [], 0),
  (15, .getfield 11, 3, [11, 0, 3, 31, 1], 0),
  (18, .iload_n 1, 1, [], 0),
  (19, .baload, 1, [], 0),
  (20, .ifCond .eq 21, 3, [], 0),
  (23, .aload_n 0, 1, [], 0),
  (24, .getfield 15, 3, [11, 1, 0], 0),
  (27, .iconst (-1), 1, [], 0),
  (28, .if_icmp .ne 8, 3, [], 0),
  (31, .aload_n 0, 1, [], 0),
  (32, .iload_n 1, 1, [], 0),
  (33, .putfield 15, 3, [11, 1, 0], 0),
  (36, .aload_n 0, 1, [], 0),
  (37, .iload_n 1, 1, [], 0),
  (38, .putfield 19, 3, [11, 2, 0], 0),
  (41, .iinc 1 1, 3, [], 0),
  (44, .goto (-37), 3, [], 0),
  (47, .return_, 1, [], 0)]
/-- 13: HiccupTown$Clues.thingToLookAt(LHiccupTown$Plan;)I -/
def T_X1_thingToLookAt : List mm_E := [(0, .iconst (-1), 1, [], 0),
  (1, .istore_n 2, 1, [], 0),
  (2, .sipush 257, 3, [], 0),
  (5, .istore_n 3, 1, [], 0),
  (6, .iconst 0, 1, [], 0),
  (7, .istore 4, 2, [], 0),
  (9, .iload 4, 2, [], 0),
  (11, .aload_n 1, 1, [], 0),
  (12, .getfield 63, 3, [14, 2, 3, 22, 1], 0),
  (15, .iconst 3, 1, [], 0),
  (16, .iaload, 1, [], 0),
  (17, .if_icmp .ge 34, 3, [], 0),
  (20, .aload_n 0, 1, [], 0),
  (21, .aload_n 1, 1, [], 0),
  (22, .getfield 55, 3, [14, 10, 3, 23, 9], 0),
  (25, .iload 4, 2, [], 0),
  (27, .iaload, 1, [], 0),
  (28, .invokevirtual 66, 3, [0, 14, 2, 0, 11], 0),
  (31, .istore 5, 2, [], 0),
  (33, .iload 5, 2, [], 0),
  (35, .iload_n 3, 1, [], 0),
  (36, .if_icmp .ge 9, 3, [], 0),
  (39, .iload 5, 2, [], 0),
  (41, .istore_n 3, 1, [], 0),
  (42, .iload 4, 2, [], 0),
  (44, .istore_n 2, 1, [], 0),
  (45, .iinc 4 1, 3, [], 0),
  (48, .goto (-39), 3, [], 0),
  (51, .iload_n 2, 1, [], 0),
  (52, .ireturn, 1, [], 0)]
/-- 14: HiccupTown$Clues.mostLeftBy(I)I -/
def T_X1_mostLeftBy : List mm_E := [(0, .iconst 0, 1, [], 0),
  (1, .istore_n 2, 1, [], 0),
  (2, .iconst 0, 1, [], 0),
  (3, .istore_n 3, 1, [], 0),
  (4, .iload_n 3, 1, [], 0),
  (5, .iload_n 1, 1, [], 0),
  (6, .if_icmp .ge 52, 3, [], 0),
  (9, .iconst 0, 1, [], 0),
  (10, .istore 4, 2, [], 0),
  (12, .iload_n 3, 1, [], 0),
  (13, .istore 5, 2, [], 0),
  (15, .iload 5, 2, [], 0),
  (17, .sipush 256, 3, [], 0),
  (20, .if_icmp .ge 25, 3, [], 0),
  (23, .aload_n 0, 1, [], 0),
  (24, .getfield 11, 3, [11, 0, 3, 31, 1], 0),
  (27, .iload 5, 2, [], 0),
  (29, .baload, 1, [], 0),
  (30, .ifCond .eq 6, 3, [], 0),
  (33, .iinc 4 1, 3, [], 0),
  (36, .iload 5, 2, [], 0),
  (38, .iload_n 1, 1, [], 0),
  (39, .iadd, 1, [], 0),
  (40, .istore 5, 2, [], 0),
  (42, .goto (-27), 3, [], 0),
  (45, .iload_n 2, 1, [], 0),
  (46, .iload 4, 2, [], 0),
  (48, .invokestatic 69, 3, [2], 0),
  (51, .istore_n 2, 1, [], 0),
  (52, .iinc 3 1, 3, [], 0),
  (55, .goto (-51), 3, [], 0),
  (58, .iload_n 2, 1, [], 0),
  (59, .ireturn, 1, [], 0)]
/-- 15: HiccupTown$Moment.begin(LHiccupTown$Plan;)V -/
def T_X2_begin : List mm_E := [(0, .aload_n 0, 1, [], 0),
  (1, .iconst 0, 1, [], 0),
  (2, .putfield 27, 3, [12, 0, 0], 0),
  (5, .aload_n 0, 1, [], 0),
  (6, .iconst 0, 1, [], 0),
  (7, .putfield 30, 3, [12, 1, 0], 0),
  (10, .aload_n 0, 1, [], 0),
  (11, .aload_n 1, 1, [], 0),
  (12, .iconst 0, 1, [], 0),
  (13, .invokevirtual 33, 3, [0, 55, 2, 0, 14], 0),
  (16, .putfield 11, 3, [12, 2, 0], 0),
  (19, .aload_n 0, 1, [], 0),
  (20, .iconst 0, 1, [], 0),
  (21, .putfield 37, 3, [12, 3, 5], 0),
  (24, .aload_n 0, 1, [], 0),
  (25, .iconst 0, 1, [], 0),
  (26, .putfield 41, 3, [12, 4, 0], 0),
  (29, .aload_n 0, 1, [], 0),
  (30, .aload_n 1, 1, [], 0),
  (31, .getfield 44, 3, [14, 1, 0], 0),
  (34, .putfield 47, 3, [12, 5, 0], 0),
  (37, .iconst 0, 1, [], 0),
  (38, .istore_n 2, 1, [], 0),
  (39, .iload_n 2, 1, [], 0),
  (40, .bipush 7, 2, [], 0),
  (42, .if_icmp .ge 28, 3, [], 0),
  (45, .aload_n 0, 1, [], 0),
  (46, .getfield 17, 3, [12, 6, 3, 25, 1], 0),
  (49, .iload_n 2, 1, [], 0),
  (50, .aload_n 1, 1, [], 0),
  (51, .getfield 50, 3, [14, 5, 3, 25, 4], 0),
  (54, .iload_n 2, 1, [], 0),
  (55, .iaload, 1, [], 0),
  (56, .iastore, 1, [], 0),
  (57, .aload_n 0, 1, [], 0),
  (58, .getfield 21, 3, [12, 7, 3, 25, 2], 0),
  (61, .iload_n 2, 1, [], 0),
  (62, .iconst 0, 1, [], 0),
  (63, .iastore, 1, [], 0),
  (64, .iinc 2 1, 3, [], 0),
  (67, .goto (-28), 3, [], 0),
  (70, .iconst 0, 1, [], 0),
  (71, .istore_n 2, 1, [], 0),
  (72, .iload_n 2, 1, [], 0),
  (73, .bipush 6, 2, [], 0),
  (75, .if_icmp .ge 21, 3, [], 0),
  (78, .aload_n 0, 1, [], 0),
  (79, .getfield 24, 3, [12, 8, 3, 24, 3], 0),
  (82, .iload_n 2, 1, [], 0),
  (83, .aload_n 1, 1, [], 0),
  (84, .getfield 53, 3, [14, 8, 3, 24, 7], 0),
  (87, .iload_n 2, 1, [], 0),
  (88, .iaload, 1, [], 0),
  (89, .iastore, 1, [], 0),
  (90, .iinc 2 1, 3, [], 0),
  (93, .goto (-21), 3, [], 0),
  (96, .return_, 1, [], 0)]
/-- 16: HiccupTown$Moment.copyFrom(LHiccupTown$Moment;)V -/
def T_X2_copyFrom : List mm_E := [(0, .aload_n 0, 1, [], 0),
  (1, .aload_n 1, 1, [], 0),
  (2, .getfield 27, 3, [12, 0, 0], 0),
  (5, .putfield 27, 3, [12, 0, 0], 0),
  (8, .aload_n 0, 1, [], 0),
  (9, .aload_n 1, 1, [], 0),
  (10, .getfield 30, 3, [12, 1, 0], 0),
  (13, .putfield 30, 3, [12, 1, 0], 0),
  (16, .aload_n 0, 1, [], 0),
  (17, .aload_n 1, 1, [], 0),
  (18, .getfield 11, 3, [12, 2, 0], 0),
  (21, .putfield 11, 3, [12, 2, 0], 0),
  (24, .aload_n 0, 1, [], 0),
  (25, .aload_n 1, 1, [], 0),
  (26, .getfield 37, 3, [12, 3, 0], 0),
  (29, .putfield 37, 3, [12, 3, 5], 0),
  (32, .aload_n 0, 1, [], 0),
  (33, .aload_n 1, 1, [], 0),
  (34, .getfield 41, 3, [12, 4, 0], 0),
  (37, .putfield 41, 3, [12, 4, 0], 0),
  (40, .aload_n 0, 1, [], 0),
  (41, .aload_n 1, 1, [], 0),
  (42, .getfield 47, 3, [12, 5, 0], 0),
  (45, .putfield 47, 3, [12, 5, 0], 0),
  (48, .aload_n 1, 1, [], 0),
  (49, .getfield 17, 3, [12, 6, 3, 25, 1], 0),
  (52, .iconst 0, 1, [], 0),
  (53, .aload_n 0, 1, [], 0),
  (54, .getfield 17, 3, [12, 6, 3, 25, 1], 0),
  (57, .iconst 0, 1, [], 0),
  (58, .bipush 7, 2, [], 0),
  (60, .invokestatic 56, 3, [4], 0),
  (63, .aload_n 1, 1, [], 0),
  (64, .getfield 21, 3, [12, 7, 3, 25, 2], 0),
  (67, .iconst 0, 1, [], 0),
  (68, .aload_n 0, 1, [], 0),
  (69, .getfield 21, 3, [12, 7, 3, 25, 2], 0),
  (72, .iconst 0, 1, [], 0),
  (73, .bipush 7, 2, [], 0),
  (75, .invokestatic 56, 3, [4], 0),
  (78, .aload_n 1, 1, [], 0),
  (79, .getfield 24, 3, [12, 8, 3, 24, 3], 0),
  (82, .iconst 0, 1, [], 0),
  (83, .aload_n 0, 1, [], 0),
  (84, .getfield 24, 3, [12, 8, 3, 24, 3], 0),
  (87, .iconst 0, 1, [], 0),
  (88, .bipush 6, 2, [], 0),
  (90, .invokestatic 56, 3, [4], 0),
  (93, .return_, 1, [], 0)]
/-- 17: HiccupTown$Moment.isOut(I)Z -/
def T_X2_isOut : List mm_E := [(0, .aload_n 0, 1, [], 0),
  (1, .getfield 47, 3, [12, 5, 0], 0),
  (4, .iload_n 1, 1, [], 0),
  (5, .iushr, 1, [], 0),
  (6, .iconst 1, 1, [], 0),
  (7, .iand, 1, [], 0),
  (8, .iconst 1, 1, [], 0),
  (9, .if_icmp .ne 7, 3, [], 0),
  (12, .iconst 1, 1, [], 0),
  (13, .goto 4, 3, [], 0),
  (16, .iconst 0, 1, [], 0),
  (17, .ireturn, 1, [5], 0)]
/-- 18: HiccupTown$Moment.isDone(I)Z -/
def T_X2_isDone : List mm_E := [(0, .aload_n 0, 1, [], 0),
  (1, .getfield 24, 3, [12, 8, 3, 24, 3], 0),
  (4, .iload_n 1, 1, [], 0),
  (5, .iaload, 1, [], 0),
  (6, .ifCond .gt 7, 3, [], 0),
  (9, .iconst 1, 1, [], 0),
  (10, .goto 4, 3, [], 0),
  (13, .iconst 0, 1, [], 0),
  (14, .ireturn, 1, [5], 0)]
/-- 19: HiccupTown$Moment.secondsLeft()I -/
def T_X2_secondsLeft : List mm_E := [(0, .sipush 600, 3, [], 0),
  (3, .aload_n 0, 1, [], 0),
  (4, .getfield 27, 3, [12, 0, 0], 0),
  (7, .isub, 1, [], 0),
  (8, .ireturn, 1, [], 0)]
/-- 20: HiccupTown$Moment.doneWorks(LHiccupTown$Plan;)I -/
def T_X2_doneWorks : List mm_E := [(0, .iconst 0, 1, [], 0),
  (1, .istore_n 2, 1, [], 0),
  (2, .iconst 0, 1, [], 0),
  (3, .istore_n 3, 1, [], 0),
  (4, .iload_n 3, 1, [], 0),
  (5, .aload_n 1, 1, [], 0),
  (6, .getfield 62, 3, [14, 2, 3, 22, 1], 0),
  (9, .iconst 2, 1, [], 0),
  (10, .iaload, 1, [], 0),
  (11, .if_icmp .ge 24, 3, [], 0),
  (14, .aload_n 0, 1, [], 0),
  (15, .getfield 24, 3, [12, 8, 3, 24, 3], 0),
  (18, .iload_n 3, 1, [], 0),
  (19, .iaload, 1, [], 0),
  (20, .ifCond .gt 9, 3, [], 0),
  (23, .iload_n 2, 1, [], 0),
  (24, .iconst 1, 1, [], 0),
  (25, .iload_n 3, 1, [], 0),
  (26, .ishl, 1, [], 0),
  (27, .ior, 1, [], 0),
  (28, .istore_n 2, 1, [], 0),
  (29, .iinc 3 1, 3, [], 0),
  (32, .goto (-28), 3, [], 0),
  (35, .iload_n 2, 1, [], 0),
  (36, .ireturn, 1, [], 0)]
/-- 21: HiccupTown$Moment.openWorks(LHiccupTown$Plan;)I -/
def T_X2_openWorks : List mm_E := [(0, .aload_n 0, 1, [], 0),
  (1, .aload_n 1, 1, [], 0),
  (2, .invokevirtual 65, 3, [0, 20, 2, 0, 12], 0),
  (5, .istore_n 2, 1, [], 0),
  (6, .iconst 0, 1, [], 0),
  (7, .istore_n 3, 1, [], 0),
  (8, .iconst 0, 1, [], 0),
  (9, .istore 4, 2, [], 0),
  (11, .iload 4, 2, [], 0),
  (13, .aload_n 1, 1, [], 0),
  (14, .getfield 62, 3, [14, 2, 3, 22, 1], 0),
  (17, .iconst 2, 1, [], 0),
  (18, .iaload, 1, [], 0),
  (19, .if_icmp .ge 40, 3, [], 0),
  (22, .aload_n 0, 1, [], 0),
  (23, .getfield 24, 3, [12, 8, 3, 24, 3], 0),
  (26, .iload 4, 2, [], 0),
  (28, .iaload, 1, [], 0),
  (29, .ifCond .le 24, 3, [], 0),
  (32, .aload_n 1, 1, [], 0),
  (33, .getfield 69, 3, [14, 9, 3, 24, 8], 0),
  (36, .iload 4, 2, [], 0),
  (38, .iaload, 1, [], 0),
  (39, .iload_n 2, 1, [], 0),
  (40, .iconst (-1), 1, [], 0),
  (41, .ixor, 1, [], 0),
  (42, .iand, 1, [], 0),
  (43, .ifCond .ne 10, 3, [], 0),
  (46, .iload_n 3, 1, [], 0),
  (47, .iconst 1, 1, [], 0),
  (48, .iload 4, 2, [], 0),
  (50, .ishl, 1, [], 0),
  (51, .ior, 1, [], 0),
  (52, .istore_n 3, 1, [], 0),
  (53, .iinc 4 1, 3, [], 0),
  (56, .goto (-45), 3, [], 0),
  (59, .iload_n 3, 1, [], 0),
  (60, .ireturn, 1, [], 0)]
/-- 22: HiccupTown$Moment.howWorkIs(LHiccupTown$Plan;I)I -/
def T_X2_howWorkIs : List mm_E := [(0, .aload_n 0, 1, [], 0),
  (1, .iload_n 2, 1, [], 0),
  (2, .invokevirtual 72, 3, [0, 18, 2, 0, 12], 0),
  (5, .ifCond .eq 5, 3, [], 0),
  (8, .iconst 2, 1, [], 0),
  (9, .ireturn, 1, [], 0),
  (10, .aload_n 0, 1, [], 0),
  (11, .aload_n 1, 1, [], 0),
  (12, .invokevirtual 76, 3, [0, 21, 2, 0, 12], 0),
  (15, .iload_n 2, 1, [], 0),
  (16, .invokestatic 79, 3, [0, 152, 2, 0], 0),
  (19, .ifCond .eq 7, 3, [], 0),
  (22, .iconst 1, 1, [], 0),
  (23, .goto 4, 3, [], 0),
  (26, .iconst 0, 1, [], 0),
  (27, .ireturn, 1, [], 0)]
/-- 23: HiccupTown$Moment.isBusy(LHiccupTown$Plan;I)Z -/
def T_X2_isBusy : List mm_E := [(0, .aload_n 0, 1, [], 0),
  (1, .iload_n 2, 1, [], 0),
  (2, .invokevirtual 83, 3, [0, 17, 2, 0, 12], 0),
  (5, .ifCond .eq 5, 3, [], 0),
  (8, .iconst 0, 1, [], 0),
  (9, .ireturn, 1, [5], 0),
  (10, .aload_n 0, 1, [], 0),
  (11, .aload_n 1, 1, [], 0),
  (12, .invokevirtual 76, 3, [0, 21, 2, 0, 12], 0),
  (15, .istore_n 3, 1, [], 0),
  (16, .iconst 0, 1, [], 0),
  (17, .istore 4, 2, [], 0),
  (19, .iload 4, 2, [], 0),
  (21, .aload_n 1, 1, [], 0),
  (22, .getfield 62, 3, [14, 2, 3, 22, 1], 0),
  (25, .iconst 2, 1, [], 0),
  (26, .iaload, 1, [], 0),
  (27, .if_icmp .ge 36, 3, [], 0),
  (30, .iload_n 3, 1, [], 0),
  (31, .iload 4, 2, [], 0),
  (33, .invokestatic 79, 3, [0, 152, 2, 0], 0),
  (36, .ifCond .eq 21, 3, [], 0),
  (39, .aload_n 1, 1, [], 0),
  (40, .getfield 86, 3, [14, 7, 3, 24, 6], 0),
  (43, .iload 4, 2, [], 0),
  (45, .iaload, 1, [], 0),
  (46, .aload_n 0, 1, [], 0),
  (47, .getfield 17, 3, [12, 6, 3, 25, 1], 0),
  (50, .iload_n 2, 1, [], 0),
  (51, .iaload, 1, [], 0),
  (52, .if_icmp .ne 5, 3, [], 0),
  (55, .iconst 1, 1, [], 0),
  (56, .ireturn, 1, [5], 0),
  (57, .iinc 4 1, 3, [], 0),
  (60, .goto (-41), 3, [], 0),
  (63, .iconst 0, 1, [], 0),
  (64, .ireturn, 1, [5], 0)]
/-- 24: HiccupTown$Moment.placeBehind(LHiccupTown$Plan;II)I -/
def T_X2_placeBehind : List mm_E := [(0, .aload_n 0, 1, [], 0),
  (1, .iload_n 2, 1, [], 0),
  (2, .invokevirtual 83, 3, [0, 17, 2, 0, 12], 0),
  (5, .ifCond .eq 12, 3, [], 0),
  (8, .aload_n 0, 1, [], 0),
  (9, .getfield 17, 3, [12, 6, 3, 25, 1], 0),
  (12, .iload_n 2, 1, [], 0),
  (13, .iaload, 1, [], 0),
  (14, .goto 21, 3, [], 0),
  (17, .aload_n 1, 1, [], 0),
  (18, .aload_n 0, 1, [], 0),
  (19, .getfield 17, 3, [12, 6, 3, 25, 1], 0),
  (22, .iload_n 2, 1, [], 0),
  (23, .iaload, 1, [], 0),
  (24, .iload_n 3, 1, [], 0),
  (25, .aload_n 1, 1, [], 0),
  (26, .getfield 89, 3, [14, 6, 3, 25, 5], 0),
  (29, .iload_n 2, 1, [], 0),
  (30, .iaload, 1, [], 0),
  (31, .imul, 1, [], 0),
  (32, .invokevirtual 92, 3, [0, 60, 3, 0, 14], 0),
  (35, .ireturn, 1, [], 0)]
/-- 25: HiccupTown$Moment.somebodyWalksAt(LHiccupTown$Plan;I)Z -/
def T_X2_somebodyWalksAt : List mm_E := [(0, .iconst 0, 1, [], 0),
  (1, .istore_n 3, 1, [], 0),
  (2, .iload_n 3, 1, [], 0),
  (3, .aload_n 1, 1, [], 0),
  (4, .getfield 62, 3, [14, 2, 3, 22, 1], 0),
  (7, .iconst 1, 1, [], 0),
  (8, .iaload, 1, [], 0),
  (9, .if_icmp .ge 29, 3, [], 0),
  (12, .aload_n 0, 1, [], 0),
  (13, .iload_n 3, 1, [], 0),
  (14, .invokevirtual 83, 3, [0, 17, 2, 0, 12], 0),
  (17, .ifCond .ne 15, 3, [], 0),
  (20, .aload_n 0, 1, [], 0),
  (21, .getfield 17, 3, [12, 6, 3, 25, 1], 0),
  (24, .iload_n 3, 1, [], 0),
  (25, .iaload, 1, [], 0),
  (26, .iload_n 2, 1, [], 0),
  (27, .if_icmp .ne 5, 3, [], 0),
  (30, .iconst 1, 1, [], 0),
  (31, .ireturn, 1, [5], 0),
  (32, .iinc 3 1, 3, [], 0),
  (35, .goto (-33), 3, [], 0),
  (38, .iconst 0, 1, [], 0),
  (39, .ireturn, 1, [5], 0)]
/-- 26: HiccupTown$Moment.act(LHiccupTown$Plan;II)I -/
def T_X2_act : List mm_E := [(0, .iload_n 2, 1, [], 0),
  (1, .tableswitch 86 0 6 #[43, 49, 54, 59, 66, 72, 79], 43, [], 0),
  (44, .aload_n 0, 1, [], 0),
  (45, .aload_n 1, 1, [], 0),
  (46, .invokevirtual 96, 3, [0, 27, 2, 0, 12], 0),
  (49, .ireturn, 1, [], 0),
  (50, .aload_n 0, 1, [], 0),
  (51, .invokevirtual 99, 3, [0, 28, 1, 0, 12], 0),
  (54, .ireturn, 1, [], 0),
  (55, .aload_n 0, 1, [], 0),
  (56, .invokevirtual 103, 3, [0, 29, 1, 0, 12], 0),
  (59, .ireturn, 1, [], 0),
  (60, .aload_n 0, 1, [], 0),
  (61, .aload_n 1, 1, [], 0),
  (62, .iload_n 3, 1, [], 0),
  (63, .invokevirtual 106, 3, [0, 30, 3, 0, 12], 0),
  (66, .ireturn, 1, [], 0),
  (67, .aload_n 0, 1, [], 0),
  (68, .iload_n 3, 1, [], 0),
  (69, .invokevirtual 110, 3, [0, 31, 2, 0, 12], 0),
  (72, .ireturn, 1, [], 0),
  (73, .aload_n 0, 1, [], 0),
  (74, .aload_n 1, 1, [], 0),
  (75, .iload_n 3, 1, [], 0),
  (76, .invokevirtual 113, 3, [0, 32, 3, 0, 12], 0),
  (79, .ireturn, 1, [], 0),
  (80, .aload_n 0, 1, [], 0),
  (81, .aload_n 1, 1, [], 0),
  (82, .iload_n 3, 1, [], 0),
  (83, .invokevirtual 116, 3, [0, 33, 3, 0, 12], 0),
  (86, .ireturn, 1, [], 0),
  (87, .iconst (-1), 1, [], 0),
  (88, .ireturn, 1, [], 0)]
/-- 27: HiccupTown$Moment.takeFright(LHiccupTown$Plan;)I -/
def T_X2_takeFright : List mm_E := [(0, .aload_n 0, 1, [], 0),
  (1, .getfield 37, 3, [12, 3, 0], 0),
  (4, .ifCond .eq 5, 3, [], 0),
  (7, .iconst 1, 1, [], 0),
  (8, .ireturn, 1, [], 0),
  (9, .aload_n 0, 1, [], 0),
  (10, .bipush 99, 2, [], 0),
  (12, .aload_n 0, 1, [], 0),
  (13, .getfield 11, 3, [12, 2, 0], 0),
  (16, .aload_n 1, 1, [], 0),
  (17, .aload_n 0, 1, [], 0),
  (18, .getfield 30, 3, [12, 1, 0], 0),
  (21, .invokevirtual 33, 3, [0, 55, 2, 0, 14], 0),
  (24, .iadd, 1, [], 0),
  (25, .invokestatic 119, 3, [1], 0),
  (28, .putfield 11, 3, [12, 2, 0], 0),
  (31, .iconst 0, 1, [], 0),
  (32, .ireturn, 1, [], 0)]
/-- 28: HiccupTown$Moment.takeCure()I -/
def T_X2_takeCure : List mm_E := [(0, .aload_n 0, 1, [], 0),
  (1, .getfield 37, 3, [12, 3, 0], 0),
  (4, .ifCond .eq 5, 3, [], 0),
  (7, .iconst 1, 1, [], 0),
  (8, .ireturn, 1, [], 0),
  (9, .aload_n 0, 1, [], 0),
  (10, .iconst 1, 1, [], 0),
  (11, .putfield 37, 3, [12, 3, 5], 0),
  (14, .iconst 0, 1, [], 0),
  (15, .ireturn, 1, [], 0)]
/-- 29: HiccupTown$Moment.takeFly()I -/
def T_X2_takeFly : List mm_E := [(0, .aload_n 0, 1, [], 0),
  (1, .getfield 37, 3, [12, 3, 0], 0),
  (4, .ifCond .ne 5, 3, [], 0),
  (7, .iconst 1, 1, [], 0),
  (8, .ireturn, 1, [], 0),
  (9, .aload_n 0, 1, [], 0),
  (10, .iconst 0, 1, [], 0),
  (11, .putfield 37, 3, [12, 3, 5], 0),
  (14, .aload_n 0, 1, [], 0),
  (15, .iconst 1, 1, [], 0),
  (16, .putfield 11, 3, [12, 2, 0], 0),
  (19, .iconst 0, 1, [], 0),
  (20, .ireturn, 1, [], 0)]
/-- 30: HiccupTown$Moment.changeBeater(LHiccupTown$Plan;I)I -/
def T_X2_changeBeater : List mm_E := [(0, .aload_n 0, 1, [], 0),
  (1, .getfield 30, 3, [12, 1, 0], 0),
  (4, .iload_n 2, 1, [], 0),
  (5, .if_icmp .ne 5, 3, [], 0),
  (8, .iconst 1, 1, [], 0),
  (9, .ireturn, 1, [], 0),
  (10, .aload_n 0, 1, [], 0),
  (11, .iload_n 2, 1, [], 0),
  (12, .putfield 30, 3, [12, 1, 0], 0),
  (15, .aload_n 0, 1, [], 0),
  (16, .aload_n 0, 1, [], 0),
  (17, .getfield 11, 3, [12, 2, 0], 0),
  (20, .aload_n 1, 1, [], 0),
  (21, .iload_n 2, 1, [], 0),
  (22, .invokevirtual 33, 3, [0, 55, 2, 0, 14], 0),
  (25, .invokestatic 119, 3, [1], 0),
  (28, .putfield 11, 3, [12, 2, 0], 0),
  (31, .iconst 0, 1, [], 0),
  (32, .ireturn, 1, [], 0)]
/-- 31: HiccupTown$Moment.goOut(I)I -/
def T_X2_goOut : List mm_E := [(0, .aload_n 0, 1, [], 0),
  (1, .iload_n 1, 1, [], 0),
  (2, .invokevirtual 83, 3, [0, 17, 2, 0, 12], 0),
  (5, .ifCond .eq 5, 3, [], 0),
  (8, .iconst 1, 1, [], 0),
  (9, .ireturn, 1, [], 0),
  (10, .aload_n 0, 1, [], 0),
  (11, .dup, 1, [], 0),
  (12, .getfield 47, 3, [12, 5, 0], 0),
  (15, .iconst 1, 1, [], 0),
  (16, .iload_n 1, 1, [], 0),
  (17, .ishl, 1, [], 0),
  (18, .ior, 1, [], 0),
  (19, .putfield 47, 3, [12, 5, 0], 0),
  (22, .iconst 0, 1, [], 0),
  (23, .ireturn, 1, [], 0)]
/-- 32: HiccupTown$Moment.comeIn(LHiccupTown$Plan;I)I -/
def T_X2_comeIn : List mm_E := [(0, .aload_n 0, 1, [], 0),
  (1, .iload_n 2, 1, [], 0),
  (2, .invokevirtual 83, 3, [0, 17, 2, 0, 12], 0),
  (5, .ifCond .ne 5, 3, [], 0),
  (8, .iconst 1, 1, [], 0),
  (9, .ireturn, 1, [], 0),
  (10, .aload_n 0, 1, [], 0),
  (11, .aload_n 1, 1, [], 0),
  (12, .aload_n 0, 1, [], 0),
  (13, .getfield 17, 3, [12, 6, 3, 25, 1], 0),
  (16, .iload_n 2, 1, [], 0),
  (17, .iaload, 1, [], 0),
  (18, .invokevirtual 124, 3, [0, 25, 3, 0, 12], 0),
  (21, .ifCond .eq 5, 3, [], 0),
  (24, .iconst 2, 1, [], 0),
  (25, .ireturn, 1, [], 0),
  (26, .aload_n 0, 1, [], 0),
  (27, .dup, 1, [], 0),
  (28, .getfield 47, 3, [12, 5, 0], 0),
  (31, .iconst 1, 1, [], 0),
  (32, .iload_n 2, 1, [], 0),
  (33, .ishl, 1, [], 0),
  (34, .iconst (-1), 1, [], 0),
  (35, .ixor, 1, [], 0),
  (36, .iand, 1, [], 0),
  (37, .putfield 47, 3, [12, 5, 0], 0),
  (40, .iconst 0, 1, [], 0),
  (41, .ireturn, 1, [], 0)]
/-- 33: HiccupTown$Moment.passAll(LHiccupTown$Plan;I)I -/
def T_X2_passAll : List mm_E := [(0, .iload_n 2, 1, [], 0),
  (1, .aload_n 0, 1, [], 0),
  (2, .invokevirtual 128, 3, [0, 19, 1, 0, 12], 0),
  (5, .if_icmp .le 5, 3, [], 0),
  (8, .iconst 1, 1, [], 0),
  (9, .ireturn, 1, [], 0),
  (10, .iconst 0, 1, [], 0),
  (11, .istore_n 3, 1, [], 0),
  (12, .iload_n 3, 1, [], 0),
  (13, .iload_n 2, 1, [], 0),
  (14, .if_icmp .ge 14, 3, [], 0),
  (17, .aload_n 0, 1, [], 0),
  (18, .aload_n 1, 1, [], 0),
  (19, .invokevirtual 131, 3, [0, 34, 2, 8, 12], 0),
  (22, .iinc 3 1, 3, [], 0),
  (25, .goto (-13), 3, [], 0),
  (28, .iconst 0, 1, [], 0),
  (29, .ireturn, 1, [], 0)]
/-- 34: HiccupTown$Moment.passSecond(LHiccupTown$Plan;)V -/
def T_X2_passSecond : List mm_E := [(0, .aload_n 0, 1, [], 0),
  (1, .getfield 37, 3, [12, 3, 0], 0),
  (4, .ifCond .ne 25, 3, [], 0),
  (7, .aload_n 0, 1, [], 0),
  (8, .dup, 1, [], 0),
  (9, .getfield 11, 3, [12, 2, 0], 0),
  (12, .iconst 1, 1, [], 0),
  (13, .isub, 1, [], 0),
  (14, .putfield 11, 3, [12, 2, 0], 0),
  (17, .aload_n 0, 1, [], 0),
  (18, .getfield 11, 3, [12, 2, 0], 0),
  (21, .ifCond .gt 8, 3, [], 0),
  (24, .aload_n 0, 1, [], 0),
  (25, .aload_n 1, 1, [], 0),
  (26, .invokevirtual 135, 3, [0, 35, 2, 8, 12], 0),
  (29, .aload_n 0, 1, [], 0),
  (30, .dup, 1, [], 0),
  (31, .getfield 27, 3, [12, 0, 0], 0),
  (34, .iconst 1, 1, [], 0),
  (35, .iadd, 1, [], 0),
  (36, .putfield 27, 3, [12, 0, 0], 0),
  (39, .return_, 1, [], 0)]
/-- 35: HiccupTown$Moment.beat(LHiccupTown$Plan;)V -/
def T_X2_beat : List mm_E := [(0, .aload_n 0, 1, [], 0),
  (1, .aload_n 1, 1, [], 0),
  (2, .invokevirtual 76, 3, [0, 21, 2, 0, 12], 0),
  (5, .istore_n 2, 1, [], 0),
  (6, .iconst 0, 1, [], 0),
  (7, .istore_n 3, 1, [], 0),
  (8, .iload_n 3, 1, [], 0),
  (9, .aload_n 1, 1, [], 0),
  (10, .getfield 62, 3, [14, 2, 3, 22, 1], 0),
  (13, .iconst 1, 1, [], 0),
  (14, .iaload, 1, [], 0),
  (15, .if_icmp .ge 54, 3, [], 0),
  (18, .aload_n 0, 1, [], 0),
  (19, .iload_n 3, 1, [], 0),
  (20, .invokevirtual 83, 3, [0, 17, 2, 0, 12], 0),
  (23, .ifCond .ne 40, 3, [], 0),
  (26, .aload_n 0, 1, [], 0),
  (27, .getfield 17, 3, [12, 6, 3, 25, 1], 0),
  (30, .iload_n 3, 1, [], 0),
  (31, .aload_n 1, 1, [], 0),
  (32, .aload_n 0, 1, [], 0),
  (33, .getfield 17, 3, [12, 6, 3, 25, 1], 0),
  (36, .iload_n 3, 1, [], 0),
  (37, .iaload, 1, [], 0),
  (38, .aload_n 1, 1, [], 0),
  (39, .getfield 89, 3, [14, 6, 3, 25, 5], 0),
  (42, .iload_n 3, 1, [], 0),
  (43, .iaload, 1, [], 0),
  (44, .invokevirtual 92, 3, [0, 60, 3, 0, 14], 0),
  (47, .iastore, 1, [], 0),
  (48, .aload_n 0, 1, [], 0),
  (49, .getfield 21, 3, [12, 7, 3, 25, 2], 0),
  (52, .iload_n 3, 1, [], 0),
  (53, .dup2, 1, [], 0),
  (54, .iaload, 1, [], 0),
  (55, .aload_n 1, 1, [], 0),
  (56, .getfield 89, 3, [14, 6, 3, 25, 5], 0),
  (59, .iload_n 3, 1, [], 0),
  (60, .iaload, 1, [], 0),
  (61, .iadd, 1, [], 0),
  (62, .iastore, 1, [], 0),
  (63, .iinc 3 1, 3, [], 0),
  (66, .goto (-58), 3, [], 0),
  (69, .iconst 0, 1, [], 0),
  (70, .istore_n 3, 1, [], 0),
  (71, .iload_n 3, 1, [], 0),
  (72, .aload_n 1, 1, [], 0),
  (73, .getfield 62, 3, [14, 2, 3, 22, 1], 0),
  (76, .iconst 2, 1, [], 0),
  (77, .iaload, 1, [], 0),
  (78, .if_icmp .ge 41, 3, [], 0),
  (81, .iload_n 2, 1, [], 0),
  (82, .iload_n 3, 1, [], 0),
  (83, .invokestatic 79, 3, [0, 152, 2, 0], 0),
  (86, .ifCond .eq 27, 3, [], 0),
  (89, .aload_n 0, 1, [], 0),
  (90, .aload_n 1, 1, [], 0),
  (91, .aload_n 1, 1, [], 0),
  (92, .getfield 86, 3, [14, 7, 3, 24, 6], 0),
  (95, .iload_n 3, 1, [], 0),
  (96, .iaload, 1, [], 0),
  (97, .invokevirtual 124, 3, [0, 25, 3, 0, 12], 0),
  (100, .ifCond .eq 13, 3, [], 0),
  (103, .aload_n 0, 1, [], 0),
  (104, .getfield 24, 3, [12, 8, 3, 24, 3], 0),
  (107, .iload_n 3, 1, [], 0),
  (108, .dup2, 1, [], 0),
  (109, .iaload, 1, [], 0),
  (110, .iconst 1, 1, [], 0),
  (111, .isub, 1, [], 0),
  (112, .iastore, 1, [], 0),
  (113, .iinc 3 1, 3, [], 0),
  (116, .goto (-45), 3, [], 0),
  (119, .aload_n 0, 1, [], 0),
  (120, .dup, 1, [], 0),
  (121, .getfield 41, 3, [12, 4, 0], 0),
  (124, .iconst 1, 1, [], 0),
  (125, .iadd, 1, [], 0),
  (126, .putfield 41, 3, [12, 4, 0], 0),
  (129, .aload_n 0, 1, [], 0),
  (130, .aload_n 1, 1, [], 0),
  (131, .aload_n 0, 1, [], 0),
  (132, .getfield 30, 3, [12, 1, 0], 0),
  (135, .invokevirtual 33, 3, [0, 55, 2, 0, 14], 0),
  (138, .putfield 11, 3, [12, 2, 0], 0),
  (141, .return_, 1, [], 0)]
/-- 36: HiccupTown$Moment.secondsTillDone(LHiccupTown$Plan;I)I -/
def T_X2_secondsTillDone : List mm_E := [(0, .aload_n 0, 1, [], 0),
  (1, .invokevirtual 128, 3, [0, 19, 1, 0, 12], 0),
  (4, .istore_n 3, 1, [], 0),
  (5, .iconst 0, 1, [], 0),
  (6, .istore 4, 2, [], 0),
  (8, .iload 4, 2, [], 0),
  (10, .iload_n 3, 1, [], 0),
  (11, .if_icmp .ge 25, 3, [], 0),
  (14, .aload_n 0, 1, [], 0),
  (15, .iload_n 2, 1, [], 0),
  (16, .invokevirtual 72, 3, [0, 18, 2, 0, 12], 0),
  (19, .ifCond .eq 6, 3, [], 0),
  (22, .iload 4, 2, [], 0),
  (24, .ireturn, 1, [], 0),
  (25, .aload_n 0, 1, [], 0),
  (26, .aload_n 1, 1, [], 0),
  (27, .invokevirtual 131, 3, [0, 34, 2, 8, 12], 0),
  (30, .iinc 4 1, 3, [], 0),
  (33, .goto (-25), 3, [], 0),
  (36, .aload_n 0, 1, [], 0),
  (37, .iload_n 2, 1, [], 0),
  (38, .invokevirtual 72, 3, [0, 18, 2, 0, 12], 0),
  (41, .ifCond .eq 7, 3, [], 0),
  (44, .iload_n 3, 1, [], 0),
  (45, .goto 4, 3, [], 0),
  (48, .iconst (-1), 1, [], 0),
  (49, .ireturn, 1, [], 0)]
/-- 37: HiccupTown$Moment.secondsTillFree(LHiccupTown$Plan;I)I -/
def T_X2_secondsTillFree : List mm_E := [(0, .aload_n 0, 1, [], 0),
  (1, .invokevirtual 128, 3, [0, 19, 1, 0, 12], 0),
  (4, .istore_n 3, 1, [], 0),
  (5, .iconst 0, 1, [], 0),
  (6, .istore 4, 2, [], 0),
  (8, .iload 4, 2, [], 0),
  (10, .iload_n 3, 1, [], 0),
  (11, .if_icmp .ge 31, 3, [], 0),
  (14, .aload_n 0, 1, [], 0),
  (15, .aload_n 1, 1, [], 0),
  (16, .aload_n 0, 1, [], 0),
  (17, .getfield 17, 3, [12, 6, 3, 25, 1], 0),
  (20, .iload_n 2, 1, [], 0),
  (21, .iaload, 1, [], 0),
  (22, .invokevirtual 124, 3, [0, 25, 3, 0, 12], 0),
  (25, .ifCond .ne 6, 3, [], 0),
  (28, .iload 4, 2, [], 0),
  (30, .ireturn, 1, [], 0),
  (31, .aload_n 0, 1, [], 0),
  (32, .aload_n 1, 1, [], 0),
  (33, .invokevirtual 131, 3, [0, 34, 2, 8, 12], 0),
  (36, .iinc 4 1, 3, [], 0),
  (39, .goto (-31), 3, [], 0),
  (42, .aload_n 0, 1, [], 0),
  (43, .aload_n 1, 1, [], 0),
  (44, .aload_n 0, 1, [], 0),
  (45, .getfield 17, 3, [12, 6, 3, 25, 1], 0),
  (48, .iload_n 2, 1, [], 0),
  (49, .iaload, 1, [], 0),
  (50, .invokevirtual 124, 3, [0, 25, 3, 0, 12], 0),
  (53, .ifCond .eq 7, 3, [], 0),
  (56, .iconst (-1), 1, [], 0),
  (57, .goto 4, 3, [], 0),
  (60, .iload_n 3, 1, [], 0),
  (61, .ireturn, 1, [], 0)]
/-- 38: HiccupTown$Moment.passDrawn(LHiccupTown$Plan;II)I -/
def T_X2_passDrawn : List mm_E := [(0, .iload_n 2, 1, [], 0),
  (1, .aload_n 0, 1, [], 0),
  (2, .invokevirtual 128, 3, [0, 19, 1, 0, 12], 0),
  (5, .invokestatic 119, 3, [1], 0),
  (8, .istore 4, 2, [], 0),
  (10, .iload_n 3, 1, [], 0),
  (11, .istore 5, 2, [], 0),
  (13, .iconst 0, 1, [], 0),
  (14, .istore 6, 2, [], 0),
  (16, .iload 6, 2, [], 0),
  (18, .iload 4, 2, [], 0),
  (20, .if_icmp .ge 18, 3, [], 0),
  (23, .aload_n 0, 1, [], 0),
  (24, .aload_n 1, 1, [], 0),
  (25, .iload 5, 2, [], 0),
  (27, .invokevirtual 138, 3, [0, 39, 3, 0, 12], 0),
  (30, .istore 5, 2, [], 0),
  (32, .iinc 6 1, 3, [], 0),
  (35, .goto (-19), 3, [], 0),
  (38, .iload 4, 2, [], 0),
  (40, .ireturn, 1, [], 0)]
/-- 39: HiccupTown$Moment.passDrawnSecond(LHiccupTown$Plan;I)I -/
def T_X2_passDrawnSecond : List mm_E := [(0, .iload_n 2, 1, [], 0),
  (1, .invokestatic 141, 3, [0, 41, 1, 0], 0),
  (4, .istore_n 3, 1, [], 0),
  (5, .iload_n 3, 1, [], 0),
  (6, .bipush 20, 2, [], 0),
  (8, .invokestatic 144, 3, [0, 42, 2, 0], 0),
  (11, .istore 4, 2, [], 0),
  (13, .iload 4, 2, [], 0),
  (15, .ifCond .ne 12, 3, [], 0),
  (18, .aload_n 0, 1, [], 0),
  (19, .aload_n 1, 1, [], 0),
  (20, .invokevirtual 96, 3, [0, 27, 2, 0, 12], 0),
  (23, .pop, 1, [], 0),
  (24, .goto 28, 3, [], 0),
  (27, .iload 4, 2, [], 0),
  (29, .iconst 1, 1, [], 0),
  (30, .if_icmp .ne 11, 3, [], 0),
  (33, .aload_n 0, 1, [], 0),
  (34, .invokevirtual 99, 3, [0, 28, 1, 0, 12], 0),
  (37, .pop, 1, [], 0),
  (38, .goto 14, 3, [], 0),
  (41, .iload 4, 2, [], 0),
  (43, .iconst 4, 1, [], 0),
  (44, .if_icmp .gt 8, 3, [], 0),
  (47, .aload_n 0, 1, [], 0),
  (48, .invokevirtual 103, 3, [0, 29, 1, 0, 12], 0),
  (51, .pop, 1, [], 0),
  (52, .iconst 0, 1, [], 0),
  (53, .istore 5, 2, [], 0),
  (55, .iload 5, 2, [], 0),
  (57, .aload_n 1, 1, [], 0),
  (58, .getfield 62, 3, [14, 2, 3, 22, 1], 0),
  (61, .iconst 1, 1, [], 0),
  (62, .iaload, 1, [], 0),
  (63, .if_icmp .ge 30, 3, [], 0),
  (66, .iload_n 3, 1, [], 0),
  (67, .invokestatic 141, 3, [0, 41, 1, 0], 0),
  (70, .istore_n 3, 1, [], 0),
  (71, .iload_n 3, 1, [], 0),
  (72, .bipush 12, 2, [], 0),
  (74, .invokestatic 144, 3, [0, 42, 2, 0], 0),
  (77, .ifCond .ne 10, 3, [], 0),
  (80, .aload_n 0, 1, [], 0),
  (81, .aload_n 1, 1, [], 0),
  (82, .iload 5, 2, [], 0),
  (84, .invokevirtual 147, 3, [0, 40, 3, 8, 12], 0),
  (87, .iinc 5 1, 3, [], 0),
  (90, .goto (-35), 3, [], 0),
  (93, .aload_n 0, 1, [], 0),
  (94, .aload_n 1, 1, [], 0),
  (95, .invokevirtual 131, 3, [0, 34, 2, 8, 12], 0),
  (98, .iload_n 3, 1, [], 0),
  (99, .ireturn, 1, [], 0)]
/-- 40: HiccupTown$Moment.leaveOrJoin(LHiccupTown$Plan;I)V -/
def T_X2_leaveOrJoin : List mm_E := [(0, .aload_n 0, 1, [], 0),
  (1, .iload_n 2, 1, [], 0),
  (2, .invokevirtual 83, 3, [0, 17, 2, 0, 12], 0),
  (5, .ifCond .eq 13, 3, [], 0),
  (8, .aload_n 0, 1, [], 0),
  (9, .aload_n 1, 1, [], 0),
  (10, .iload_n 2, 1, [], 0),
  (11, .invokevirtual 113, 3, [0, 32, 3, 0, 12], 0),
  (14, .pop, 1, [], 0),
  (15, .goto 9, 3, [], 0),
  (18, .aload_n 0, 1, [], 0),
  (19, .iload_n 2, 1, [], 0),
  (20, .invokevirtual 110, 3, [0, 31, 2, 0, 12], 0),
  (23, .pop, 1, [], 0),
  (24, .return_, 1, [], 0)]
/-- 41: HiccupTown$Moment.stir(I)I -/
def T_X2_stir : List mm_E := [(0, .iload_n 0, 1, [], 0),
  (1, .ldc 151, 2, [0], 1103515245),
  (3, .imul, 1, [], 0),
  (4, .sipush 12345, 3, [], 0),
  (7, .iadd, 1, [], 0),
  (8, .ireturn, 1, [], 0)]
/-- 42: HiccupTown$Moment.drawOf(II)I -/
def T_X2_drawOf : List mm_E := [(0, .iload_n 0, 1, [], 0),
  (1, .bipush 8, 2, [], 0),
  (3, .iushr, 1, [], 0),
  (4, .iload_n 1, 1, [], 0),
  (5, .invokestatic 152, 3, [0, 153, 2, 0], 0),
  (8, .ireturn, 1, [], 0)]
/-- 43: HiccupTown$Moment.votesBehindRound(LHiccupTown$Plan;I)I -/
def T_X2_votesBehindRound : List mm_E := [(0, .iload_n 2, 1, [], 0),
  (1, .istore_n 3, 1, [], 0),
  (2, .iconst 0, 1, [], 0),
  (3, .istore 4, 2, [], 0),
  (5, .iload 4, 2, [], 0),
  (7, .aload_n 1, 1, [], 0),
  (8, .getfield 62, 3, [14, 2, 3, 22, 1], 0),
  (11, .iconst 1, 1, [], 0),
  (12, .iaload, 1, [], 0),
  (13, .if_icmp .ge 27, 3, [], 0),
  (16, .aload_n 0, 1, [], 0),
  (17, .iload 4, 2, [], 0),
  (19, .invokevirtual 83, 3, [0, 17, 2, 0, 12], 0),
  (22, .ifCond .ne 12, 3, [], 0),
  (25, .aload_n 0, 1, [], 0),
  (26, .aload_n 1, 1, [], 0),
  (27, .iload_n 3, 1, [], 0),
  (28, .iload 4, 2, [], 0),
  (30, .invokevirtual 155, 3, [0, 44, 4, 0, 12], 0),
  (33, .istore_n 3, 1, [], 0),
  (34, .iinc 4 1, 3, [], 0),
  (37, .goto (-32), 3, [], 0),
  (40, .iload_n 3, 1, [], 0),
  (41, .ireturn, 1, [], 0)]
/-- 44: HiccupTown$Moment.votesBehind(LHiccupTown$Plan;II)I -/
def T_X2_votesBehind : List mm_E := [(0, .iconst 0, 1, [], 0),
  (1, .istore 4, 2, [], 0),
  (3, .iconst 0, 1, [], 0),
  (4, .istore 5, 2, [], 0),
  (6, .iload 5, 2, [], 0),
  (8, .aload_n 1, 1, [], 0),
  (9, .getfield 62, 3, [14, 2, 3, 22, 1], 0),
  (12, .iconst 1, 1, [], 0),
  (13, .iaload, 1, [], 0),
  (14, .if_icmp .ge 45, 3, [], 0),
  (17, .iload 5, 2, [], 0),
  (19, .iload_n 3, 1, [], 0),
  (20, .if_icmp .eq 33, 3, [], 0),
  (23, .aload_n 0, 1, [], 0),
  (24, .aload_n 1, 1, [], 0),
  (25, .iload_n 3, 1, [], 0),
  (26, .iload 5, 2, [], 0),
  (28, .invokevirtual 159, 3, [0, 45, 4, 0, 12], 0),
  (31, .ifCond .eq 22, 3, [], 0),
  (34, .iload 4, 2, [], 0),
  (36, .iload_n 2, 1, [], 0),
  (37, .iload 5, 2, [], 0),
  (39, .invokestatic 79, 3, [0, 152, 2, 0], 0),
  (42, .ifCond .eq 7, 3, [], 0),
  (45, .iconst 1, 1, [], 0),
  (46, .goto 4, 3, [], 0),
  (49, .iconst (-1), 1, [], 0),
  (50, .iadd, 1, [], 0),
  (51, .istore 4, 2, [], 0),
  (53, .iinc 5 1, 3, [], 0),
  (56, .goto (-50), 3, [], 0),
  (59, .iload 4, 2, [], 0),
  (61, .ifCond .le 9, 3, [], 0),
  (64, .iload_n 2, 1, [], 0),
  (65, .iconst 1, 1, [], 0),
  (66, .iload_n 3, 1, [], 0),
  (67, .ishl, 1, [], 0),
  (68, .ior, 1, [], 0),
  (69, .ireturn, 1, [], 0),
  (70, .iload 4, 2, [], 0),
  (72, .ifCond .ge 13, 3, [], 0),
  (75, .iload_n 2, 1, [], 0),
  (76, .iconst 1, 1, [], 0),
  (77, .iload_n 3, 1, [], 0),
  (78, .ishl, 1, [], 0),
  (79, .iconst (-1), 1, [], 0),
  (80, .ixor, 1, [], 0),
  (81, .iand, 1, [], 0),
  (82, .goto 4, 3, [], 0),
  (85, .iload_n 2, 1, [], 0),
  (86, .ireturn, 1, [], 0)]
/-- 45: HiccupTown$Moment.willBeNear(LHiccupTown$Plan;II)Z -/
def T_X2_willBeNear : List mm_E := [(0, .aload_n 0, 1, [], 0),
  (1, .aload_n 1, 1, [], 0),
  (2, .iload_n 2, 1, [], 0),
  (3, .iconst 1, 1, [], 0),
  (4, .invokevirtual 163, 3, [0, 24, 4, 0, 12], 0),
  (7, .aload_n 0, 1, [], 0),
  (8, .aload_n 1, 1, [], 0),
  (9, .iload_n 3, 1, [], 0),
  (10, .iconst 1, 1, [], 0),
  (11, .invokevirtual 163, 3, [0, 24, 4, 0, 12], 0),
  (14, .isub, 1, [], 0),
  (15, .invokestatic 166, 3, [3], 0),
  (18, .istore 4, 2, [], 0),
  (20, .iload 4, 2, [], 0),
  (22, .iconst 1, 1, [], 0),
  (23, .if_icmp .le 14, 3, [], 0),
  (26, .iload 4, 2, [], 0),
  (28, .aload_n 1, 1, [], 0),
  (29, .getfield 169, 3, [14, 0, 0], 0),
  (32, .iconst 1, 1, [], 0),
  (33, .isub, 1, [], 0),
  (34, .if_icmp .ne 7, 3, [], 0),
  (37, .iconst 1, 1, [], 0),
  (38, .goto 4, 3, [], 0),
  (41, .iconst 0, 1, [], 0),
  (42, .ireturn, 1, [5], 0)]
/-- 46: HiccupTown$Past.forget()V -/
def T_X3_forget : List mm_E := [(0, .aload_n 0, 1, [], 0),
  (1, .iconst 0, 1, [], 0),
  (2, .putfield 18, 3, [13, 2, 0], 0),
  (5, .return_, 1, [], 0)]
/-- 47: HiccupTown$Past.keep(LHiccupTown$Moment;)V -/
def T_X3_keep : List mm_E := [(0, .aload_n 0, 1, [], 0),
  (1, .aload_n 0, 1, [], 0),
  (2, .getfield 22, 3, [13, 1, 0], 0),
  (5, .iconst 1, 1, [], 0),
  (6, .iadd, 1, [], 0),
  (7, .bipush 7, 2, [], 0),
  (9, .iand, 1, [], 0),
  (10, .putfield 22, 3, [13, 1, 0], 0),
  (13, .aload_n 0, 1, [], 0),
  (14, .getfield 13, 3, [13, 0, 3, 33, 1], 0),
  (17, .aload_n 0, 1, [], 0),
  (18, .getfield 22, 3, [13, 1, 0], 0),
  (21, .aaload, 1, [], 0),
  (22, .aload_n 1, 1, [], 0),
  (23, .invokevirtual 25, 3, [0, 16, 2, 8, 12], 0),
  (26, .aload_n 0, 1, [], 0),
  (27, .bipush 8, 2, [], 0),
  (29, .aload_n 0, 1, [], 0),
  (30, .getfield 18, 3, [13, 2, 0], 0),
  (33, .iconst 1, 1, [], 0),
  (34, .iadd, 1, [], 0),
  (35, .invokestatic 29, 3, [1], 0),
  (38, .putfield 18, 3, [13, 2, 0], 0),
  (41, .return_, 1, [], 0)]
/-- 48: HiccupTown$Past.takeBack(LHiccupTown$Moment;)I -/
def T_X3_takeBack : List mm_E := [(0, .aload_n 0, 1, [], 0),
  (1, .getfield 18, 3, [13, 2, 0], 0),
  (4, .ifCond .ne 5, 3, [], 0),
  (7, .iconst (-1), 1, [], 0),
  (8, .ireturn, 1, [], 0),
  (9, .aload_n 1, 1, [], 0),
  (10, .aload_n 0, 1, [], 0),
  (11, .getfield 13, 3, [13, 0, 3, 33, 1], 0),
  (14, .aload_n 0, 1, [], 0),
  (15, .getfield 22, 3, [13, 1, 0], 0),
  (18, .aaload, 1, [], 0),
  (19, .invokevirtual 25, 3, [0, 16, 2, 8, 12], 0),
  (22, .aload_n 0, 1, [], 0),
  (23, .aload_n 0, 1, [], 0),
  (24, .getfield 22, 3, [13, 1, 0], 0),
  (27, .bipush 8, 2, [], 0),
  (29, .iadd, 1, [], 0),
  (30, .iconst 1, 1, [], 0),
  (31, .isub, 1, [], 0),
  (32, .bipush 7, 2, [], 0),
  (34, .iand, 1, [], 0),
  (35, .putfield 22, 3, [13, 1, 0], 0),
  (38, .aload_n 0, 1, [], 0),
  (39, .dup, 1, [], 0),
  (40, .getfield 18, 3, [13, 2, 0], 0),
  (43, .iconst 1, 1, [], 0),
  (44, .isub, 1, [], 0),
  (45, .putfield 18, 3, [13, 2, 0], 0),
  (48, .aload_n 0, 1, [], 0),
  (49, .getfield 18, 3, [13, 2, 0], 0),
  (52, .ireturn, 1, [], 0)]
/-- 49: HiccupTown$Plan.clear()V -/
def T_X4_clear : List mm_E := [(0, .aload_n 0, 1, [], 0),
  (1, .bipush 8, 2, [], 0),
  (3, .putfield 11, 3, [14, 0, 0], 0),
  (6, .aload_n 0, 1, [], 0),
  (7, .getfield 23, 3, [14, 4, 3, 23, 3], 0),
  (10, .iconst 0, 1, [], 0),
  (11, .iconst 4, 1, [], 0),
  (12, .iastore, 1, [], 0),
  (13, .aload_n 0, 1, [], 0),
  (14, .iconst 0, 1, [], 0),
  (15, .putfield 44, 3, [14, 1, 0], 0),
  (18, .iconst 0, 1, [], 0),
  (19, .istore_n 1, 1, [], 0),
  (20, .iload_n 1, 1, [], 0),
  (21, .iconst 4, 1, [], 0),
  (22, .if_icmp .ge 16, 3, [], 0),
  (25, .aload_n 0, 1, [], 0),
  (26, .getfield 15, 3, [14, 2, 3, 22, 1], 0),
  (29, .iload_n 1, 1, [], 0),
  (30, .iconst 0, 1, [], 0),
  (31, .iastore, 1, [], 0),
  (32, .iinc 1 1, 3, [], 0),
  (35, .goto (-15), 3, [], 0),
  (38, .return_, 1, [], 0)]
/-- 50: HiccupTown$Plan.copyFrom(LHiccupTown$Plan;)V -/
def T_X4_copyFrom : List mm_E := [(0, .aload_n 0, 1, [], 0),
  (1, .aload_n 1, 1, [], 0),
  (2, .getfield 11, 3, [14, 0, 0], 0),
  (5, .putfield 11, 3, [14, 0, 0], 0),
  (8, .aload_n 0, 1, [], 0),
  (9, .aload_n 1, 1, [], 0),
  (10, .getfield 44, 3, [14, 1, 0], 0),
  (13, .putfield 44, 3, [14, 1, 0], 0),
  (16, .aload_n 1, 1, [], 0),
  (17, .getfield 15, 3, [14, 2, 3, 22, 1], 0),
  (20, .iconst 0, 1, [], 0),
  (21, .aload_n 0, 1, [], 0),
  (22, .getfield 15, 3, [14, 2, 3, 22, 1], 0),
  (25, .iconst 0, 1, [], 0),
  (26, .iconst 4, 1, [], 0),
  (27, .invokestatic 47, 3, [4], 0),
  (30, .aload_n 1, 1, [], 0),
  (31, .getfield 19, 3, [14, 3, 3, 28, 2], 0),
  (34, .iconst 0, 1, [], 0),
  (35, .aload_n 0, 1, [], 0),
  (36, .getfield 19, 3, [14, 3, 3, 28, 2], 0),
  (39, .iconst 0, 1, [], 0),
  (40, .bipush 28, 2, [], 0),
  (42, .invokestatic 47, 3, [4], 0),
  (45, .aload_n 1, 1, [], 0),
  (46, .getfield 23, 3, [14, 4, 3, 23, 3], 0),
  (49, .iconst 0, 1, [], 0),
  (50, .aload_n 0, 1, [], 0),
  (51, .getfield 23, 3, [14, 4, 3, 23, 3], 0),
  (54, .iconst 0, 1, [], 0),
  (55, .iconst 5, 1, [], 0),
  (56, .invokestatic 47, 3, [4], 0),
  (59, .aload_n 1, 1, [], 0),
  (60, .getfield 26, 3, [14, 5, 3, 25, 4], 0),
  (63, .iconst 0, 1, [], 0),
  (64, .aload_n 0, 1, [], 0),
  (65, .getfield 26, 3, [14, 5, 3, 25, 4], 0),
  (68, .iconst 0, 1, [], 0),
  (69, .bipush 7, 2, [], 0),
  (71, .invokestatic 47, 3, [4], 0),
  (74, .aload_n 1, 1, [], 0),
  (75, .getfield 29, 3, [14, 6, 3, 25, 5], 0),
  (78, .iconst 0, 1, [], 0),
  (79, .aload_n 0, 1, [], 0),
  (80, .getfield 29, 3, [14, 6, 3, 25, 5], 0),
  (83, .iconst 0, 1, [], 0),
  (84, .bipush 7, 2, [], 0),
  (86, .invokestatic 47, 3, [4], 0),
  (89, .aload_n 1, 1, [], 0),
  (90, .getfield 32, 3, [14, 7, 3, 24, 6], 0),
  (93, .iconst 0, 1, [], 0),
  (94, .aload_n 0, 1, [], 0),
  (95, .getfield 32, 3, [14, 7, 3, 24, 6], 0),
  (98, .iconst 0, 1, [], 0),
  (99, .bipush 6, 2, [], 0),
  (101, .invokestatic 47, 3, [4], 0),
  (104, .aload_n 1, 1, [], 0),
  (105, .getfield 35, 3, [14, 8, 3, 24, 7], 0),
  (108, .iconst 0, 1, [], 0),
  (109, .aload_n 0, 1, [], 0),
  (110, .getfield 35, 3, [14, 8, 3, 24, 7], 0),
  (113, .iconst 0, 1, [], 0),
  (114, .bipush 6, 2, [], 0),
  (116, .invokestatic 47, 3, [4], 0),
  (119, .aload_n 1, 1, [], 0),
  (120, .getfield 38, 3, [14, 9, 3, 24, 8], 0),
  (123, .iconst 0, 1, [], 0),
  (124, .aload_n 0, 1, [], 0),
  (125, .getfield 38, 3, [14, 9, 3, 24, 8], 0),
  (128, .iconst 0, 1, [], 0),
  (129, .bipush 6, 2, [], 0),
  (131, .invokestatic 47, 3, [4], 0),
  (134, .aload_n 1, 1, [], 0),
  (135, .getfield 41, 3, [14, 10, 3, 23, 9], 0),
  (138, .iconst 0, 1, [], 0),
  (139, .aload_n 0, 1, [], 0),
  (140, .getfield 41, 3, [14, 10, 3, 23, 9], 0),
  (143, .iconst 0, 1, [], 0),
  (144, .iconst 5, 1, [], 0),
  (145, .invokestatic 47, 3, [4], 0),
  (148, .return_, 1, [], 0)]
/-- 51: HiccupTown$Plan.has(II)Z -/
def T_X4_has : List mm_E := [(0, .iload_n 2, 1, [], 0),
  (1, .ifCond .lt 17, 3, [], 0),
  (4, .iload_n 2, 1, [], 0),
  (5, .aload_n 0, 1, [], 0),
  (6, .getfield 15, 3, [14, 2, 3, 22, 1], 0),
  (9, .iload_n 1, 1, [], 0),
  (10, .iaload, 1, [], 0),
  (11, .if_icmp .ge 7, 3, [], 0),
  (14, .iconst 1, 1, [], 0),
  (15, .goto 4, 3, [], 0),
  (18, .iconst 0, 1, [], 0),
  (19, .ireturn, 1, [5], 0)]
/-- 52: HiccupTown$Plan.isFull(I)Z -/
def T_X4_isFull : List mm_E := [(0, .aload_n 0, 1, [], 0),
  (1, .getfield 15, 3, [14, 2, 3, 22, 1], 0),
  (4, .iload_n 1, 1, [], 0),
  (5, .iaload, 1, [], 0),
  (6, .getstatic 53, 3, [5], 0),
  (9, .iload_n 1, 1, [], 0),
  (10, .iaload, 1, [], 0),
  (11, .if_icmp .lt 7, 3, [], 0),
  (14, .iconst 1, 1, [], 0),
  (15, .goto 4, 3, [], 0),
  (18, .iconst 0, 1, [], 0),
  (19, .ireturn, 1, [5], 0)]
/-- 53: HiccupTown$Plan.beaters()I -/
def T_X4_beaters : List mm_E := [(0, .iconst 1, 1, [], 0),
  (1, .aload_n 0, 1, [], 0),
  (2, .getfield 15, 3, [14, 2, 3, 22, 1], 0),
  (5, .iconst 0, 1, [], 0),
  (6, .iaload, 1, [], 0),
  (7, .iadd, 1, [], 0),
  (8, .ireturn, 1, [], 0)]
/-- 54: HiccupTown$Plan.mayBeat(I)Z -/
def T_X4_mayBeat : List mm_E := [(0, .iload_n 1, 1, [], 0),
  (1, .ifCond .lt 17, 3, [], 0),
  (4, .iload_n 1, 1, [], 0),
  (5, .aload_n 0, 1, [], 0),
  (6, .getfield 15, 3, [14, 2, 3, 22, 1], 0),
  (9, .iconst 0, 1, [], 0),
  (10, .iaload, 1, [], 0),
  (11, .if_icmp .gt 7, 3, [], 0),
  (14, .iconst 1, 1, [], 0),
  (15, .goto 4, 3, [], 0),
  (18, .iconst 0, 1, [], 0),
  (19, .ireturn, 1, [5], 0)]
/-- 55: HiccupTown$Plan.gapOf(I)I -/
def T_X4_gapOf : List mm_E := [(0, .aload_n 0, 1, [], 0),
  (1, .iload_n 1, 1, [], 0),
  (2, .invokevirtual 56, 3, [0, 54, 2, 0, 14], 0),
  (5, .ifCond .eq 12, 3, [], 0),
  (8, .aload_n 0, 1, [], 0),
  (9, .getfield 23, 3, [14, 4, 3, 23, 3], 0),
  (12, .iload_n 1, 1, [], 0),
  (13, .iaload, 1, [], 0),
  (14, .goto 4, 3, [], 0),
  (17, .iconst (-1), 1, [], 0),
  (18, .ireturn, 1, [], 0)]
/-- 56: HiccupTown$Plan.addName(IJ)I -/
def T_X4_addName : List mm_E := [(0, .aload_n 0, 1, [], 0),
  (1, .getfield 15, 3, [14, 2, 3, 22, 1], 0),
  (4, .iload_n 1, 1, [], 0),
  (5, .iaload, 1, [], 0),
  (6, .istore 4, 2, [], 0),
  (8, .aload_n 0, 1, [], 0),
  (9, .getfield 19, 3, [14, 3, 3, 28, 2], 0),
  (12, .iload_n 1, 1, [], 0),
  (13, .bipush 7, 2, [], 0),
  (15, .imul, 1, [], 0),
  (16, .iload 4, 2, [], 0),
  (18, .iadd, 1, [], 0),
  (19, .lload_n 2, 1, [], 0),
  (20, .lastore, 1, [], 0),
  (21, .aload_n 0, 1, [], 0),
  (22, .getfield 15, 3, [14, 2, 3, 22, 1], 0),
  (25, .iload_n 1, 1, [], 0),
  (26, .iload 4, 2, [], 0),
  (28, .iconst 1, 1, [], 0),
  (29, .iadd, 1, [], 0),
  (30, .iastore, 1, [], 0),
  (31, .iload 4, 2, [], 0),
  (33, .ireturn, 1, [], 0)]
/-- 57: HiccupTown$Plan.nameOf(II)J -/
def T_X4_nameOf : List mm_E := [(0, .aload_n 0, 1, [], 0),
  (1, .iload_n 1, 1, [], 0),
  (2, .iload_n 2, 1, [], 0),
  (3, .invokevirtual 60, 3, [0, 51, 3, 0, 14], 0),
  (6, .ifCond .eq 17, 3, [], 0),
  (9, .aload_n 0, 1, [], 0),
  (10, .getfield 19, 3, [14, 3, 3, 28, 2], 0),
  (13, .iload_n 1, 1, [], 0),
  (14, .bipush 7, 2, [], 0),
  (16, .imul, 1, [], 0),
  (17, .iload_n 2, 1, [], 0),
  (18, .iadd, 1, [], 0),
  (19, .laload, 1, [], 0),
  (20, .goto 4, 3, [], 0),
  (23, .lconst 0, 1, [], 0),
  (24, .lreturn, 1, [], 0)]
/-- 58: HiccupTown$Plan.numberOf(IJ)I -/
def T_X4_numberOf : List mm_E := [(0, .iconst 0, 1, [], 0),
  (1, .istore 4, 2, [], 0),
  (3, .iload 4, 2, [], 0),
  (5, .aload_n 0, 1, [], 0),
  (6, .getfield 15, 3, [14, 2, 3, 22, 1], 0),
  (9, .iload_n 1, 1, [], 0),
  (10, .iaload, 1, [], 0),
  (11, .if_icmp .ge 29, 3, [], 0),
  (14, .aload_n 0, 1, [], 0),
  (15, .getfield 19, 3, [14, 3, 3, 28, 2], 0),
  (18, .iload_n 1, 1, [], 0),
  (19, .bipush 7, 2, [], 0),
  (21, .imul, 1, [], 0),
  (22, .iload 4, 2, [], 0),
  (24, .iadd, 1, [], 0),
  (25, .laload, 1, [], 0),
  (26, .lload_n 2, 1, [], 0),
  (27, .lcmp, 1, [], 0),
  (28, .ifCond .ne 6, 3, [], 0),
  (31, .iload 4, 2, [], 0),
  (33, .ireturn, 1, [], 0),
  (34, .iinc 4 1, 3, [], 0),
  (37, .goto (-34), 3, [], 0),
  (40, .iconst (-1), 1, [], 0),
  (41, .ireturn, 1, [], 0)]
/-- 59: HiccupTown$Plan.knows(J)Z -/
def T_X4_knows : List mm_E := [(0, .iconst 0, 1, [], 0),
  (1, .istore_n 3, 1, [], 0),
  (2, .iload_n 3, 1, [], 0),
  (3, .iconst 4, 1, [], 0),
  (4, .if_icmp .ge 21, 3, [], 0),
  (7, .aload_n 0, 1, [], 0),
  (8, .iload_n 3, 1, [], 0),
  (9, .lload_n 1, 1, [], 0),
  (10, .invokevirtual 64, 3, [0, 58, 3, 0, 14], 0),
  (13, .iconst (-1), 1, [], 0),
  (14, .if_icmp .eq 5, 3, [], 0),
  (17, .iconst 1, 1, [], 0),
  (18, .ireturn, 1, [5], 0),
  (19, .iinc 3 1, 3, [], 0),
  (22, .goto (-20), 3, [], 0),
  (25, .iconst 0, 1, [], 0),
  (26, .ireturn, 1, [5], 0)]
/-- 60: HiccupTown$Plan.placeOn(II)I -/
def T_X4_placeOn : List mm_E := [(0, .iload_n 1, 1, [], 0),
  (1, .iload_n 2, 1, [], 0),
  (2, .iadd, 1, [], 0),
  (3, .aload_n 0, 1, [], 0),
  (4, .getfield 11, 3, [14, 0, 0], 0),
  (7, .invokestatic 68, 3, [0, 153, 2, 0], 0),
  (10, .ireturn, 1, [], 0)]
/-- 61: HiccupTown$Rows.countFor(LHiccupTown$Plan;II)I -/
def T_X5_countFor : List mm_E := [(0, .aload_n 0, 1, [], 0),
  (1, .getfield 11, 3, [15, 0, 3, 35, 1], 0),
  (4, .iconst 0, 1, [], 0),
  (5, .aaload, 1, [], 0),
  (6, .iconst 0, 1, [], 0),
  (7, .iconst 1, 1, [], 0),
  (8, .iastore, 1, [], 0),
  (9, .iconst 1, 1, [], 0),
  (10, .istore 4, 2, [], 0),
  (12, .iload 4, 2, [], 0),
  (14, .iload_n 3, 1, [], 0),
  (15, .if_icmp .gt 43, 3, [], 0),
  (18, .iconst 0, 1, [], 0),
  (19, .istore 5, 2, [], 0),
  (21, .iload 5, 2, [], 0),
  (23, .iload_n 2, 1, [], 0),
  (24, .if_icmp .gt 28, 3, [], 0),
  (27, .aload_n 0, 1, [], 0),
  (28, .getfield 11, 3, [15, 0, 3, 35, 1], 0),
  (31, .iload 4, 2, [], 0),
  (33, .aaload, 1, [], 0),
  (34, .iload 5, 2, [], 0),
  (36, .aload_n 0, 1, [], 0),
  (37, .aload_n 1, 1, [], 0),
  (38, .iload 5, 2, [], 0),
  (40, .iload 4, 2, [], 0),
  (42, .invokevirtual 18, 3, [0, 62, 4, 0, 15], 0),
  (45, .iastore, 1, [], 0),
  (46, .iinc 5 1, 3, [], 0),
  (49, .goto (-28), 3, [], 0),
  (52, .iinc 4 1, 3, [], 0),
  (55, .goto (-43), 3, [], 0),
  (58, .aload_n 0, 1, [], 0),
  (59, .getfield 11, 3, [15, 0, 3, 35, 1], 0),
  (62, .iload_n 3, 1, [], 0),
  (63, .aaload, 1, [], 0),
  (64, .iload_n 2, 1, [], 0),
  (65, .iaload, 1, [], 0),
  (66, .ifCond .le 10, 3, [], 0),
  (69, .aload_n 0, 1, [], 0),
  (70, .aload_n 1, 1, [], 0),
  (71, .iload_n 2, 1, [], 0),
  (72, .iload_n 3, 1, [], 0),
  (73, .invokevirtual 22, 3, [0, 63, 4, 8, 15], 0),
  (76, .aload_n 0, 1, [], 0),
  (77, .getfield 11, 3, [15, 0, 3, 35, 1], 0),
  (80, .iload_n 3, 1, [], 0),
  (81, .aaload, 1, [], 0),
  (82, .iload_n 2, 1, [], 0),
  (83, .iaload, 1, [], 0),
  (84, .ireturn, 1, [], 0)]
/-- 62: HiccupTown$Rows.waysWithOneMore(LHiccupTown$Plan;II)I -/
def T_X5_waysWithOneMore : List mm_E := [(0, .iconst 0, 1, [], 0),
  (1, .istore 4, 2, [], 0),
  (3, .iconst 0, 1, [], 0),
  (4, .istore 5, 2, [], 0),
  (6, .iload 5, 2, [], 0),
  (8, .aload_n 1, 1, [], 0),
  (9, .invokevirtual 26, 3, [0, 53, 1, 0, 14], 0),
  (12, .if_icmp .ge 41, 3, [], 0),
  (15, .iload_n 2, 1, [], 0),
  (16, .aload_n 1, 1, [], 0),
  (17, .getfield 32, 3, [14, 4, 3, 23, 3], 0),
  (20, .iload 5, 2, [], 0),
  (22, .iaload, 1, [], 0),
  (23, .isub, 1, [], 0),
  (24, .istore 6, 2, [], 0),
  (26, .iload 6, 2, [], 0),
  (28, .ifCond .lt 19, 3, [], 0),
  (31, .iload 4, 2, [], 0),
  (33, .aload_n 0, 1, [], 0),
  (34, .getfield 11, 3, [15, 0, 3, 35, 1], 0),
  (37, .iload_n 3, 1, [], 0),
  (38, .iconst 1, 1, [], 0),
  (39, .isub, 1, [], 0),
  (40, .aaload, 1, [], 0),
  (41, .iload 6, 2, [], 0),
  (43, .iaload, 1, [], 0),
  (44, .iadd, 1, [], 0),
  (45, .istore 4, 2, [], 0),
  (47, .iinc 5 1, 3, [], 0),
  (50, .goto (-44), 3, [], 0),
  (53, .iload 4, 2, [], 0),
  (55, .ireturn, 1, [], 0)]
/-- 63: HiccupTown$Rows.keepFirst(LHiccupTown$Plan;II)V -/
def T_X5_keepFirst : List mm_E := [(0, .iload_n 2, 1, [], 0),
  (1, .istore 4, 2, [], 0),
  (3, .iconst 0, 1, [], 0),
  (4, .istore 5, 2, [], 0),
  (6, .iload 5, 2, [], 0),
  (8, .iload_n 3, 1, [], 0),
  (9, .if_icmp .ge 45, 3, [], 0),
  (12, .aload_n 0, 1, [], 0),
  (13, .aload_n 1, 1, [], 0),
  (14, .iload 4, 2, [], 0),
  (16, .iload_n 3, 1, [], 0),
  (17, .iconst 1, 1, [], 0),
  (18, .isub, 1, [], 0),
  (19, .iload 5, 2, [], 0),
  (21, .isub, 1, [], 0),
  (22, .invokevirtual 35, 3, [0, 64, 4, 0, 15], 0),
  (25, .istore 6, 2, [], 0),
  (27, .aload_n 0, 1, [], 0),
  (28, .getfield 14, 3, [15, 1, 3, 23, 8], 0),
  (31, .iload 5, 2, [], 0),
  (33, .iload 6, 2, [], 0),
  (35, .iastore, 1, [], 0),
  (36, .iload 4, 2, [], 0),
  (38, .aload_n 1, 1, [], 0),
  (39, .getfield 32, 3, [14, 4, 3, 23, 3], 0),
  (42, .iload 6, 2, [], 0),
  (44, .iaload, 1, [], 0),
  (45, .isub, 1, [], 0),
  (46, .istore 4, 2, [], 0),
  (48, .iinc 5 1, 3, [], 0),
  (51, .goto (-45), 3, [], 0),
  (54, .aload_n 0, 1, [], 0),
  (55, .iload_n 3, 1, [], 0),
  (56, .putfield 38, 3, [15, 2, 0], 0),
  (59, .return_, 1, [], 0)]
/-- 64: HiccupTown$Rows.leastBeater(LHiccupTown$Plan;II)I -/
def T_X5_leastBeater : List mm_E := [(0, .iconst 0, 1, [], 0),
  (1, .istore 4, 2, [], 0),
  (3, .iload 4, 2, [], 0),
  (5, .aload_n 1, 1, [], 0),
  (6, .invokevirtual 26, 3, [0, 53, 1, 0, 14], 0),
  (9, .if_icmp .ge 40, 3, [], 0),
  (12, .iload_n 2, 1, [], 0),
  (13, .aload_n 1, 1, [], 0),
  (14, .getfield 32, 3, [14, 4, 3, 23, 3], 0),
  (17, .iload 4, 2, [], 0),
  (19, .iaload, 1, [], 0),
  (20, .isub, 1, [], 0),
  (21, .istore 5, 2, [], 0),
  (23, .iload 5, 2, [], 0),
  (25, .ifCond .lt 18, 3, [], 0),
  (28, .aload_n 0, 1, [], 0),
  (29, .getfield 11, 3, [15, 0, 3, 35, 1], 0),
  (32, .iload_n 3, 1, [], 0),
  (33, .aaload, 1, [], 0),
  (34, .iload 5, 2, [], 0),
  (36, .iaload, 1, [], 0),
  (37, .ifCond .le 6, 3, [], 0),
  (40, .iload 4, 2, [], 0),
  (42, .ireturn, 1, [], 0),
  (43, .iinc 4 1, 3, [], 0),
  (46, .goto (-43), 3, [], 0),
  (49, .iconst 0, 1, [], 0),
  (50, .ireturn, 1, [], 0)]
/-- 65: HiccupTown$Scene.begin(LHiccupTown$Plan;)V -/
def T_X6_begin : List mm_E := [(0, .aload_n 0, 1, [], 0),
  (1, .getfield 10, 3, [16, 0, 3, 14, 1], 0),
  (4, .aload_n 1, 1, [], 0),
  (5, .invokevirtual 30, 3, [0, 50, 2, 8, 14], 0),
  (8, .aload_n 0, 1, [], 0),
  (9, .getfield 19, 3, [16, 1, 3, 12, 11], 0),
  (12, .aload_n 0, 1, [], 0),
  (13, .getfield 10, 3, [16, 0, 3, 14, 1], 0),
  (16, .invokevirtual 34, 3, [0, 15, 2, 8, 12], 0),
  (19, .aload_n 0, 1, [], 0),
  (20, .getfield 26, 3, [16, 2, 3, 17, 15], 0),
  (23, .invokevirtual 37, 3, [0, 67, 1, 8, 17], 0),
  (26, .return_, 1, [], 0)]
/-- 66: HiccupTown$Scene.copyFrom(LHiccupTown$Scene;)V -/
def T_X6_copyFrom : List mm_E := [(0, .aload_n 0, 1, [], 0),
  (1, .getfield 10, 3, [16, 0, 3, 14, 1], 0),
  (4, .aload_n 1, 1, [], 0),
  (5, .getfield 10, 3, [16, 0, 3, 14, 1], 0),
  (8, .invokevirtual 30, 3, [0, 50, 2, 8, 14], 0),
  (11, .aload_n 0, 1, [], 0),
  (12, .getfield 19, 3, [16, 1, 3, 12, 11], 0),
  (15, .aload_n 1, 1, [], 0),
  (16, .getfield 19, 3, [16, 1, 3, 12, 11], 0),
  (19, .invokevirtual 40, 3, [0, 16, 2, 8, 12], 0),
  (22, .aload_n 0, 1, [], 0),
  (23, .getfield 26, 3, [16, 2, 3, 17, 15], 0),
  (26, .aload_n 1, 1, [], 0),
  (27, .getfield 26, 3, [16, 2, 3, 17, 15], 0),
  (30, .invokevirtual 43, 3, [0, 69, 2, 8, 17], 0),
  (33, .return_, 1, [], 0)]
/-- 67: HiccupTown$Sentence.clear()V -/
def T_X7_clear : List mm_E := [(0, .aload_n 0, 1, [], 0),
  (1, .iconst 0, 1, [], 0),
  (2, .putfield 24, 3, [17, 3, 0], 0),
  (5, .aload_n 0, 1, [], 0),
  (6, .iconst 0, 1, [], 0),
  (7, .putfield 28, 3, [17, 4, 0], 0),
  (10, .return_, 1, [], 0)]
/-- 68: HiccupTown$Sentence.isTold()Z -/
def T_X7_isTold : List mm_E := [(0, .aload_n 0, 1, [], 0),
  (1, .getfield 28, 3, [17, 4, 0], 0),
  (4, .ifCond .le 7, 3, [], 0),
  (7, .iconst 1, 1, [], 0),
  (8, .goto 4, 3, [], 0),
  (11, .iconst 0, 1, [], 0),
  (12, .ireturn, 1, [5], 0)]
/-- 69: HiccupTown$Sentence.copyFrom(LHiccupTown$Sentence;)V -/
def T_X7_copyFrom : List mm_E := [(0, .aload_n 0, 1, [], 0),
  (1, .aload_n 1, 1, [], 0),
  (2, .getfield 24, 3, [17, 3, 0], 0),
  (5, .putfield 24, 3, [17, 3, 0], 0),
  (8, .aload_n 0, 1, [], 0),
  (9, .aload_n 1, 1, [], 0),
  (10, .getfield 28, 3, [17, 4, 0], 0),
  (13, .putfield 28, 3, [17, 4, 0], 0),
  (16, .iconst 0, 1, [], 0),
  (17, .istore_n 2, 1, [], 0),
  (18, .iload_n 2, 1, [], 0),
  (19, .bipush 40, 2, [], 0),
  (21, .if_icmp .ge 45, 3, [], 0),
  (24, .aload_n 0, 1, [], 0),
  (25, .getfield 13, 3, [17, 0, 3, 32, 1], 0),
  (28, .iload_n 2, 1, [], 0),
  (29, .aload_n 1, 1, [], 0),
  (30, .getfield 13, 3, [17, 0, 3, 32, 1], 0),
  (33, .iload_n 2, 1, [], 0),
  (34, .aaload, 1, [], 0),
  (35, .aastore, 1, [], 0),
  (36, .aload_n 0, 1, [], 0),
  (37, .getfield 17, 3, [17, 1, 3, 32, 2], 0),
  (40, .iload_n 2, 1, [], 0),
  (41, .aload_n 1, 1, [], 0),
  (42, .getfield 17, 3, [17, 1, 3, 32, 2], 0),
  (45, .iload_n 2, 1, [], 0),
  (46, .aaload, 1, [], 0),
  (47, .aastore, 1, [], 0),
  (48, .aload_n 0, 1, [], 0),
  (49, .getfield 20, 3, [17, 2, 3, 26, 3], 0),
  (52, .iload_n 2, 1, [], 0),
  (53, .aload_n 1, 1, [], 0),
  (54, .getfield 20, 3, [17, 2, 3, 26, 3], 0),
  (57, .iload_n 2, 1, [], 0),
  (58, .iaload, 1, [], 0),
  (59, .iastore, 1, [], 0),
  (60, .iinc 2 1, 3, [], 0),
  (63, .goto (-45), 3, [], 0),
  (66, .return_, 1, [], 0)]
/-- 70: HiccupTown$Sentence.readSentence(LHiccupTown$Tape;LHiccupTown$Plan;)Z -/
def T_X7_readSentence : List mm_E := [(0, .aload_n 0, 1, [], 0),
  (1, .invokevirtual 31, 3, [0, 67, 1, 8, 17], 0),
  (4, .aload_n 0, 1, [], 0),
  (5, .aload_n 1, 1, [], 0),
  (6, .aload_n 2, 1, [], 0),
  (7, .iconst 1, 1, [], 0),
  (8, .invokevirtual 34, 3, [0, 71, 4, 0, 17], 0),
  (11, .ifCond .eq 17, 3, [], 0),
  (14, .aload_n 1, 1, [], 0),
  (15, .getstatic 38, 3, [2], 0),
  (18, .invokevirtual 42, 3, [0, 91, 2, 0, 18], 0),
  (21, .ifCond .eq 7, 3, [], 0),
  (24, .iconst 1, 1, [], 0),
  (25, .goto 4, 3, [], 0),
  (28, .iconst 0, 1, [], 0),
  (29, .ireturn, 1, [5], 0)]
/-- 71: HiccupTown$Sentence.readCond(LHiccupTown$Tape;LHiccupTown$Plan;I)Z -/
def T_X7_readCond : List mm_E := [(0, .aload_n 0, 1, [], 0),
  (1, .aload_n 1, 1, [], 0),
  (2, .aload_n 2, 1, [], 0),
  (3, .iload_n 3, 1, [], 0),
  (4, .invokevirtual 48, 3, [0, 72, 4, 0, 17], 0),
  (7, .ifCond .ne 5, 3, [], 0),
  (10, .iconst 0, 1, [], 0),
  (11, .ireturn, 1, [5], 0),
  (12, .iconst 0, 1, [], 0),
  (13, .istore 4, 2, [], 0),
  (15, .iload 4, 2, [], 0),
  (17, .bipush 20, 2, [], 0),
  (19, .if_icmp .ge 47, 3, [], 0),
  (22, .aload_n 1, 1, [], 0),
  (23, .getfield 51, 3, [18, 4, 2], 0),
  (26, .getstatic 54, 3, [2], 26),
  (29, .if_acmp .ne 37, 3, [], 0),
  (32, .aload_n 1, 1, [], 0),
  (33, .invokevirtual 57, 3, [0, 84, 1, 8, 18], 0),
  (36, .aload_n 0, 1, [], 0),
  (37, .aload_n 1, 1, [], 0),
  (38, .aload_n 2, 1, [], 0),
  (39, .iload_n 3, 1, [], 0),
  (40, .invokevirtual 48, 3, [0, 72, 4, 0, 17], 0),
  (43, .ifCond .ne 5, 3, [], 0),
  (46, .iconst 0, 1, [], 0),
  (47, .ireturn, 1, [5], 0),
  (48, .aload_n 0, 1, [], 0),
  (49, .getstatic 54, 3, [2], 26),
  (52, .getstatic 54, 3, [2], 26),
  (55, .iconst 0, 1, [], 0),
  (56, .invokevirtual 60, 3, [0, 76, 4, 0, 17], 0),
  (59, .pop, 1, [], 0),
  (60, .iinc 4 1, 3, [], 0),
  (63, .goto (-48), 3, [], 0),
  (66, .iconst 1, 1, [], 0),
  (67, .ireturn, 1, [5], 0)]
/-- 72: HiccupTown$Sentence.readAll(LHiccupTown$Tape;LHiccupTown$Plan;I)Z -/
def T_X7_readAll : List mm_E := [(0, .aload_n 0, 1, [], 0),
  (1, .aload_n 1, 1, [], 0),
  (2, .aload_n 2, 1, [], 0),
  (3, .iload_n 3, 1, [], 0),
  (4, .invokevirtual 64, 3, [0, 73, 4, 0, 17], 0),
  (7, .ifCond .ne 5, 3, [], 0),
  (10, .iconst 0, 1, [], 0),
  (11, .ireturn, 1, [5], 0),
  (12, .iconst 0, 1, [], 0),
  (13, .istore 4, 2, [], 0),
  (15, .iload 4, 2, [], 0),
  (17, .bipush 20, 2, [], 0),
  (19, .if_icmp .ge 47, 3, [], 0),
  (22, .aload_n 1, 1, [], 0),
  (23, .getfield 51, 3, [18, 4, 2], 0),
  (26, .getstatic 67, 3, [2], 27),
  (29, .if_acmp .ne 37, 3, [], 0),
  (32, .aload_n 1, 1, [], 0),
  (33, .invokevirtual 57, 3, [0, 84, 1, 8, 18], 0),
  (36, .aload_n 0, 1, [], 0),
  (37, .aload_n 1, 1, [], 0),
  (38, .aload_n 2, 1, [], 0),
  (39, .iload_n 3, 1, [], 0),
  (40, .invokevirtual 64, 3, [0, 73, 4, 0, 17], 0),
  (43, .ifCond .ne 5, 3, [], 0),
  (46, .iconst 0, 1, [], 0),
  (47, .ireturn, 1, [5], 0),
  (48, .aload_n 0, 1, [], 0),
  (49, .getstatic 67, 3, [2], 27),
  (52, .getstatic 67, 3, [2], 27),
  (55, .iconst 0, 1, [], 0),
  (56, .invokevirtual 60, 3, [0, 76, 4, 0, 17], 0),
  (59, .pop, 1, [], 0),
  (60, .iinc 4 1, 3, [], 0),
  (63, .goto (-48), 3, [], 0),
  (66, .iconst 1, 1, [], 0),
  (67, .ireturn, 1, [5], 0)]
/-- 73: HiccupTown$Sentence.readOne(LHiccupTown$Tape;LHiccupTown$Plan;I)Z -/
def T_X7_readOne : List mm_E := [(0, .aload_n 1, 1, [], 0),
  (1, .getfield 51, 3, [18, 4, 2], 0),
  (4, .astore 4, 2, [], 0),
  (6, .aload 4, 2, [], 0),
  (8, .invokestatic 70, 3, [0, 74, 1, 0], 0),
  (11, .ifCond .ne 9, 3, [], 0),
  (14, .aload_n 1, 1, [], 0),
  (15, .iconst 1, 1, [], 0),
  (16, .invokevirtual 73, 3, [0, 90, 2, 0, 18], 0),
  (19, .ireturn, 1, [5], 0),
  (20, .aload_n 0, 1, [], 0),
  (21, .getfield 28, 3, [17, 4, 0], 0),
  (24, .bipush 20, 2, [], 0),
  (26, .if_icmp .ge 9, 3, [], 0),
  (29, .iload_n 3, 1, [], 0),
  (30, .bipush 8, 2, [], 0),
  (32, .if_icmp .le 9, 3, [], 0),
  (35, .aload_n 1, 1, [], 0),
  (36, .iconst 4, 1, [], 0),
  (37, .invokevirtual 73, 3, [0, 90, 2, 0, 18], 0),
  (40, .ireturn, 1, [5], 0),
  (41, .aload_n 0, 1, [], 0),
  (42, .dup, 1, [], 0),
  (43, .getfield 28, 3, [17, 4, 0], 0),
  (46, .iconst 1, 1, [], 0),
  (47, .iadd, 1, [], 0),
  (48, .putfield 28, 3, [17, 4, 0], 0),
  (51, .aload_n 1, 1, [], 0),
  (52, .invokevirtual 57, 3, [0, 84, 1, 8, 18], 0),
  (55, .aload 4, 2, [], 0),
  (57, .getstatic 77, 3, [2], 28),
  (60, .if_acmp .ne 33, 3, [], 0),
  (63, .aload_n 0, 1, [], 0),
  (64, .aload_n 1, 1, [], 0),
  (65, .aload_n 2, 1, [], 0),
  (66, .iload_n 3, 1, [], 0),
  (67, .iconst 1, 1, [], 0),
  (68, .iadd, 1, [], 0),
  (69, .invokevirtual 64, 3, [0, 73, 4, 0, 17], 0),
  (72, .ifCond .eq 19, 3, [], 0),
  (75, .aload_n 0, 1, [], 0),
  (76, .aload 4, 2, [], 0),
  (78, .aload 4, 2, [], 0),
  (80, .iconst 0, 1, [], 0),
  (81, .invokevirtual 60, 3, [0, 76, 4, 0, 17], 0),
  (84, .ifCond .eq 7, 3, [], 0),
  (87, .iconst 1, 1, [], 0),
  (88, .goto 4, 3, [], 0),
  (91, .iconst 0, 1, [], 0),
  (92, .ireturn, 1, [5], 0),
  (93, .aload 4, 2, [], 0),
  (95, .getstatic 80, 3, [2], 8),
  (98, .if_acmp .ne 31, 3, [], 0),
  (101, .aload_n 0, 1, [], 0),
  (102, .aload_n 1, 1, [], 0),
  (103, .aload_n 2, 1, [], 0),
  (104, .iload_n 3, 1, [], 0),
  (105, .iconst 1, 1, [], 0),
  (106, .iadd, 1, [], 0),
  (107, .invokevirtual 34, 3, [0, 71, 4, 0, 17], 0),
  (110, .ifCond .eq 17, 3, [], 0),
  (113, .aload_n 1, 1, [], 0),
  (114, .getstatic 83, 3, [2], 9),
  (117, .invokevirtual 42, 3, [0, 91, 2, 0, 18], 0),
  (120, .ifCond .eq 7, 3, [], 0),
  (123, .iconst 1, 1, [], 0),
  (124, .goto 4, 3, [], 0),
  (127, .iconst 0, 1, [], 0),
  (128, .ireturn, 1, [5], 0),
  (129, .aload 4, 2, [], 0),
  (131, .getstatic 86, 3, [2], 17),
  (134, .if_acmp .eq 11, 3, [], 0),
  (137, .aload 4, 2, [], 0),
  (139, .getstatic 89, 3, [2], 31),
  (142, .if_acmp .ne 13, 3, [], 0),
  (145, .aload_n 0, 1, [], 0),
  (146, .aload 4, 2, [], 0),
  (148, .aload 4, 2, [], 0),
  (150, .iconst 0, 1, [], 0),
  (151, .invokevirtual 60, 3, [0, 76, 4, 0, 17], 0),
  (154, .ireturn, 1, [5], 0),
  (155, .aload 4, 2, [], 0),
  (157, .getstatic 92, 3, [2], 29),
  (160, .if_acmp .eq 11, 3, [], 0),
  (163, .aload 4, 2, [], 0),
  (165, .getstatic 95, 3, [2], 30),
  (168, .if_acmp .ne 48, 3, [], 0),
  (171, .aload_n 1, 1, [], 0),
  (172, .aload_n 2, 1, [], 0),
  (173, .aload 4, 2, [], 0),
  (175, .getstatic 92, 3, [2], 29),
  (178, .if_acmp .ne 7, 3, [], 0),
  (181, .iconst 2, 1, [], 0),
  (182, .goto 4, 3, [], 0),
  (185, .iconst 1, 1, [], 0),
  (186, .invokevirtual 98, 3, [0, 93, 3, 0, 18], 0),
  (189, .istore 5, 2, [], 0),
  (191, .iload 5, 2, [], 0),
  (193, .iconst (-1), 1, [], 0),
  (194, .if_icmp .eq 20, 3, [], 0),
  (197, .aload_n 0, 1, [], 0),
  (198, .aload 4, 2, [], 0),
  (200, .aload 4, 2, [], 0),
  (202, .iload 5, 2, [], 0),
  (204, .invokevirtual 60, 3, [0, 76, 4, 0, 17], 0),
  (207, .ifCond .eq 7, 3, [], 0),
  (210, .iconst 1, 1, [], 0),
  (211, .goto 4, 3, [], 0),
  (214, .iconst 0, 1, [], 0),
  (215, .ireturn, 1, [5], 0),
  (216, .aload_n 0, 1, [], 0),
  (217, .aload_n 1, 1, [], 0),
  (218, .aload 4, 2, [], 0),
  (220, .invokevirtual 102, 3, [0, 75, 3, 0, 17], 0),
  (223, .ireturn, 1, [5], 0)]
/-- 74: HiccupTown$Sentence.beginsOne(LHiccupTown$Word;)Z -/
def T_X7_beginsOne : List mm_E := [(0, .aload_n 0, 1, [], 0),
  (1, .getstatic 77, 3, [2], 28),
  (4, .if_acmp .eq 66, 3, [], 0),
  (7, .aload_n 0, 1, [], 0),
  (8, .getstatic 80, 3, [2], 8),
  (11, .if_acmp .eq 59, 3, [], 0),
  (14, .aload_n 0, 1, [], 0),
  (15, .getstatic 86, 3, [2], 17),
  (18, .if_acmp .eq 52, 3, [], 0),
  (21, .aload_n 0, 1, [], 0),
  (22, .getstatic 89, 3, [2], 31),
  (25, .if_acmp .eq 45, 3, [], 0),
  (28, .aload_n 0, 1, [], 0),
  (29, .getstatic 92, 3, [2], 29),
  (32, .if_acmp .eq 38, 3, [], 0),
  (35, .aload_n 0, 1, [], 0),
  (36, .getstatic 95, 3, [2], 30),
  (39, .if_acmp .eq 31, 3, [], 0),
  (42, .aload_n 0, 1, [], 0),
  (43, .getstatic 106, 3, [2], 32),
  (46, .if_acmp .eq 24, 3, [], 0),
  (49, .aload_n 0, 1, [], 0),
  (50, .getstatic 109, 3, [2], 33),
  (53, .if_acmp .eq 17, 3, [], 0),
  (56, .aload_n 0, 1, [], 0),
  (57, .getstatic 112, 3, [2], 34),
  (60, .if_acmp .eq 10, 3, [], 0),
  (63, .aload_n 0, 1, [], 0),
  (64, .getstatic 115, 3, [2], 35),
  (67, .if_acmp .ne 7, 3, [], 0),
  (70, .iconst 1, 1, [], 0),
  (71, .goto 4, 3, [], 0),
  (74, .iconst 0, 1, [], 0),
  (75, .ireturn, 1, [5], 0)]
/-- 75: HiccupTown$Sentence.readCompared(LHiccupTown$Tape;LHiccupTown$Word;)Z -/
def T_X7_readCompared : List mm_E := [(0, .aload_n 1, 1, [], 0),
  (1, .getfield 51, 3, [18, 4, 2], 0),
  (4, .astore_n 3, 1, [], 0),
  (5, .aload_n 3, 1, [], 0),
  (6, .getstatic 118, 3, [2], 5),
  (9, .if_acmp .eq 23, 3, [], 0),
  (12, .aload_n 3, 1, [], 0),
  (13, .getstatic 121, 3, [2], 6),
  (16, .if_acmp .eq 16, 3, [], 0),
  (19, .aload_n 3, 1, [], 0),
  (20, .getstatic 124, 3, [2], 7),
  (23, .if_acmp .eq 9, 3, [], 0),
  (26, .aload_n 1, 1, [], 0),
  (27, .iconst 1, 1, [], 0),
  (28, .invokevirtual 73, 3, [0, 90, 2, 0, 18], 0),
  (31, .ireturn, 1, [5], 0),
  (32, .aload_n 1, 1, [], 0),
  (33, .invokevirtual 57, 3, [0, 84, 1, 8, 18], 0),
  (36, .aload_n 1, 1, [], 0),
  (37, .iconst 0, 1, [], 0),
  (38, .sipush 999, 3, [], 0),
  (41, .invokevirtual 127, 3, [0, 92, 3, 0, 18], 0),
  (44, .istore 4, 2, [], 0),
  (46, .iload 4, 2, [], 0),
  (48, .iconst (-1), 1, [], 0),
  (49, .if_icmp .eq 18, 3, [], 0),
  (52, .aload_n 0, 1, [], 0),
  (53, .aload_n 2, 1, [], 0),
  (54, .aload_n 3, 1, [], 0),
  (55, .iload 4, 2, [], 0),
  (57, .invokevirtual 60, 3, [0, 76, 4, 0, 17], 0),
  (60, .ifCond .eq 7, 3, [], 0),
  (63, .iconst 1, 1, [], 0),
  (64, .goto 4, 3, [], 0),
  (67, .iconst 0, 1, [], 0),
  (68, .ireturn, 1, [5], 0)]
/-- 76: HiccupTown$Sentence.add(LHiccupTown$Word;LHiccupTown$Word;I)Z -/
def T_X7_add : List mm_E := [(0, .aload_n 0, 1, [], 0),
  (1, .getfield 24, 3, [17, 3, 0], 0),
  (4, .bipush 40, 2, [], 0),
  (6, .if_icmp .lt 5, 3, [], 0),
  (9, .iconst 0, 1, [], 0),
  (10, .ireturn, 1, [5], 0),
  (11, .aload_n 0, 1, [], 0),
  (12, .getfield 13, 3, [17, 0, 3, 32, 1], 0),
  (15, .aload_n 0, 1, [], 0),
  (16, .getfield 24, 3, [17, 3, 0], 0),
  (19, .aload_n 1, 1, [], 0),
  (20, .aastore, 1, [], 0),
  (21, .aload_n 0, 1, [], 0),
  (22, .getfield 17, 3, [17, 1, 3, 32, 2], 0),
  (25, .aload_n 0, 1, [], 0),
  (26, .getfield 24, 3, [17, 3, 0], 0),
  (29, .aload_n 2, 1, [], 0),
  (30, .aastore, 1, [], 0),
  (31, .aload_n 0, 1, [], 0),
  (32, .getfield 20, 3, [17, 2, 3, 26, 3], 0),
  (35, .aload_n 0, 1, [], 0),
  (36, .getfield 24, 3, [17, 3, 0], 0),
  (39, .iload_n 3, 1, [], 0),
  (40, .iastore, 1, [], 0),
  (41, .aload_n 0, 1, [], 0),
  (42, .dup, 1, [], 0),
  (43, .getfield 24, 3, [17, 3, 0], 0),
  (46, .iconst 1, 1, [], 0),
  (47, .iadd, 1, [], 0),
  (48, .putfield 24, 3, [17, 3, 0], 0),
  (51, .iconst 1, 1, [], 0),
  (52, .ireturn, 1, [5], 0)]
/-- 77: HiccupTown$Sentence.holds(LHiccupTown$Plan;LHiccupTown$Moment;I)Z -/
def T_X7_holds : List mm_E := [(0, .iconst 0, 1, [], 0),
  (1, .istore 4, 2, [], 0),
  (3, .iconst 0, 1, [], 0),
  (4, .istore 5, 2, [], 0),
  (6, .iload 5, 2, [], 0),
  (8, .aload_n 0, 1, [], 0),
  (9, .getfield 24, 3, [17, 3, 0], 0),
  (12, .if_icmp .ge 104, 3, [], 0),
  (15, .aload_n 0, 1, [], 0),
  (16, .getfield 13, 3, [17, 0, 3, 32, 1], 0),
  (19, .iload 5, 2, [], 0),
  (21, .aaload, 1, [], 0),
  (22, .astore 6, 2, [], 0),
  (24, .aload 6, 2, [], 0),
  (26, .getstatic 77, 3, [2], 28),
  (29, .if_acmp .ne 12, 3, [], 0),
  (32, .iload 4, 2, [], 0),
  (34, .iconst 1, 1, [], 0),
  (35, .ixor, 1, [], 0),
  (36, .istore 4, 2, [], 0),
  (38, .goto 72, 3, [], 0),
  (41, .aload 6, 2, [], 0),
  (43, .getstatic 67, 3, [2], 27),
  (46, .if_acmp .ne 18, 3, [], 0),
  (49, .iload 4, 2, [], 0),
  (51, .iconst 1, 1, [], 0),
  (52, .iushr, 1, [], 0),
  (53, .iload 4, 2, [], 0),
  (55, .bipush (-2), 2, [], 0),
  (57, .ior, 1, [], 0),
  (58, .iand, 1, [], 0),
  (59, .istore 4, 2, [], 0),
  (61, .goto 49, 3, [], 0),
  (64, .aload 6, 2, [], 0),
  (66, .getstatic 54, 3, [2], 26),
  (69, .if_acmp .ne 17, 3, [], 0),
  (72, .iload 4, 2, [], 0),
  (74, .iconst 1, 1, [], 0),
  (75, .iushr, 1, [], 0),
  (76, .iload 4, 2, [], 0),
  (78, .iconst 1, 1, [], 0),
  (79, .iand, 1, [], 0),
  (80, .ior, 1, [], 0),
  (81, .istore 4, 2, [], 0),
  (83, .goto 27, 3, [], 0),
  (86, .iload 4, 2, [], 0),
  (88, .iconst 1, 1, [], 0),
  (89, .ishl, 1, [], 0),
  (90, .aload_n 0, 1, [], 0),
  (91, .aload_n 1, 1, [], 0),
  (92, .aload_n 2, 1, [], 0),
  (93, .iload_n 3, 1, [], 0),
  (94, .iload 5, 2, [], 0),
  (96, .invokevirtual 131, 3, [0, 78, 5, 0, 17], 0),
  (99, .ifCond .eq 7, 3, [], 0),
  (102, .iconst 1, 1, [], 0),
  (103, .goto 4, 3, [], 0),
  (106, .iconst 0, 1, [], 0),
  (107, .ior, 1, [], 0),
  (108, .istore 4, 2, [], 0),
  (110, .iinc 5 1, 3, [], 0),
  (113, .goto (-107), 3, [], 0),
  (116, .iload 4, 2, [], 0),
  (118, .iconst 1, 1, [], 0),
  (119, .iand, 1, [], 0),
  (120, .iconst 1, 1, [], 0),
  (121, .if_icmp .ne 7, 3, [], 0),
  (124, .iconst 1, 1, [], 0),
  (125, .goto 4, 3, [], 0),
  (128, .iconst 0, 1, [], 0),
  (129, .ireturn, 1, [5], 0)]
/-- 78: HiccupTown$Sentence.holdsAlone(LHiccupTown$Plan;LHiccupTown$Moment;II)Z -/
def T_X7_holdsAlone : List mm_E := [(0, .aload_n 0, 1, [], 0),
  (1, .getfield 13, 3, [17, 0, 3, 32, 1], 0),
  (4, .iload 4, 2, [], 0),
  (6, .aaload, 1, [], 0),
  (7, .astore 5, 2, [], 0),
  (9, .aload 5, 2, [], 0),
  (11, .getstatic 86, 3, [2], 17),
  (14, .if_acmp .ne 9, 3, [], 0),
  (17, .aload_n 2, 1, [], 0),
  (18, .iload_n 3, 1, [], 0),
  (19, .invokevirtual 135, 3, [0, 17, 2, 0, 12], 0),
  (22, .ireturn, 1, [5], 0),
  (23, .aload 5, 2, [], 0),
  (25, .getstatic 89, 3, [2], 31),
  (28, .if_acmp .ne 10, 3, [], 0),
  (31, .aload_n 2, 1, [], 0),
  (32, .aload_n 1, 1, [], 0),
  (33, .iload_n 3, 1, [], 0),
  (34, .invokevirtual 140, 3, [0, 23, 3, 0, 12], 0),
  (37, .ireturn, 1, [5], 0),
  (38, .aload 5, 2, [], 0),
  (40, .getstatic 92, 3, [2], 29),
  (43, .if_acmp .ne 45, 3, [], 0),
  (46, .aload_n 1, 1, [], 0),
  (47, .iconst 2, 1, [], 0),
  (48, .aload_n 0, 1, [], 0),
  (49, .getfield 20, 3, [17, 2, 3, 26, 3], 0),
  (52, .iload 4, 2, [], 0),
  (54, .iaload, 1, [], 0),
  (55, .invokevirtual 144, 3, [0, 51, 3, 0, 14], 0),
  (58, .ifCond .eq 28, 3, [], 0),
  (61, .aload_n 2, 1, [], 0),
  (62, .getfield 150, 3, [12, 6, 3, 25, 1], 0),
  (65, .iload_n 3, 1, [], 0),
  (66, .iaload, 1, [], 0),
  (67, .aload_n 1, 1, [], 0),
  (68, .getfield 153, 3, [14, 7, 3, 24, 6], 0),
  (71, .aload_n 0, 1, [], 0),
  (72, .getfield 20, 3, [17, 2, 3, 26, 3], 0),
  (75, .iload 4, 2, [], 0),
  (77, .iaload, 1, [], 0),
  (78, .iaload, 1, [], 0),
  (79, .if_icmp .ne 7, 3, [], 0),
  (82, .iconst 1, 1, [], 0),
  (83, .goto 4, 3, [], 0),
  (86, .iconst 0, 1, [], 0),
  (87, .ireturn, 1, [5], 0),
  (88, .aload 5, 2, [], 0),
  (90, .getstatic 95, 3, [2], 30),
  (93, .if_acmp .ne 45, 3, [], 0),
  (96, .aload_n 1, 1, [], 0),
  (97, .iconst 1, 1, [], 0),
  (98, .aload_n 0, 1, [], 0),
  (99, .getfield 20, 3, [17, 2, 3, 26, 3], 0),
  (102, .iload 4, 2, [], 0),
  (104, .iaload, 1, [], 0),
  (105, .invokevirtual 144, 3, [0, 51, 3, 0, 14], 0),
  (108, .ifCond .eq 28, 3, [], 0),
  (111, .aload_n 2, 1, [], 0),
  (112, .getfield 150, 3, [12, 6, 3, 25, 1], 0),
  (115, .iload_n 3, 1, [], 0),
  (116, .iaload, 1, [], 0),
  (117, .aload_n 2, 1, [], 0),
  (118, .getfield 150, 3, [12, 6, 3, 25, 1], 0),
  (121, .aload_n 0, 1, [], 0),
  (122, .getfield 20, 3, [17, 2, 3, 26, 3], 0),
  (125, .iload 4, 2, [], 0),
  (127, .iaload, 1, [], 0),
  (128, .iaload, 1, [], 0),
  (129, .if_icmp .ne 7, 3, [], 0),
  (132, .iconst 1, 1, [], 0),
  (133, .goto 4, 3, [], 0),
  (136, .iconst 0, 1, [], 0),
  (137, .ireturn, 1, [5], 0),
  (138, .aload_n 1, 1, [], 0),
  (139, .aload_n 2, 1, [], 0),
  (140, .iload_n 3, 1, [], 0),
  (141, .aload 5, 2, [], 0),
  (143, .invokestatic 156, 3, [0, 79, 4, 0], 0),
  (146, .aload_n 0, 1, [], 0),
  (147, .getfield 17, 3, [17, 1, 3, 32, 2], 0),
  (150, .iload 4, 2, [], 0),
  (152, .aaload, 1, [], 0),
  (153, .aload_n 0, 1, [], 0),
  (154, .getfield 20, 3, [17, 2, 3, 26, 3], 0),
  (157, .iload 4, 2, [], 0),
  (159, .iaload, 1, [], 0),
  (160, .invokestatic 160, 3, [0, 80, 3, 0], 0),
  (163, .ireturn, 1, [5], 0)]
/-- 79: HiccupTown$Sentence.measure(LHiccupTown$Plan;LHiccupTown$Moment;ILHiccupTown$Word;)I -/
def T_X7_measure : List mm_E := [(0, .aload_n 3, 1, [], 0),
  (1, .getstatic 106, 3, [2], 32),
  (4, .if_acmp .ne 10, 3, [], 0),
  (7, .aload_n 1, 1, [], 0),
  (8, .getfield 150, 3, [12, 6, 3, 25, 1], 0),
  (11, .iload_n 2, 1, [], 0),
  (12, .iaload, 1, [], 0),
  (13, .ireturn, 1, [], 0),
  (14, .aload_n 3, 1, [], 0),
  (15, .getstatic 109, 3, [2], 33),
  (18, .if_acmp .ne 10, 3, [], 0),
  (21, .aload_n 0, 1, [], 0),
  (22, .getfield 164, 3, [14, 6, 3, 25, 5], 0),
  (25, .iload_n 2, 1, [], 0),
  (26, .iaload, 1, [], 0),
  (27, .ireturn, 1, [], 0),
  (28, .aload_n 3, 1, [], 0),
  (29, .getstatic 112, 3, [2], 34),
  (32, .if_acmp .ne 12, 3, [], 0),
  (35, .aload_n 1, 1, [], 0),
  (36, .getfield 167, 3, [12, 7, 3, 25, 2], 0),
  (39, .iload_n 2, 1, [], 0),
  (40, .iaload, 1, [], 0),
  (41, .goto 4, 3, [], 0),
  (44, .iload_n 2, 1, [], 0),
  (45, .ireturn, 1, [], 0)]
/-- 80: HiccupTown$Sentence.compares(ILHiccupTown$Word;I)Z -/
def T_X7_compares : List mm_E := [(0, .aload_n 1, 1, [], 0),
  (1, .getstatic 118, 3, [2], 5),
  (4, .if_acmp .ne 14, 3, [], 0),
  (7, .iload_n 0, 1, [], 0),
  (8, .iload_n 2, 1, [], 0),
  (9, .if_icmp .ge 7, 3, [], 0),
  (12, .iconst 1, 1, [], 0),
  (13, .goto 4, 3, [], 0),
  (16, .iconst 0, 1, [], 0),
  (17, .ireturn, 1, [5], 0),
  (18, .aload_n 1, 1, [], 0),
  (19, .getstatic 121, 3, [2], 6),
  (22, .if_acmp .ne 16, 3, [], 0),
  (25, .iload_n 0, 1, [], 0),
  (26, .iload_n 2, 1, [], 0),
  (27, .if_icmp .ne 7, 3, [], 0),
  (30, .iconst 1, 1, [], 0),
  (31, .goto 17, 3, [], 0),
  (34, .iconst 0, 1, [], 0),
  (35, .goto 13, 3, [], 0),
  (38, .iload_n 0, 1, [], 0),
  (39, .iload_n 2, 1, [], 0),
  (40, .if_icmp .le 7, 3, [], 0),
  (43, .iconst 1, 1, [], 0),
  (44, .goto 4, 3, [], 0),
  (47, .iconst 0, 1, [], 0),
  (48, .ireturn, 1, [5], 0)]
/-- 81: HiccupTown$Tape.append(I)V -/
def T_X8_append : List mm_E := [(0, .bipush 24, 2, [], 0),
  (2, .istore_n 2, 1, [], 0),
  (3, .iload_n 2, 1, [], 0),
  (4, .ifCond .lt 42, 3, [], 0),
  (7, .aload_n 0, 1, [], 0),
  (8, .getfield 24, 3, [18, 1, 0], 0),
  (11, .sipush 940, 3, [], 0),
  (14, .if_icmp .ge 26, 3, [], 0),
  (17, .aload_n 0, 1, [], 0),
  (18, .getfield 9, 3, [18, 0, 3, 29, 1], 0),
  (21, .aload_n 0, 1, [], 0),
  (22, .getfield 24, 3, [18, 1, 0], 0),
  (25, .iload_n 1, 1, [], 0),
  (26, .iload_n 2, 1, [], 0),
  (27, .iushr, 1, [], 0),
  (28, .i2b, 1, [], 0),
  (29, .bastore, 1, [], 0),
  (30, .aload_n 0, 1, [], 0),
  (31, .dup, 1, [], 0),
  (32, .getfield 24, 3, [18, 1, 0], 0),
  (35, .iconst 1, 1, [], 0),
  (36, .iadd, 1, [], 0),
  (37, .putfield 24, 3, [18, 1, 0], 0),
  (40, .iinc 2 (-8), 3, [], 0),
  (43, .goto (-40), 3, [], 0),
  (46, .return_, 1, [], 0)]
/-- 82: HiccupTown$Tape.get(I)I -/
def T_X8_get : List mm_E := [(0, .iload_n 1, 1, [], 0),
  (1, .ifCond .lt 18, 3, [], 0),
  (4, .iload_n 1, 1, [], 0),
  (5, .aload_n 0, 1, [], 0),
  (6, .getfield 24, 3, [18, 1, 0], 0),
  (9, .if_icmp .ge 10, 3, [], 0),
  (12, .iload_n 1, 1, [], 0),
  (13, .sipush 940, 3, [], 0),
  (16, .if_icmp .lt 7, 3, [], 0),
  (19, .iconst 0, 1, [], 0),
  (20, .goto 13, 3, [], 0),
  (23, .aload_n 0, 1, [], 0),
  (24, .getfield 9, 3, [18, 0, 3, 29, 1], 0),
  (27, .iload_n 1, 1, [], 0),
  (28, .baload, 1, [], 0),
  (29, .sipush 255, 3, [], 0),
  (32, .iand, 1, [], 0),
  (33, .ireturn, 1, [], 0)]
/-- 83: HiccupTown$Tape.beginText(I)V -/
def T_X8_beginText : List mm_E := [(0, .aload_n 0, 1, [], 0),
  (1, .iload_n 1, 1, [], 0),
  (2, .putfield 28, 3, [18, 2, 0], 0),
  (5, .aload_n 0, 1, [], 0),
  (6, .iconst 0, 1, [], 0),
  (7, .putfield 31, 3, [18, 3, 0], 0),
  (10, .aload_n 0, 1, [], 0),
  (11, .iconst 0, 1, [], 0),
  (12, .putfield 34, 3, [18, 8, 0], 0),
  (15, .aload_n 0, 1, [], 0),
  (16, .iconst 0, 1, [], 0),
  (17, .putfield 37, 3, [18, 9, 0], 0),
  (20, .aload_n 0, 1, [], 0),
  (21, .invokevirtual 40, 3, [0, 84, 1, 8, 18], 0),
  (24, .return_, 1, [], 0)]
/-- 84: HiccupTown$Tape.advance()V -/
def T_X8_advance : List mm_E := [(0, .aload_n 0, 1, [], 0),
  (1, .invokevirtual 43, 3, [0, 85, 1, 8, 18], 0),
  (4, .aload_n 0, 1, [], 0),
  (5, .aload_n 0, 1, [], 0),
  (6, .getfield 31, 3, [18, 3, 0], 0),
  (9, .putfield 46, 3, [18, 5, 0], 0),
  (12, .aload_n 0, 1, [], 0),
  (13, .iconst 0, 1, [], 0),
  (14, .putfield 49, 3, [18, 6, 0], 0),
  (17, .aload_n 0, 1, [], 0),
  (18, .lconst 0, 1, [], 0),
  (19, .putfield 52, 3, [18, 7, 1], 0),
  (22, .aload_n 0, 1, [], 0),
  (23, .getfield 24, 3, [18, 1, 0], 0),
  (26, .aload_n 0, 1, [], 0),
  (27, .getfield 28, 3, [18, 2, 0], 0),
  (30, .if_icmp .le 32, 3, [], 0),
  (33, .aload_n 0, 1, [], 0),
  (34, .getfield 31, 3, [18, 3, 0], 0),
  (37, .aload_n 0, 1, [], 0),
  (38, .getfield 28, 3, [18, 2, 0], 0),
  (41, .if_icmp .lt 21, 3, [], 0),
  (44, .aload_n 0, 1, [], 0),
  (45, .getstatic 56, 3, [2], 1),
  (48, .putfield 21, 3, [18, 4, 2], 0),
  (51, .aload_n 0, 1, [], 0),
  (52, .aload_n 0, 1, [], 0),
  (53, .getfield 28, 3, [18, 2, 0], 0),
  (56, .putfield 46, 3, [18, 5, 0], 0),
  (59, .goto 43, 3, [], 0),
  (62, .aload_n 0, 1, [], 0),
  (63, .getfield 31, 3, [18, 3, 0], 0),
  (66, .aload_n 0, 1, [], 0),
  (67, .getfield 24, 3, [18, 1, 0], 0),
  (70, .if_icmp .lt 13, 3, [], 0),
  (73, .aload_n 0, 1, [], 0),
  (74, .getstatic 15, 3, [2], 0),
  (77, .putfield 21, 3, [18, 4, 2], 0),
  (80, .goto 22, 3, [], 0),
  (83, .aload_n 0, 1, [], 0),
  (84, .invokevirtual 59, 3, [0, 86, 1, 8, 18], 0),
  (87, .aload_n 0, 1, [], 0),
  (88, .aload_n 0, 1, [], 0),
  (89, .getfield 52, 3, [18, 7, 1], 0),
  (92, .aload_n 0, 1, [], 0),
  (93, .getfield 21, 3, [18, 4, 2], 0),
  (96, .invokestatic 62, 3, [0, 104, 2, 2], 0),
  (99, .putfield 21, 3, [18, 4, 2], 0),
  (102, .return_, 1, [], 0)]
/-- 85: HiccupTown$Tape.skipBlanks()V -/
def T_X8_skipBlanks : List mm_E := [(0, .aload_n 0, 1, [], 0),
  (1, .getfield 31, 3, [18, 3, 0], 0),
  (4, .aload_n 0, 1, [], 0),
  (5, .getfield 24, 3, [18, 1, 0], 0),
  (8, .if_icmp .ge 44, 3, [], 0),
  (11, .aload_n 0, 1, [], 0),
  (12, .getfield 9, 3, [18, 0, 3, 29, 1], 0),
  (15, .aload_n 0, 1, [], 0),
  (16, .getfield 31, 3, [18, 3, 0], 0),
  (19, .baload, 1, [], 0),
  (20, .bipush 32, 2, [], 0),
  (22, .if_icmp .eq 17, 3, [], 0),
  (25, .aload_n 0, 1, [], 0),
  (26, .getfield 9, 3, [18, 0, 3, 29, 1], 0),
  (29, .aload_n 0, 1, [], 0),
  (30, .getfield 31, 3, [18, 3, 0], 0),
  (33, .baload, 1, [], 0),
  (34, .bipush 10, 2, [], 0),
  (36, .if_icmp .ne 16, 3, [], 0),
  (39, .aload_n 0, 1, [], 0),
  (40, .dup, 1, [], 0),
  (41, .getfield 31, 3, [18, 3, 0], 0),
  (44, .iconst 1, 1, [], 0),
  (45, .iadd, 1, [], 0),
  (46, .putfield 31, 3, [18, 3, 0], 0),
  (49, .goto (-49), 3, [], 0),
  (52, .return_, 1, [], 0)]
/-- 86: HiccupTown$Tape.readToken()V -/
def T_X8_readToken : List mm_E := [(0, .iconst 0, 1, [], 0),
  (1, .istore_n 1, 1, [], 0),
  (2, .iconst 0, 1, [], 0),
  (3, .istore_n 2, 1, [], 0),
  (4, .aload_n 0, 1, [], 0),
  (5, .getfield 31, 3, [18, 3, 0], 0),
  (8, .aload_n 0, 1, [], 0),
  (9, .getfield 24, 3, [18, 1, 0], 0),
  (12, .if_icmp .ge 59, 3, [], 0),
  (15, .aload_n 0, 1, [], 0),
  (16, .getfield 9, 3, [18, 0, 3, 29, 1], 0),
  (19, .aload_n 0, 1, [], 0),
  (20, .getfield 31, 3, [18, 3, 0], 0),
  (23, .baload, 1, [], 0),
  (24, .istore_n 3, 1, [], 0),
  (25, .iload_n 3, 1, [], 0),
  (26, .bipush 97, 2, [], 0),
  (28, .if_icmp .lt 15, 3, [], 0),
  (31, .iload_n 3, 1, [], 0),
  (32, .bipush 122, 2, [], 0),
  (34, .if_icmp .gt 9, 3, [], 0),
  (37, .iinc 1 1, 3, [], 0),
  (40, .goto 18, 3, [], 0),
  (43, .iload_n 3, 1, [], 0),
  (44, .bipush 48, 2, [], 0),
  (46, .if_icmp .lt 25, 3, [], 0),
  (49, .iload_n 3, 1, [], 0),
  (50, .bipush 57, 2, [], 0),
  (52, .if_icmp .gt 19, 3, [], 0),
  (55, .iinc 2 1, 3, [], 0),
  (58, .aload_n 0, 1, [], 0),
  (59, .dup, 1, [], 0),
  (60, .getfield 31, 3, [18, 3, 0], 0),
  (63, .iconst 1, 1, [], 0),
  (64, .iadd, 1, [], 0),
  (65, .putfield 31, 3, [18, 3, 0], 0),
  (68, .goto (-64), 3, [], 0),
  (71, .iload_n 1, 1, [], 0),
  (72, .ifCond .ne 40, 3, [], 0),
  (75, .iload_n 2, 1, [], 0),
  (76, .ifCond .ne 36, 3, [], 0),
  (79, .aload_n 0, 1, [], 0),
  (80, .aload_n 0, 1, [], 0),
  (81, .aload_n 0, 1, [], 0),
  (82, .getfield 31, 3, [18, 3, 0], 0),
  (85, .invokevirtual 66, 3, [0, 82, 2, 0, 18], 0),
  (88, .i2l, 1, [], 0),
  (89, .putfield 52, 3, [18, 7, 1], 0),
  (92, .aload_n 0, 1, [], 0),
  (93, .getstatic 56, 3, [2], 1),
  (96, .putfield 21, 3, [18, 4, 2], 0),
  (99, .aload_n 0, 1, [], 0),
  (100, .dup, 1, [], 0),
  (101, .getfield 31, 3, [18, 3, 0], 0),
  (104, .iconst 1, 1, [], 0),
  (105, .iadd, 1, [], 0),
  (106, .putfield 31, 3, [18, 3, 0], 0),
  (109, .goto 57, 3, [], 0),
  (112, .iload_n 2, 1, [], 0),
  (113, .ifCond .ne 23, 3, [], 0),
  (116, .iload_n 1, 1, [], 0),
  (117, .bipush 7, 2, [], 0),
  (119, .if_icmp .gt 17, 3, [], 0),
  (122, .aload_n 0, 1, [], 0),
  (123, .invokevirtual 70, 3, [0, 87, 1, 8, 18], 0),
  (126, .aload_n 0, 1, [], 0),
  (127, .getstatic 73, 3, [2], 2),
  (130, .putfield 21, 3, [18, 4, 2], 0),
  (133, .goto 33, 3, [], 0),
  (136, .iload_n 1, 1, [], 0),
  (137, .ifCond .ne 22, 3, [], 0),
  (140, .iload_n 2, 1, [], 0),
  (141, .iconst 3, 1, [], 0),
  (142, .if_icmp .gt 17, 3, [], 0),
  (145, .aload_n 0, 1, [], 0),
  (146, .invokevirtual 76, 3, [0, 88, 1, 8, 18], 0),
  (149, .aload_n 0, 1, [], 0),
  (150, .getstatic 79, 3, [2], 3),
  (153, .putfield 21, 3, [18, 4, 2], 0),
  (156, .goto 10, 3, [], 0),
  (159, .aload_n 0, 1, [], 0),
  (160, .getstatic 56, 3, [2], 1),
  (163, .putfield 21, 3, [18, 4, 2], 0),
  (166, .return_, 1, [], 0)]
/-- 87: HiccupTown$Tape.joinLetters()V -/
def T_X8_joinLetters : List mm_E := [(0, .aload_n 0, 1, [], 0),
  (1, .getfield 46, 3, [18, 5, 0], 0),
  (4, .istore_n 1, 1, [], 0),
  (5, .iload_n 1, 1, [], 0),
  (6, .aload_n 0, 1, [], 0),
  (7, .getfield 31, 3, [18, 3, 0], 0),
  (10, .if_icmp .ge 28, 3, [], 0),
  (13, .aload_n 0, 1, [], 0),
  (14, .aload_n 0, 1, [], 0),
  (15, .getfield 52, 3, [18, 7, 1], 0),
  (18, .bipush 8, 2, [], 0),
  (20, .lshl, 1, [], 0),
  (21, .aload_n 0, 1, [], 0),
  (22, .getfield 9, 3, [18, 0, 3, 29, 1], 0),
  (25, .iload_n 1, 1, [], 0),
  (26, .baload, 1, [], 0),
  (27, .i2l, 1, [], 0),
  (28, .lor, 1, [], 0),
  (29, .putfield 52, 3, [18, 7, 1], 0),
  (32, .iinc 1 1, 3, [], 0),
  (35, .goto (-30), 3, [], 0),
  (38, .return_, 1, [], 0)]
/-- 88: HiccupTown$Tape.joinDigits()V -/
def T_X8_joinDigits : List mm_E := [(0, .aload_n 0, 1, [], 0),
  (1, .getfield 46, 3, [18, 5, 0], 0),
  (4, .istore_n 1, 1, [], 0),
  (5, .iload_n 1, 1, [], 0),
  (6, .aload_n 0, 1, [], 0),
  (7, .getfield 31, 3, [18, 3, 0], 0),
  (10, .if_icmp .ge 30, 3, [], 0),
  (13, .aload_n 0, 1, [], 0),
  (14, .aload_n 0, 1, [], 0),
  (15, .getfield 49, 3, [18, 6, 0], 0),
  (18, .bipush 10, 2, [], 0),
  (20, .imul, 1, [], 0),
  (21, .aload_n 0, 1, [], 0),
  (22, .getfield 9, 3, [18, 0, 3, 29, 1], 0),
  (25, .iload_n 1, 1, [], 0),
  (26, .baload, 1, [], 0),
  (27, .iadd, 1, [], 0),
  (28, .bipush 48, 2, [], 0),
  (30, .isub, 1, [], 0),
  (31, .putfield 49, 3, [18, 6, 0], 0),
  (34, .iinc 1 1, 3, [], 0),
  (37, .goto (-32), 3, [], 0),
  (40, .return_, 1, [], 0)]
/-- 89: HiccupTown$Tape.failAt(II)Z -/
def T_X8_failAt : List mm_E := [(0, .aload_n 0, 1, [], 0),
  (1, .getfield 34, 3, [18, 8, 0], 0),
  (4, .ifCond .ne 13, 3, [], 0),
  (7, .aload_n 0, 1, [], 0),
  (8, .iload_n 1, 1, [], 0),
  (9, .putfield 34, 3, [18, 8, 0], 0),
  (12, .aload_n 0, 1, [], 0),
  (13, .iload_n 2, 1, [], 0),
  (14, .putfield 37, 3, [18, 9, 0], 0),
  (17, .iconst 0, 1, [], 0),
  (18, .ireturn, 1, [5], 0)]
/-- 90: HiccupTown$Tape.fail(I)Z -/
def T_X8_fail : List mm_E := [(0, .aload_n 0, 1, [], 0),
  (1, .iload_n 1, 1, [], 0),
  (2, .aload_n 0, 1, [], 0),
  (3, .getfield 46, 3, [18, 5, 0], 0),
  (6, .invokevirtual 82, 3, [0, 89, 3, 0, 18], 0),
  (9, .ireturn, 1, [5], 0)]
/-- 91: HiccupTown$Tape.take(LHiccupTown$Word;)Z -/
def T_X8_take : List mm_E := [(0, .aload_n 0, 1, [], 0),
  (1, .getfield 21, 3, [18, 4, 2], 0),
  (4, .aload_n 1, 1, [], 0),
  (5, .if_acmp .eq 9, 3, [], 0),
  (8, .aload_n 0, 1, [], 0),
  (9, .iconst 1, 1, [], 0),
  (10, .invokevirtual 86, 3, [0, 90, 2, 0, 18], 0),
  (13, .ireturn, 1, [5], 0),
  (14, .aload_n 0, 1, [], 0),
  (15, .invokevirtual 40, 3, [0, 84, 1, 8, 18], 0),
  (18, .iconst 1, 1, [], 0),
  (19, .ireturn, 1, [5], 0)]
/-- 92: HiccupTown$Tape.takeNumber(II)I -/
def T_X8_takeNumber : List mm_E := [(0, .aload_n 0, 1, [], 0),
  (1, .getfield 21, 3, [18, 4, 2], 0),
  (4, .getstatic 79, 3, [2], 3),
  (7, .if_acmp .eq 11, 3, [], 0),
  (10, .aload_n 0, 1, [], 0),
  (11, .iconst 1, 1, [], 0),
  (12, .invokevirtual 86, 3, [0, 90, 2, 0, 18], 0),
  (15, .pop, 1, [], 0),
  (16, .iconst (-1), 1, [], 0),
  (17, .ireturn, 1, [], 0),
  (18, .aload_n 0, 1, [], 0),
  (19, .getfield 49, 3, [18, 6, 0], 0),
  (22, .iload_n 1, 1, [], 0),
  (23, .if_icmp .lt 11, 3, [], 0),
  (26, .aload_n 0, 1, [], 0),
  (27, .getfield 49, 3, [18, 6, 0], 0),
  (30, .iload_n 2, 1, [], 0),
  (31, .if_icmp .le 11, 3, [], 0),
  (34, .aload_n 0, 1, [], 0),
  (35, .iconst 2, 1, [], 0),
  (36, .invokevirtual 86, 3, [0, 90, 2, 0, 18], 0),
  (39, .pop, 1, [], 0),
  (40, .iconst (-1), 1, [], 0),
  (41, .ireturn, 1, [], 0),
  (42, .aload_n 0, 1, [], 0),
  (43, .getfield 49, 3, [18, 6, 0], 0),
  (46, .istore_n 3, 1, [], 0),
  (47, .aload_n 0, 1, [], 0),
  (48, .invokevirtual 40, 3, [0, 84, 1, 8, 18], 0),
  (51, .iload_n 3, 1, [], 0),
  (52, .ireturn, 1, [], 0)]
/-- 93: HiccupTown$Tape.takeOneOf(LHiccupTown$Plan;I)I -/
def T_X8_takeOneOf : List mm_E := [(0, .aload_n 0, 1, [], 0),
  (1, .getfield 21, 3, [18, 4, 2], 0),
  (4, .getstatic 73, 3, [2], 2),
  (7, .if_acmp .eq 11, 3, [], 0),
  (10, .aload_n 0, 1, [], 0),
  (11, .iconst 1, 1, [], 0),
  (12, .invokevirtual 86, 3, [0, 90, 2, 0, 18], 0),
  (15, .pop, 1, [], 0),
  (16, .iconst (-1), 1, [], 0),
  (17, .ireturn, 1, [], 0),
  (18, .aload_n 1, 1, [], 0),
  (19, .iload_n 2, 1, [], 0),
  (20, .aload_n 0, 1, [], 0),
  (21, .getfield 52, 3, [18, 7, 1], 0),
  (24, .invokevirtual 90, 3, [0, 58, 3, 0, 14], 0),
  (27, .istore_n 3, 1, [], 0),
  (28, .iload_n 3, 1, [], 0),
  (29, .iconst (-1), 1, [], 0),
  (30, .if_icmp .ne 11, 3, [], 0),
  (33, .aload_n 0, 1, [], 0),
  (34, .iconst 3, 1, [], 0),
  (35, .invokevirtual 86, 3, [0, 90, 2, 0, 18], 0),
  (38, .pop, 1, [], 0),
  (39, .iconst (-1), 1, [], 0),
  (40, .ireturn, 1, [], 0),
  (41, .aload_n 0, 1, [], 0),
  (42, .invokevirtual 40, 3, [0, 84, 1, 8, 18], 0),
  (45, .iload_n 3, 1, [], 0),
  (46, .ireturn, 1, [], 0)]
/-- 94: HiccupTown$TownReader.readTown(LHiccupTown$Tape;)I -/
def T_X9_readTown : List mm_E := [(0, .aload_n 0, 1, [], 0),
  (1, .getfield 12, 3, [19, 0, 3, 14, 1], 0),
  (4, .invokevirtual 18, 3, [0, 49, 1, 8, 14], 0),
  (7, .aload_n 0, 1, [], 0),
  (8, .iconst 0, 1, [], 0),
  (9, .putfield 21, 3, [19, 1, 5], 0),
  (12, .aload_n 0, 1, [], 0),
  (13, .iconst 0, 1, [], 0),
  (14, .putfield 25, 3, [19, 2, 5], 0),
  (17, .iconst 0, 1, [], 0),
  (18, .istore_n 2, 1, [], 0),
  (19, .iload_n 2, 1, [], 0),
  (20, .sipush 940, 3, [], 0),
  (23, .if_icmp .ge 41, 3, [], 0),
  (26, .aload_n 1, 1, [], 0),
  (27, .getfield 28, 3, [18, 4, 2], 0),
  (30, .getstatic 34, 3, [2], 0),
  (33, .if_acmp .ne 5, 3, [], 0),
  (36, .iload_n 2, 1, [], 0),
  (37, .ireturn, 1, [], 0),
  (38, .aload_n 0, 1, [], 0),
  (39, .aload_n 1, 1, [], 0),
  (40, .invokevirtual 39, 3, [0, 95, 2, 0, 19], 0),
  (43, .ifCond .eq 13, 3, [], 0),
  (46, .aload_n 1, 1, [], 0),
  (47, .getstatic 43, 3, [2], 4),
  (50, .invokevirtual 46, 3, [0, 91, 2, 0, 18], 0),
  (53, .ifCond .ne 5, 3, [], 0),
  (56, .iconst (-1), 1, [], 0),
  (57, .ireturn, 1, [], 0),
  (58, .iinc 2 1, 3, [], 0),
  (61, .goto (-42), 3, [], 0),
  (64, .iconst (-1), 1, [], 0),
  (65, .ireturn, 1, [], 0)]
/-- 95: HiccupTown$TownReader.readLine(LHiccupTown$Tape;)Z -/
def T_X9_readLine : List mm_E := [(0, .aload_n 1, 1, [], 0),
  (1, .getfield 28, 3, [18, 4, 2], 0),
  (4, .astore_n 2, 1, [], 0),
  (5, .aload_n 2, 1, [], 0),
  (6, .getstatic 50, 3, [2], 10),
  (9, .if_acmp .ne 9, 3, [], 0),
  (12, .aload_n 0, 1, [], 0),
  (13, .aload_n 1, 1, [], 0),
  (14, .invokevirtual 53, 3, [0, 96, 2, 0, 19], 0),
  (17, .ireturn, 1, [5], 0),
  (18, .aload_n 2, 1, [], 0),
  (19, .getstatic 56, 3, [2], 11),
  (22, .if_acmp .ne 9, 3, [], 0),
  (25, .aload_n 0, 1, [], 0),
  (26, .aload_n 1, 1, [], 0),
  (27, .invokevirtual 59, 3, [0, 97, 2, 0, 19], 0),
  (30, .ireturn, 1, [5], 0),
  (31, .aload_n 2, 1, [], 0),
  (32, .getstatic 62, 3, [2], 12),
  (35, .if_acmp .ne 9, 3, [], 0),
  (38, .aload_n 0, 1, [], 0),
  (39, .aload_n 1, 1, [], 0),
  (40, .invokevirtual 65, 3, [0, 99, 2, 0, 19], 0),
  (43, .ireturn, 1, [5], 0),
  (44, .aload_n 2, 1, [], 0),
  (45, .getstatic 68, 3, [2], 13),
  (48, .if_acmp .ne 9, 3, [], 0),
  (51, .aload_n 0, 1, [], 0),
  (52, .aload_n 1, 1, [], 0),
  (53, .invokevirtual 71, 3, [0, 100, 2, 0, 19], 0),
  (56, .ireturn, 1, [5], 0),
  (57, .aload_n 2, 1, [], 0),
  (58, .getstatic 74, 3, [2], 14),
  (61, .if_acmp .ne 9, 3, [], 0),
  (64, .aload_n 0, 1, [], 0),
  (65, .aload_n 1, 1, [], 0),
  (66, .invokevirtual 77, 3, [0, 101, 2, 0, 19], 0),
  (69, .ireturn, 1, [5], 0),
  (70, .aload_n 2, 1, [], 0),
  (71, .getstatic 80, 3, [2], 15),
  (74, .if_acmp .ne 9, 3, [], 0),
  (77, .aload_n 0, 1, [], 0),
  (78, .aload_n 1, 1, [], 0),
  (79, .invokevirtual 83, 3, [0, 102, 2, 0, 19], 0),
  (82, .ireturn, 1, [5], 0),
  (83, .aload_n 2, 1, [], 0),
  (84, .getstatic 86, 3, [2], 16),
  (87, .if_acmp .ne 9, 3, [], 0),
  (90, .aload_n 0, 1, [], 0),
  (91, .aload_n 1, 1, [], 0),
  (92, .invokevirtual 89, 3, [0, 103, 2, 0, 19], 0),
  (95, .ireturn, 1, [5], 0),
  (96, .aload_n 1, 1, [], 0),
  (97, .iconst 1, 1, [], 0),
  (98, .invokevirtual 92, 3, [0, 90, 2, 0, 18], 0),
  (101, .ireturn, 1, [5], 0)]
/-- 96: HiccupTown$TownReader.readRing(LHiccupTown$Tape;)Z -/
def T_X9_readRing : List mm_E := [(0, .aload_n 0, 1, [], 0),
  (1, .getfield 21, 3, [19, 1, 0], 0),
  (4, .ifCond .ne 25, 3, [], 0),
  (7, .aload_n 0, 1, [], 0),
  (8, .getfield 12, 3, [19, 0, 3, 14, 1], 0),
  (11, .getfield 96, 3, [14, 2, 3, 22, 1], 0),
  (14, .iconst 1, 1, [], 0),
  (15, .iaload, 1, [], 0),
  (16, .aload_n 0, 1, [], 0),
  (17, .getfield 12, 3, [19, 0, 3, 14, 1], 0),
  (20, .getfield 96, 3, [14, 2, 3, 22, 1], 0),
  (23, .iconst 2, 1, [], 0),
  (24, .iaload, 1, [], 0),
  (25, .iadd, 1, [], 0),
  (26, .ifCond .le 9, 3, [], 0),
  (29, .aload_n 1, 1, [], 0),
  (30, .iconst 3, 1, [], 0),
  (31, .invokevirtual 92, 3, [0, 90, 2, 0, 18], 0),
  (34, .ireturn, 1, [5], 0),
  (35, .aload_n 1, 1, [], 0),
  (36, .invokevirtual 100, 3, [0, 84, 1, 8, 18], 0),
  (39, .aload_n 1, 1, [], 0),
  (40, .iconst 3, 1, [], 0),
  (41, .bipush 12, 2, [], 0),
  (43, .invokevirtual 103, 3, [0, 92, 3, 0, 18], 0),
  (46, .istore_n 2, 1, [], 0),
  (47, .iload_n 2, 1, [], 0),
  (48, .iconst (-1), 1, [], 0),
  (49, .if_icmp .ne 5, 3, [], 0),
  (52, .iconst 0, 1, [], 0),
  (53, .ireturn, 1, [5], 0),
  (54, .aload_n 0, 1, [], 0),
  (55, .getfield 12, 3, [19, 0, 3, 14, 1], 0),
  (58, .iload_n 2, 1, [], 0),
  (59, .putfield 107, 3, [14, 0, 0], 0),
  (62, .aload_n 0, 1, [], 0),
  (63, .iconst 1, 1, [], 0),
  (64, .putfield 21, 3, [19, 1, 5], 0),
  (67, .iconst 1, 1, [], 0),
  (68, .ireturn, 1, [5], 0)]
/-- 97: HiccupTown$TownReader.readGap(LHiccupTown$Tape;)Z -/
def T_X9_readGap : List mm_E := [(0, .aload_n 0, 1, [], 0),
  (1, .getfield 25, 3, [19, 2, 0], 0),
  (4, .ifCond .eq 9, 3, [], 0),
  (7, .aload_n 1, 1, [], 0),
  (8, .iconst 3, 1, [], 0),
  (9, .invokevirtual 92, 3, [0, 90, 2, 0, 18], 0),
  (12, .ireturn, 1, [5], 0),
  (13, .aload_n 1, 1, [], 0),
  (14, .invokevirtual 100, 3, [0, 84, 1, 8, 18], 0),
  (17, .aload_n 1, 1, [], 0),
  (18, .iconst 1, 1, [], 0),
  (19, .bipush 9, 2, [], 0),
  (21, .invokevirtual 103, 3, [0, 92, 3, 0, 18], 0),
  (24, .istore_n 2, 1, [], 0),
  (25, .iload_n 2, 1, [], 0),
  (26, .iconst (-1), 1, [], 0),
  (27, .if_icmp .ne 5, 3, [], 0),
  (30, .iconst 0, 1, [], 0),
  (31, .ireturn, 1, [5], 0),
  (32, .aload_n 0, 1, [], 0),
  (33, .getfield 12, 3, [19, 0, 3, 14, 1], 0),
  (36, .getfield 111, 3, [14, 4, 3, 23, 3], 0),
  (39, .iconst 0, 1, [], 0),
  (40, .iload_n 2, 1, [], 0),
  (41, .iastore, 1, [], 0),
  (42, .aload_n 0, 1, [], 0),
  (43, .iconst 1, 1, [], 0),
  (44, .putfield 25, 3, [19, 2, 5], 0),
  (47, .iconst 1, 1, [], 0),
  (48, .ireturn, 1, [5], 0)]
/-- 98: HiccupTown$TownReader.readNewOne(LHiccupTown$Tape;I)I -/
def T_X9_readNewOne : List mm_E := [(0, .aload_n 0, 1, [], 0),
  (1, .getfield 12, 3, [19, 0, 3, 14, 1], 0),
  (4, .iload_n 2, 1, [], 0),
  (5, .invokevirtual 114, 3, [0, 52, 2, 0, 14], 0),
  (8, .ifCond .eq 11, 3, [], 0),
  (11, .aload_n 1, 1, [], 0),
  (12, .iconst 4, 1, [], 0),
  (13, .invokevirtual 92, 3, [0, 90, 2, 0, 18], 0),
  (16, .pop, 1, [], 0),
  (17, .iconst (-1), 1, [], 0),
  (18, .ireturn, 1, [], 0),
  (19, .aload_n 1, 1, [], 0),
  (20, .invokevirtual 100, 3, [0, 84, 1, 8, 18], 0),
  (23, .aload_n 1, 1, [], 0),
  (24, .getfield 28, 3, [18, 4, 2], 0),
  (27, .getstatic 117, 3, [2], 2),
  (30, .if_acmp .eq 11, 3, [], 0),
  (33, .aload_n 1, 1, [], 0),
  (34, .iconst 1, 1, [], 0),
  (35, .invokevirtual 92, 3, [0, 90, 2, 0, 18], 0),
  (38, .pop, 1, [], 0),
  (39, .iconst (-1), 1, [], 0),
  (40, .ireturn, 1, [], 0),
  (41, .aload_n 0, 1, [], 0),
  (42, .getfield 12, 3, [19, 0, 3, 14, 1], 0),
  (45, .aload_n 1, 1, [], 0),
  (46, .getfield 120, 3, [18, 7, 1], 0),
  (49, .invokevirtual 124, 3, [0, 59, 2, 0, 14], 0),
  (52, .ifCond .eq 11, 3, [], 0),
  (55, .aload_n 1, 1, [], 0),
  (56, .iconst 3, 1, [], 0),
  (57, .invokevirtual 92, 3, [0, 90, 2, 0, 18], 0),
  (60, .pop, 1, [], 0),
  (61, .iconst (-1), 1, [], 0),
  (62, .ireturn, 1, [], 0),
  (63, .aload_n 0, 1, [], 0),
  (64, .getfield 12, 3, [19, 0, 3, 14, 1], 0),
  (67, .iload_n 2, 1, [], 0),
  (68, .aload_n 1, 1, [], 0),
  (69, .getfield 120, 3, [18, 7, 1], 0),
  (72, .invokevirtual 128, 3, [0, 56, 3, 0, 14], 0),
  (75, .istore_n 3, 1, [], 0),
  (76, .aload_n 1, 1, [], 0),
  (77, .invokevirtual 100, 3, [0, 84, 1, 8, 18], 0),
  (80, .iload_n 3, 1, [], 0),
  (81, .ireturn, 1, [], 0)]
/-- 99: HiccupTown$TownReader.readCousin(LHiccupTown$Tape;)Z -/
def T_X9_readCousin : List mm_E := [(0, .aload_n 0, 1, [], 0),
  (1, .aload_n 1, 1, [], 0),
  (2, .iconst 0, 1, [], 0),
  (3, .invokevirtual 132, 3, [0, 98, 3, 0, 19], 0),
  (6, .istore_n 2, 1, [], 0),
  (7, .aload_n 1, 1, [], 0),
  (8, .iconst 1, 1, [], 0),
  (9, .bipush 9, 2, [], 0),
  (11, .invokevirtual 103, 3, [0, 92, 3, 0, 18], 0),
  (14, .istore_n 3, 1, [], 0),
  (15, .iload_n 2, 1, [], 0),
  (16, .iconst (-1), 1, [], 0),
  (17, .if_icmp .eq 8, 3, [], 0),
  (20, .iload_n 3, 1, [], 0),
  (21, .iconst (-1), 1, [], 0),
  (22, .if_icmp .ne 5, 3, [], 0),
  (25, .iconst 0, 1, [], 0),
  (26, .ireturn, 1, [5], 0),
  (27, .aload_n 0, 1, [], 0),
  (28, .getfield 12, 3, [19, 0, 3, 14, 1], 0),
  (31, .getfield 111, 3, [14, 4, 3, 23, 3], 0),
  (34, .iconst 1, 1, [], 0),
  (35, .iload_n 2, 1, [], 0),
  (36, .iadd, 1, [], 0),
  (37, .iload_n 3, 1, [], 0),
  (38, .iastore, 1, [], 0),
  (39, .iconst 1, 1, [], 0),
  (40, .ireturn, 1, [5], 0)]
/-- 100: HiccupTown$TownReader.readPerson(LHiccupTown$Tape;)Z -/
def T_X9_readPerson : List mm_E := [(0, .aload_n 0, 1, [], 0),
  (1, .aload_n 1, 1, [], 0),
  (2, .iconst 1, 1, [], 0),
  (3, .invokevirtual 132, 3, [0, 98, 3, 0, 19], 0),
  (6, .istore_n 2, 1, [], 0),
  (7, .aload_n 1, 1, [], 0),
  (8, .iconst 0, 1, [], 0),
  (9, .aload_n 0, 1, [], 0),
  (10, .getfield 12, 3, [19, 0, 3, 14, 1], 0),
  (13, .getfield 107, 3, [14, 0, 0], 0),
  (16, .iconst 1, 1, [], 0),
  (17, .isub, 1, [], 0),
  (18, .invokevirtual 103, 3, [0, 92, 3, 0, 18], 0),
  (21, .istore_n 3, 1, [], 0),
  (22, .aload_n 1, 1, [], 0),
  (23, .iconst 1, 1, [], 0),
  (24, .iconst 3, 1, [], 0),
  (25, .invokevirtual 103, 3, [0, 92, 3, 0, 18], 0),
  (28, .istore 4, 2, [], 0),
  (30, .iload_n 2, 1, [], 0),
  (31, .iconst (-1), 1, [], 0),
  (32, .if_icmp .eq 14, 3, [], 0),
  (35, .iload_n 3, 1, [], 0),
  (36, .iconst (-1), 1, [], 0),
  (37, .if_icmp .eq 9, 3, [], 0),
  (40, .iload 4, 2, [], 0),
  (42, .iconst (-1), 1, [], 0),
  (43, .if_icmp .ne 5, 3, [], 0),
  (46, .iconst 0, 1, [], 0),
  (47, .ireturn, 1, [5], 0),
  (48, .aload_n 0, 1, [], 0),
  (49, .getfield 12, 3, [19, 0, 3, 14, 1], 0),
  (52, .getfield 136, 3, [14, 5, 3, 25, 4], 0),
  (55, .iload_n 2, 1, [], 0),
  (56, .iload_n 3, 1, [], 0),
  (57, .iastore, 1, [], 0),
  (58, .aload_n 0, 1, [], 0),
  (59, .getfield 12, 3, [19, 0, 3, 14, 1], 0),
  (62, .getfield 139, 3, [14, 6, 3, 25, 5], 0),
  (65, .iload_n 2, 1, [], 0),
  (66, .iload 4, 2, [], 0),
  (68, .iastore, 1, [], 0),
  (69, .aload_n 1, 1, [], 0),
  (70, .getfield 28, 3, [18, 4, 2], 0),
  (73, .getstatic 142, 3, [2], 17),
  (76, .if_acmp .ne 22, 3, [], 0),
  (79, .aload_n 0, 1, [], 0),
  (80, .getfield 12, 3, [19, 0, 3, 14, 1], 0),
  (83, .dup, 1, [], 0),
  (84, .getfield 145, 3, [14, 1, 0], 0),
  (87, .iconst 1, 1, [], 0),
  (88, .iload_n 2, 1, [], 0),
  (89, .ishl, 1, [], 0),
  (90, .ior, 1, [], 0),
  (91, .putfield 145, 3, [14, 1, 0], 0),
  (94, .aload_n 1, 1, [], 0),
  (95, .invokevirtual 100, 3, [0, 84, 1, 8, 18], 0),
  (98, .iconst 1, 1, [], 0),
  (99, .ireturn, 1, [5], 0)]
/-- 101: HiccupTown$TownReader.readWork(LHiccupTown$Tape;)Z -/
def T_X9_readWork : List mm_E := [(0, .aload_n 0, 1, [], 0),
  (1, .aload_n 1, 1, [], 0),
  (2, .iconst 2, 1, [], 0),
  (3, .invokevirtual 132, 3, [0, 98, 3, 0, 19], 0),
  (6, .istore_n 2, 1, [], 0),
  (7, .aload_n 1, 1, [], 0),
  (8, .iconst 0, 1, [], 0),
  (9, .aload_n 0, 1, [], 0),
  (10, .getfield 12, 3, [19, 0, 3, 14, 1], 0),
  (13, .getfield 107, 3, [14, 0, 0], 0),
  (16, .iconst 1, 1, [], 0),
  (17, .isub, 1, [], 0),
  (18, .invokevirtual 103, 3, [0, 92, 3, 0, 18], 0),
  (21, .istore_n 3, 1, [], 0),
  (22, .aload_n 1, 1, [], 0),
  (23, .iconst 1, 1, [], 0),
  (24, .bipush 30, 2, [], 0),
  (26, .invokevirtual 103, 3, [0, 92, 3, 0, 18], 0),
  (29, .istore 4, 2, [], 0),
  (31, .iload_n 2, 1, [], 0),
  (32, .iconst (-1), 1, [], 0),
  (33, .if_icmp .eq 14, 3, [], 0),
  (36, .iload_n 3, 1, [], 0),
  (37, .iconst (-1), 1, [], 0),
  (38, .if_icmp .eq 9, 3, [], 0),
  (41, .iload 4, 2, [], 0),
  (43, .iconst (-1), 1, [], 0),
  (44, .if_icmp .ne 5, 3, [], 0),
  (47, .iconst 0, 1, [], 0),
  (48, .ireturn, 1, [5], 0),
  (49, .aload_n 0, 1, [], 0),
  (50, .getfield 12, 3, [19, 0, 3, 14, 1], 0),
  (53, .getfield 148, 3, [14, 7, 3, 24, 6], 0),
  (56, .iload_n 2, 1, [], 0),
  (57, .iload_n 3, 1, [], 0),
  (58, .iastore, 1, [], 0),
  (59, .aload_n 0, 1, [], 0),
  (60, .getfield 12, 3, [19, 0, 3, 14, 1], 0),
  (63, .getfield 151, 3, [14, 8, 3, 24, 7], 0),
  (66, .iload_n 2, 1, [], 0),
  (67, .iload 4, 2, [], 0),
  (69, .iastore, 1, [], 0),
  (70, .aload_n 0, 1, [], 0),
  (71, .getfield 12, 3, [19, 0, 3, 14, 1], 0),
  (74, .getfield 154, 3, [14, 9, 3, 24, 8], 0),
  (77, .iload_n 2, 1, [], 0),
  (78, .iconst 0, 1, [], 0),
  (79, .iastore, 1, [], 0),
  (80, .iconst 1, 1, [], 0),
  (81, .ireturn, 1, [5], 0)]
/-- 102: HiccupTown$TownReader.readAfter(LHiccupTown$Tape;)Z -/
def T_X9_readAfter : List mm_E := [(0, .aload_n 1, 1, [], 0),
  (1, .invokevirtual 100, 3, [0, 84, 1, 8, 18], 0),
  (4, .aload_n 1, 1, [], 0),
  (5, .aload_n 0, 1, [], 0),
  (6, .getfield 12, 3, [19, 0, 3, 14, 1], 0),
  (9, .iconst 2, 1, [], 0),
  (10, .invokevirtual 157, 3, [0, 93, 3, 0, 18], 0),
  (13, .istore_n 2, 1, [], 0),
  (14, .aload_n 1, 1, [], 0),
  (15, .getfield 161, 3, [18, 5, 0], 0),
  (18, .istore_n 3, 1, [], 0),
  (19, .aload_n 1, 1, [], 0),
  (20, .aload_n 0, 1, [], 0),
  (21, .getfield 12, 3, [19, 0, 3, 14, 1], 0),
  (24, .iconst 2, 1, [], 0),
  (25, .invokevirtual 157, 3, [0, 93, 3, 0, 18], 0),
  (28, .istore 4, 2, [], 0),
  (30, .iload_n 2, 1, [], 0),
  (31, .iconst (-1), 1, [], 0),
  (32, .if_icmp .eq 9, 3, [], 0),
  (35, .iload 4, 2, [], 0),
  (37, .iconst (-1), 1, [], 0),
  (38, .if_icmp .ne 5, 3, [], 0),
  (41, .iconst 0, 1, [], 0),
  (42, .ireturn, 1, [5], 0),
  (43, .iload 4, 2, [], 0),
  (45, .iload_n 2, 1, [], 0),
  (46, .if_icmp .ge 20, 3, [], 0),
  (49, .aload_n 0, 1, [], 0),
  (50, .getfield 12, 3, [19, 0, 3, 14, 1], 0),
  (53, .getfield 154, 3, [14, 9, 3, 24, 8], 0),
  (56, .iload_n 2, 1, [], 0),
  (57, .iaload, 1, [], 0),
  (58, .iload 4, 2, [], 0),
  (60, .invokestatic 164, 3, [0, 152, 2, 0], 0),
  (63, .ifCond .eq 10, 3, [], 0),
  (66, .aload_n 1, 1, [], 0),
  (67, .iconst 3, 1, [], 0),
  (68, .iload_n 3, 1, [], 0),
  (69, .invokevirtual 168, 3, [0, 89, 3, 0, 18], 0),
  (72, .ireturn, 1, [5], 0),
  (73, .aload_n 0, 1, [], 0),
  (74, .getfield 12, 3, [19, 0, 3, 14, 1], 0),
  (77, .getfield 154, 3, [14, 9, 3, 24, 8], 0),
  (80, .iload_n 2, 1, [], 0),
  (81, .dup2, 1, [], 0),
  (82, .iaload, 1, [], 0),
  (83, .iconst 1, 1, [], 0),
  (84, .iload 4, 2, [], 0),
  (86, .ishl, 1, [], 0),
  (87, .ior, 1, [], 0),
  (88, .iastore, 1, [], 0),
  (89, .iconst 1, 1, [], 0),
  (90, .ireturn, 1, [5], 0)]
/-- 103: HiccupTown$TownReader.readThing(LHiccupTown$Tape;)Z -/
def T_X9_readThing : List mm_E := [(0, .aload_n 0, 1, [], 0),
  (1, .aload_n 1, 1, [], 0),
  (2, .iconst 3, 1, [], 0),
  (3, .invokevirtual 132, 3, [0, 98, 3, 0, 19], 0),
  (6, .istore_n 2, 1, [], 0),
  (7, .aload_n 1, 1, [], 0),
  (8, .iconst 2, 1, [], 0),
  (9, .bipush 60, 2, [], 0),
  (11, .invokevirtual 103, 3, [0, 92, 3, 0, 18], 0),
  (14, .istore_n 3, 1, [], 0),
  (15, .iload_n 2, 1, [], 0),
  (16, .iconst (-1), 1, [], 0),
  (17, .if_icmp .eq 8, 3, [], 0),
  (20, .iload_n 3, 1, [], 0),
  (21, .iconst (-1), 1, [], 0),
  (22, .if_icmp .ne 5, 3, [], 0),
  (25, .iconst 0, 1, [], 0),
  (26, .ireturn, 1, [5], 0),
  (27, .aload_n 0, 1, [], 0),
  (28, .getfield 12, 3, [19, 0, 3, 14, 1], 0),
  (31, .getfield 171, 3, [14, 10, 3, 23, 9], 0),
  (34, .iload_n 2, 1, [], 0),
  (35, .iload_n 3, 1, [], 0),
  (36, .iastore, 1, [], 0),
  (37, .iconst 1, 1, [], 0),
  (38, .ireturn, 1, [5], 0)]
/-- 104: HiccupTown$Word.find(JLHiccupTown$Word;)LHiccupTown$Word; -/
def T_X10_find : List mm_E := [(0, .getstatic 149, 3, [4], 0),
  (3, .astore_n 3, 1, [], 0),
  (4, .aload_n 3, 1, [], 0),
  (5, .arraylength, 1, [], 0),
  (6, .istore 4, 2, [], 0),
  (8, .iconst 0, 1, [], 0),
  (9, .istore 5, 2, [], 0),
  (11, .iload 5, 2, [], 0),
  (13, .iload 4, 2, [], 0),
  (15, .if_icmp .ge 34, 3, [], 0),
  (18, .aload_n 3, 1, [], 0),
  (19, .iload 5, 2, [], 0),
  (21, .aaload, 1, [], 0),
  (22, .astore 6, 2, [], 0),
  (24, .aload 6, 2, [], 0),
  (26, .getfield 135, 3, [2, 0, 4], 0),
  (29, .lload_n 0, 1, [], 0),
  (30, .lcmp, 1, [], 0),
  (31, .ifCond .ne 12, 3, [], 0),
  (34, .lload_n 0, 1, [], 0),
  (35, .lconst 0, 1, [], 0),
  (36, .lcmp, 1, [], 0),
  (37, .ifCond .eq 6, 3, [], 0),
  (40, .aload 6, 2, [], 0),
  (42, .areturn, 1, [], 0),
  (43, .iinc 5 1, 3, [], 0),
  (46, .goto (-35), 3, [], 0),
  (49, .aload_n 2, 1, [], 0),
  (50, .areturn, 1, [], 0)]
/-- 105: HiccupTown.feed(IIIII)I -/
def T_X11_feed : List mm_E := [(0, .aload_n 0, 1, [], 0),
  (1, .getfield 10, 3, [20, 0, 3, 18, 1], 0),
  (4, .getfield 87, 3, [18, 1, 0], 0),
  (7, .bipush 20, 2, [], 0),
  (9, .iadd, 1, [], 0),
  (10, .sipush 940, 3, [], 0),
  (13, .if_icmp .le 5, 3, [], 0),
  (16, .iconst (-1), 1, [], 0),
  (17, .ireturn, 1, [], 0),
  (18, .aload_n 0, 1, [], 0),
  (19, .getfield 10, 3, [20, 0, 3, 18, 1], 0),
  (22, .iload_n 1, 1, [], 0),
  (23, .invokevirtual 90, 3, [0, 81, 2, 8, 18], 0),
  (26, .aload_n 0, 1, [], 0),
  (27, .getfield 10, 3, [20, 0, 3, 18, 1], 0),
  (30, .iload_n 2, 1, [], 0),
  (31, .invokevirtual 90, 3, [0, 81, 2, 8, 18], 0),
  (34, .aload_n 0, 1, [], 0),
  (35, .getfield 10, 3, [20, 0, 3, 18, 1], 0),
  (38, .iload_n 3, 1, [], 0),
  (39, .invokevirtual 90, 3, [0, 81, 2, 8, 18], 0),
  (42, .aload_n 0, 1, [], 0),
  (43, .getfield 10, 3, [20, 0, 3, 18, 1], 0),
  (46, .iload 4, 2, [], 0),
  (48, .invokevirtual 90, 3, [0, 81, 2, 8, 18], 0),
  (51, .aload_n 0, 1, [], 0),
  (52, .getfield 10, 3, [20, 0, 3, 18, 1], 0),
  (55, .iload 5, 2, [], 0),
  (57, .invokevirtual 90, 3, [0, 81, 2, 8, 18], 0),
  (60, .aload_n 0, 1, [], 0),
  (61, .getfield 10, 3, [20, 0, 3, 18, 1], 0),
  (64, .getfield 87, 3, [18, 1, 0], 0),
  (67, .ireturn, 1, [], 0)]
/-- 106: HiccupTown.end(I)Z -/
def T_X11_end : List mm_E := [(0, .iload_n 1, 1, [], 0),
  (1, .ifCond .lt 14, 3, [], 0),
  (4, .iload_n 1, 1, [], 0),
  (5, .aload_n 0, 1, [], 0),
  (6, .getfield 10, 3, [20, 0, 3, 18, 1], 0),
  (9, .getfield 87, 3, [18, 1, 0], 0),
  (12, .if_icmp .le 5, 3, [], 0),
  (15, .iconst 0, 1, [], 0),
  (16, .ireturn, 1, [5], 0),
  (17, .aload_n 0, 1, [], 0),
  (18, .getfield 10, 3, [20, 0, 3, 18, 1], 0),
  (21, .iload_n 1, 1, [], 0),
  (22, .putfield 87, 3, [18, 1, 0], 0),
  (25, .iconst 1, 1, [], 0),
  (26, .ireturn, 1, [5], 0)]
/-- 107: HiccupTown.town()I -/
def T_X11_town : List mm_E := [(0, .aload_n 0, 1, [], 0),
  (1, .getfield 10, 3, [20, 0, 3, 18, 1], 0),
  (4, .sipush 900, 3, [], 0),
  (7, .invokevirtual 94, 3, [0, 83, 2, 8, 18], 0),
  (10, .aload_n 0, 1, [], 0),
  (11, .getfield 19, 3, [20, 1, 3, 19, 3], 0),
  (14, .aload_n 0, 1, [], 0),
  (15, .getfield 10, 3, [20, 0, 3, 18, 1], 0),
  (18, .invokevirtual 97, 3, [0, 94, 2, 0, 19], 0),
  (21, .istore_n 1, 1, [], 0),
  (22, .aload_n 0, 1, [], 0),
  (23, .invokevirtual 101, 3, [0, 145, 1, 0, 20], 0),
  (26, .ifCond .eq 13, 3, [], 0),
  (29, .iconst (-1), 1, [], 0),
  (30, .aload_n 0, 1, [], 0),
  (31, .getfield 10, 3, [20, 0, 3, 18, 1], 0),
  (34, .getfield 105, 3, [18, 9, 0], 0),
  (37, .isub, 1, [], 0),
  (38, .ireturn, 1, [], 0),
  (39, .aload_n 0, 1, [], 0),
  (40, .getfield 26, 3, [20, 2, 3, 16, 14], 0),
  (43, .aload_n 0, 1, [], 0),
  (44, .getfield 19, 3, [20, 1, 3, 19, 3], 0),
  (47, .getfield 108, 3, [19, 0, 3, 14, 1], 0),
  (50, .invokevirtual 112, 3, [0, 65, 2, 8, 16], 0),
  (53, .aload_n 0, 1, [], 0),
  (54, .getfield 37, 3, [20, 4, 3, 13, 34], 0),
  (57, .invokevirtual 116, 3, [0, 46, 1, 8, 13], 0),
  (60, .iload_n 1, 1, [], 0),
  (61, .ireturn, 1, [], 0)]
/-- 108: HiccupTown.fault()I -/
def T_X11_fault : List mm_E := [(0, .aload_n 0, 1, [], 0),
  (1, .getfield 119, 3, [20, 13, 0], 0),
  (4, .ireturn, 1, [], 0)]
/-- 109: HiccupTown.work(II)I -/
def T_X11_work : List mm_E := [(0, .aload_n 0, 1, [], 0),
  (1, .getfield 26, 3, [20, 2, 3, 16, 14], 0),
  (4, .getfield 122, 3, [16, 0, 3, 14, 1], 0),
  (7, .iconst 2, 1, [], 0),
  (8, .iload_n 1, 1, [], 0),
  (9, .invokevirtual 123, 3, [0, 51, 3, 0, 14], 0),
  (12, .ifCond .ne 5, 3, [], 0),
  (15, .iconst (-1), 1, [], 0),
  (16, .ireturn, 1, [], 0),
  (17, .iload_n 2, 1, [], 0),
  (18, .tableswitch 105 0 4 #[34, 47, 60, 73, 92], 34, [], 0),
  (52, .aload_n 0, 1, [], 0),
  (53, .getfield 26, 3, [20, 2, 3, 16, 14], 0),
  (56, .getfield 122, 3, [16, 0, 3, 14, 1], 0),
  (59, .getfield 159, 3, [14, 7, 3, 24, 6], 0),
  (62, .iload_n 1, 1, [], 0),
  (63, .iaload, 1, [], 0),
  (64, .ireturn, 1, [], 0),
  (65, .aload_n 0, 1, [], 0),
  (66, .getfield 26, 3, [20, 2, 3, 16, 14], 0),
  (69, .getfield 122, 3, [16, 0, 3, 14, 1], 0),
  (72, .getfield 162, 3, [14, 8, 3, 24, 7], 0),
  (75, .iload_n 1, 1, [], 0),
  (76, .iaload, 1, [], 0),
  (77, .ireturn, 1, [], 0),
  (78, .aload_n 0, 1, [], 0),
  (79, .getfield 26, 3, [20, 2, 3, 16, 14], 0),
  (82, .getfield 136, 3, [16, 1, 3, 12, 11], 0),
  (85, .getfield 165, 3, [12, 8, 3, 24, 3], 0),
  (88, .iload_n 1, 1, [], 0),
  (89, .iaload, 1, [], 0),
  (90, .ireturn, 1, [], 0),
  (91, .aload_n 0, 1, [], 0),
  (92, .getfield 26, 3, [20, 2, 3, 16, 14], 0),
  (95, .getfield 136, 3, [16, 1, 3, 12, 11], 0),
  (98, .aload_n 0, 1, [], 0),
  (99, .getfield 26, 3, [20, 2, 3, 16, 14], 0),
  (102, .getfield 122, 3, [16, 0, 3, 14, 1], 0),
  (105, .iload_n 1, 1, [], 0),
  (106, .invokevirtual 168, 3, [0, 22, 3, 0, 12], 0),
  (109, .ireturn, 1, [], 0),
  (110, .aload_n 0, 1, [], 0),
  (111, .getfield 26, 3, [20, 2, 3, 16, 14], 0),
  (114, .getfield 122, 3, [16, 0, 3, 14, 1], 0),
  (117, .getfield 172, 3, [14, 9, 3, 24, 8], 0),
  (120, .iload_n 1, 1, [], 0),
  (121, .iaload, 1, [], 0),
  (122, .ireturn, 1, [], 0),
  (123, .iconst (-1), 1, [], 0),
  (124, .ireturn, 1, [], 0)]
/-- 110: HiccupTown.gap(I)I -/
def T_X11_gap : List mm_E := [(0, .aload_n 0, 1, [], 0),
  (1, .getfield 26, 3, [20, 2, 3, 16, 14], 0),
  (4, .getfield 122, 3, [16, 0, 3, 14, 1], 0),
  (7, .iload_n 1, 1, [], 0),
  (8, .invokevirtual 175, 3, [0, 55, 2, 0, 14], 0),
  (11, .ireturn, 1, [], 0)]
/-- 111: HiccupTown.now(I)I -/
def T_X11_now : List mm_E := [(0, .iload_n 1, 1, [], 0),
  (1, .tableswitch 157 0 7 #[47, 58, 69, 80, 99, 110, 121, 139], 47, [], 0),
  (48, .aload_n 0, 1, [], 0),
  (49, .getfield 26, 3, [20, 2, 3, 16, 14], 0),
  (52, .getfield 136, 3, [16, 1, 3, 12, 11], 0),
  (55, .getfield 179, 3, [12, 0, 0], 0),
  (58, .ireturn, 1, [], 0),
  (59, .aload_n 0, 1, [], 0),
  (60, .getfield 26, 3, [20, 2, 3, 16, 14], 0),
  (63, .getfield 136, 3, [16, 1, 3, 12, 11], 0),
  (66, .getfield 182, 3, [12, 1, 0], 0),
  (69, .ireturn, 1, [], 0),
  (70, .aload_n 0, 1, [], 0),
  (71, .getfield 26, 3, [20, 2, 3, 16, 14], 0),
  (74, .getfield 136, 3, [16, 1, 3, 12, 11], 0),
  (77, .getfield 185, 3, [12, 2, 0], 0),
  (80, .ireturn, 1, [], 0),
  (81, .aload_n 0, 1, [], 0),
  (82, .getfield 26, 3, [20, 2, 3, 16, 14], 0),
  (85, .getfield 136, 3, [16, 1, 3, 12, 11], 0),
  (88, .getfield 188, 3, [12, 3, 0], 0),
  (91, .ifCond .eq 7, 3, [], 0),
  (94, .iconst 1, 1, [], 0),
  (95, .goto 4, 3, [], 0),
  (98, .iconst 0, 1, [], 0),
  (99, .ireturn, 1, [], 0),
  (100, .aload_n 0, 1, [], 0),
  (101, .getfield 26, 3, [20, 2, 3, 16, 14], 0),
  (104, .getfield 136, 3, [16, 1, 3, 12, 11], 0),
  (107, .getfield 192, 3, [12, 4, 0], 0),
  (110, .ireturn, 1, [], 0),
  (111, .aload_n 0, 1, [], 0),
  (112, .getfield 26, 3, [20, 2, 3, 16, 14], 0),
  (115, .getfield 136, 3, [16, 1, 3, 12, 11], 0),
  (118, .getfield 195, 3, [12, 5, 0], 0),
  (121, .ireturn, 1, [], 0),
  (122, .aload_n 0, 1, [], 0),
  (123, .getfield 26, 3, [20, 2, 3, 16, 14], 0),
  (126, .getfield 136, 3, [16, 1, 3, 12, 11], 0),
  (129, .aload_n 0, 1, [], 0),
  (130, .getfield 26, 3, [20, 2, 3, 16, 14], 0),
  (133, .getfield 122, 3, [16, 0, 3, 14, 1], 0),
  (136, .invokevirtual 198, 3, [0, 20, 2, 0, 12], 0),
  (139, .ireturn, 1, [], 0),
  (140, .aload_n 0, 1, [], 0),
  (141, .getfield 26, 3, [20, 2, 3, 16, 14], 0),
  (144, .getfield 136, 3, [16, 1, 3, 12, 11], 0),
  (147, .aload_n 0, 1, [], 0),
  (148, .getfield 26, 3, [20, 2, 3, 16, 14], 0),
  (151, .getfield 122, 3, [16, 0, 3, 14, 1], 0),
  (154, .invokevirtual 202, 3, [0, 21, 2, 0, 12], 0),
  (157, .ireturn, 1, [], 0),
  (158, .iconst (-1), 1, [], 0),
  (159, .ireturn, 1, [], 0)]
/-- 112: HiccupTown.fright()I -/
def T_X11_fright : List mm_E := [(0, .aload_n 0, 1, [], 0),
  (1, .iconst 0, 1, [], 0),
  (2, .iconst 0, 1, [], 0),
  (3, .invokevirtual 205, 3, [0, 146, 3, 0, 20], 0),
  (6, .ireturn, 1, [], 0)]
/-- 113: HiccupTown.cure()I -/
def T_X11_cure : List mm_E := [(0, .aload_n 0, 1, [], 0),
  (1, .iconst 1, 1, [], 0),
  (2, .iconst 0, 1, [], 0),
  (3, .invokevirtual 205, 3, [0, 146, 3, 0, 20], 0),
  (6, .ireturn, 1, [], 0)]
/-- 114: HiccupTown.fly()I -/
def T_X11_fly : List mm_E := [(0, .aload_n 0, 1, [], 0),
  (1, .iconst 2, 1, [], 0),
  (2, .iconst 0, 1, [], 0),
  (3, .invokevirtual 205, 3, [0, 146, 3, 0, 20], 0),
  (6, .ireturn, 1, [], 0)]
/-- 115: HiccupTown.relieve(I)I -/
def T_X11_relieve : List mm_E := [(0, .aload_n 0, 1, [], 0),
  (1, .getfield 26, 3, [20, 2, 3, 16, 14], 0),
  (4, .getfield 122, 3, [16, 0, 3, 14, 1], 0),
  (7, .iload_n 1, 1, [], 0),
  (8, .invokevirtual 209, 3, [0, 54, 2, 0, 14], 0),
  (11, .ifCond .eq 12, 3, [], 0),
  (14, .aload_n 0, 1, [], 0),
  (15, .iconst 3, 1, [], 0),
  (16, .iload_n 1, 1, [], 0),
  (17, .invokevirtual 205, 3, [0, 146, 3, 0, 20], 0),
  (20, .goto 4, 3, [], 0),
  (23, .iconst (-1), 1, [], 0),
  (24, .ireturn, 1, [], 0)]
/-- 116: HiccupTown.leave(I)I -/
def T_X11_leave : List mm_E := [(0, .aload_n 0, 1, [], 0),
  (1, .getfield 26, 3, [20, 2, 3, 16, 14], 0),
  (4, .getfield 122, 3, [16, 0, 3, 14, 1], 0),
  (7, .iconst 1, 1, [], 0),
  (8, .iload_n 1, 1, [], 0),
  (9, .invokevirtual 123, 3, [0, 51, 3, 0, 14], 0),
  (12, .ifCond .eq 12, 3, [], 0),
  (15, .aload_n 0, 1, [], 0),
  (16, .iconst 4, 1, [], 0),
  (17, .iload_n 1, 1, [], 0),
  (18, .invokevirtual 205, 3, [0, 146, 3, 0, 20], 0),
  (21, .goto 4, 3, [], 0),
  (24, .iconst (-1), 1, [], 0),
  (25, .ireturn, 1, [], 0)]
/-- 117: HiccupTown.join(I)I -/
def T_X11_join : List mm_E := [(0, .aload_n 0, 1, [], 0),
  (1, .getfield 26, 3, [20, 2, 3, 16, 14], 0),
  (4, .getfield 122, 3, [16, 0, 3, 14, 1], 0),
  (7, .iconst 1, 1, [], 0),
  (8, .iload_n 1, 1, [], 0),
  (9, .invokevirtual 123, 3, [0, 51, 3, 0, 14], 0),
  (12, .ifCond .eq 12, 3, [], 0),
  (15, .aload_n 0, 1, [], 0),
  (16, .iconst 5, 1, [], 0),
  (17, .iload_n 1, 1, [], 0),
  (18, .invokevirtual 205, 3, [0, 146, 3, 0, 20], 0),
  (21, .goto 4, 3, [], 0),
  (24, .iconst (-1), 1, [], 0),
  (25, .ireturn, 1, [], 0)]
/-- 118: HiccupTown.seconds(I)I -/
def T_X11_seconds : List mm_E := [(0, .iload_n 1, 1, [], 0),
  (1, .iconst 1, 1, [], 0),
  (2, .if_icmp .lt 9, 3, [], 0),
  (5, .iload_n 1, 1, [], 0),
  (6, .bipush 60, 2, [], 0),
  (8, .if_icmp .le 5, 3, [], 0),
  (11, .iconst (-1), 1, [], 0),
  (12, .ireturn, 1, [], 0),
  (13, .aload_n 0, 1, [], 0),
  (14, .getfield 44, 3, [20, 5, 3, 12, 68], 0),
  (17, .aload_n 0, 1, [], 0),
  (18, .getfield 26, 3, [20, 2, 3, 16, 14], 0),
  (21, .getfield 136, 3, [16, 1, 3, 12, 11], 0),
  (24, .invokevirtual 212, 3, [0, 16, 2, 8, 12], 0),
  (27, .iload_n 1, 1, [], 0),
  (28, .aload_n 0, 1, [], 0),
  (29, .getfield 26, 3, [20, 2, 3, 16, 14], 0),
  (32, .getfield 136, 3, [16, 1, 3, 12, 11], 0),
  (35, .invokevirtual 216, 3, [0, 19, 1, 0, 12], 0),
  (38, .invokestatic 220, 3, [1], 0),
  (41, .istore_n 2, 1, [], 0),
  (42, .aload_n 0, 1, [], 0),
  (43, .getfield 26, 3, [20, 2, 3, 16, 14], 0),
  (46, .getfield 136, 3, [16, 1, 3, 12, 11], 0),
  (49, .aload_n 0, 1, [], 0),
  (50, .getfield 26, 3, [20, 2, 3, 16, 14], 0),
  (53, .getfield 122, 3, [16, 0, 3, 14, 1], 0),
  (56, .bipush 6, 2, [], 0),
  (58, .iload_n 2, 1, [], 0),
  (59, .invokevirtual 225, 3, [0, 26, 4, 0, 12], 0),
  (62, .pop, 1, [], 0),
  (63, .aload_n 0, 1, [], 0),
  (64, .iload_n 2, 1, [], 0),
  (65, .ifCond .le 7, 3, [], 0),
  (68, .iconst 1, 1, [], 0),
  (69, .goto 4, 3, [], 0),
  (72, .iconst 0, 1, [], 0),
  (73, .invokevirtual 229, 3, [0, 147, 2, 8, 20], 0),
  (76, .iload_n 2, 1, [], 0),
  (77, .ireturn, 1, [], 0)]
/-- 119: HiccupTown.undo()I -/
def T_X11_undo : List mm_E := [(0, .aload_n 0, 1, [], 0),
  (1, .getfield 37, 3, [20, 4, 3, 13, 34], 0),
  (4, .aload_n 0, 1, [], 0),
  (5, .getfield 26, 3, [20, 2, 3, 16, 14], 0),
  (8, .getfield 136, 3, [16, 1, 3, 12, 11], 0),
  (11, .invokevirtual 233, 3, [0, 48, 2, 0, 13], 0),
  (14, .ireturn, 1, [], 0)]
/-- 120: HiccupTown.at(II)I -/
def T_X11_at : List mm_E := [(0, .aload_n 0, 1, [], 0),
  (1, .getfield 26, 3, [20, 2, 3, 16, 14], 0),
  (4, .getfield 122, 3, [16, 0, 3, 14, 1], 0),
  (7, .iconst 1, 1, [], 0),
  (8, .iload_n 1, 1, [], 0),
  (9, .invokevirtual 123, 3, [0, 51, 3, 0, 14], 0),
  (12, .ifCond .eq 13, 3, [], 0),
  (15, .iload_n 2, 1, [], 0),
  (16, .ifCond .lt 9, 3, [], 0),
  (19, .iload_n 2, 1, [], 0),
  (20, .bipush 99, 2, [], 0),
  (22, .if_icmp .le 5, 3, [], 0),
  (25, .iconst (-1), 1, [], 0),
  (26, .ireturn, 1, [], 0),
  (27, .aload_n 0, 1, [], 0),
  (28, .getfield 26, 3, [20, 2, 3, 16, 14], 0),
  (31, .getfield 136, 3, [16, 1, 3, 12, 11], 0),
  (34, .aload_n 0, 1, [], 0),
  (35, .getfield 26, 3, [20, 2, 3, 16, 14], 0),
  (38, .getfield 122, 3, [16, 0, 3, 14, 1], 0),
  (41, .iload_n 1, 1, [], 0),
  (42, .iload_n 2, 1, [], 0),
  (43, .invokevirtual 237, 3, [0, 24, 4, 0, 12], 0),
  (46, .ireturn, 1, [], 0)]
/-- 121: HiccupTown.meet(II)I -/
def T_X11_meet : List mm_E := [(0, .aload_n 0, 1, [], 0),
  (1, .getfield 26, 3, [20, 2, 3, 16, 14], 0),
  (4, .getfield 122, 3, [16, 0, 3, 14, 1], 0),
  (7, .iconst 1, 1, [], 0),
  (8, .iload_n 1, 1, [], 0),
  (9, .invokevirtual 123, 3, [0, 51, 3, 0, 14], 0),
  (12, .ifCond .eq 18, 3, [], 0),
  (15, .aload_n 0, 1, [], 0),
  (16, .getfield 26, 3, [20, 2, 3, 16, 14], 0),
  (19, .getfield 122, 3, [16, 0, 3, 14, 1], 0),
  (22, .iconst 1, 1, [], 0),
  (23, .iload_n 2, 1, [], 0),
  (24, .invokevirtual 123, 3, [0, 51, 3, 0, 14], 0),
  (27, .ifCond .ne 5, 3, [], 0),
  (30, .iconst (-1), 1, [], 0),
  (31, .ireturn, 1, [], 0),
  (32, .iconst 0, 1, [], 0),
  (33, .istore_n 3, 1, [], 0),
  (34, .iload_n 3, 1, [], 0),
  (35, .aload_n 0, 1, [], 0),
  (36, .getfield 26, 3, [20, 2, 3, 16, 14], 0),
  (39, .getfield 122, 3, [16, 0, 3, 14, 1], 0),
  (42, .getfield 240, 3, [14, 0, 0], 0),
  (45, .if_icmp .ge 52, 3, [], 0),
  (48, .aload_n 0, 1, [], 0),
  (49, .getfield 26, 3, [20, 2, 3, 16, 14], 0),
  (52, .getfield 136, 3, [16, 1, 3, 12, 11], 0),
  (55, .aload_n 0, 1, [], 0),
  (56, .getfield 26, 3, [20, 2, 3, 16, 14], 0),
  (59, .getfield 122, 3, [16, 0, 3, 14, 1], 0),
  (62, .iload_n 1, 1, [], 0),
  (63, .iload_n 3, 1, [], 0),
  (64, .invokevirtual 237, 3, [0, 24, 4, 0, 12], 0),
  (67, .aload_n 0, 1, [], 0),
  (68, .getfield 26, 3, [20, 2, 3, 16, 14], 0),
  (71, .getfield 136, 3, [16, 1, 3, 12, 11], 0),
  (74, .aload_n 0, 1, [], 0),
  (75, .getfield 26, 3, [20, 2, 3, 16, 14], 0),
  (78, .getfield 122, 3, [16, 0, 3, 14, 1], 0),
  (81, .iload_n 2, 1, [], 0),
  (82, .iload_n 3, 1, [], 0),
  (83, .invokevirtual 237, 3, [0, 24, 4, 0, 12], 0),
  (86, .if_icmp .ne 5, 3, [], 0),
  (89, .iload_n 3, 1, [], 0),
  (90, .ireturn, 1, [], 0),
  (91, .iinc 3 1, 3, [], 0),
  (94, .goto (-60), 3, [], 0),
  (97, .iconst (-1), 1, [], 0),
  (98, .ireturn, 1, [], 0)]
/-- 122: HiccupTown.when(I)I -/
def T_X11_when : List mm_E := [(0, .aload_n 0, 1, [], 0),
  (1, .getfield 26, 3, [20, 2, 3, 16, 14], 0),
  (4, .getfield 122, 3, [16, 0, 3, 14, 1], 0),
  (7, .iconst 2, 1, [], 0),
  (8, .iload_n 1, 1, [], 0),
  (9, .invokevirtual 123, 3, [0, 51, 3, 0, 14], 0),
  (12, .ifCond .ne 5, 3, [], 0),
  (15, .iconst (-1), 1, [], 0),
  (16, .ireturn, 1, [], 0),
  (17, .aload_n 0, 1, [], 0),
  (18, .getfield 48, 3, [20, 6, 3, 12, 72], 0),
  (21, .aload_n 0, 1, [], 0),
  (22, .getfield 26, 3, [20, 2, 3, 16, 14], 0),
  (25, .getfield 136, 3, [16, 1, 3, 12, 11], 0),
  (28, .invokevirtual 212, 3, [0, 16, 2, 8, 12], 0),
  (31, .aload_n 0, 1, [], 0),
  (32, .getfield 48, 3, [20, 6, 3, 12, 72], 0),
  (35, .aload_n 0, 1, [], 0),
  (36, .getfield 26, 3, [20, 2, 3, 16, 14], 0),
  (39, .getfield 122, 3, [16, 0, 3, 14, 1], 0),
  (42, .iload_n 1, 1, [], 0),
  (43, .invokevirtual 243, 3, [0, 36, 3, 0, 12], 0),
  (46, .ireturn, 1, [], 0)]
/-- 123: HiccupTown.once(II)I -/
def T_X11_once : List mm_E := [(0, .aload_n 0, 1, [], 0),
  (1, .getfield 26, 3, [20, 2, 3, 16, 14], 0),
  (4, .getfield 122, 3, [16, 0, 3, 14, 1], 0),
  (7, .iload_n 1, 1, [], 0),
  (8, .invokevirtual 209, 3, [0, 54, 2, 0, 14], 0),
  (11, .ifCond .eq 17, 3, [], 0),
  (14, .aload_n 0, 1, [], 0),
  (15, .getfield 26, 3, [20, 2, 3, 16, 14], 0),
  (18, .getfield 122, 3, [16, 0, 3, 14, 1], 0),
  (21, .iload_n 2, 1, [], 0),
  (22, .invokevirtual 209, 3, [0, 54, 2, 0, 14], 0),
  (25, .ifCond .ne 5, 3, [], 0),
  (28, .iconst (-1), 1, [], 0),
  (29, .ireturn, 1, [], 0),
  (30, .aload_n 0, 1, [], 0),
  (31, .getfield 26, 3, [20, 2, 3, 16, 14], 0),
  (34, .getfield 122, 3, [16, 0, 3, 14, 1], 0),
  (37, .iload_n 1, 1, [], 0),
  (38, .invokevirtual 175, 3, [0, 55, 2, 0, 14], 0),
  (41, .istore_n 3, 1, [], 0),
  (42, .aload_n 0, 1, [], 0),
  (43, .getfield 26, 3, [20, 2, 3, 16, 14], 0),
  (46, .getfield 122, 3, [16, 0, 3, 14, 1], 0),
  (49, .iload_n 2, 1, [], 0),
  (50, .invokevirtual 175, 3, [0, 55, 2, 0, 14], 0),
  (53, .istore 4, 2, [], 0),
  (55, .iconst 1, 1, [], 0),
  (56, .istore 5, 2, [], 0),
  (58, .iload 5, 2, [], 0),
  (60, .iload 4, 2, [], 0),
  (62, .if_icmp .gt 26, 3, [], 0),
  (65, .iload_n 3, 1, [], 0),
  (66, .iload 5, 2, [], 0),
  (68, .imul, 1, [], 0),
  (69, .iload 4, 2, [], 0),
  (71, .invokestatic 246, 3, [0, 153, 2, 0], 0),
  (74, .ifCond .ne 8, 3, [], 0),
  (77, .iload_n 3, 1, [], 0),
  (78, .iload 5, 2, [], 0),
  (80, .imul, 1, [], 0),
  (81, .ireturn, 1, [], 0),
  (82, .iinc 5 1, 3, [], 0),
  (85, .goto (-27), 3, [], 0),
  (88, .iconst (-1), 1, [], 0),
  (89, .ireturn, 1, [], 0)]
/-- 124: HiccupTown.stood()I -/
def T_X11_stood : List mm_E := [(0, .aload_n 0, 1, [], 0),
  (1, .getfield 54, 3, [20, 7, 3, 11, 76], 0),
  (4, .aload_n 0, 1, [], 0),
  (5, .getfield 10, 3, [20, 0, 3, 18, 1], 0),
  (8, .aload_n 0, 1, [], 0),
  (9, .getfield 26, 3, [20, 2, 3, 16, 14], 0),
  (12, .getfield 122, 3, [16, 0, 3, 14, 1], 0),
  (15, .invokevirtual 249, 3, [0, 9, 3, 0, 11], 0),
  (18, .istore_n 1, 1, [], 0),
  (19, .aload_n 0, 1, [], 0),
  (20, .getfield 10, 3, [20, 0, 3, 18, 1], 0),
  (23, .iconst 0, 1, [], 0),
  (24, .putfield 87, 3, [18, 1, 0], 0),
  (27, .iload_n 1, 1, [], 0),
  (28, .ireturn, 1, [], 0)]
/-- 125: HiccupTown.stoodLeast()I -/
def T_X11_stoodLeast : List mm_E := [(0, .aload_n 0, 1, [], 0),
  (1, .getfield 54, 3, [20, 7, 3, 11, 76], 0),
  (4, .getfield 253, 3, [11, 1, 0], 0),
  (7, .ireturn, 1, [], 0)]
/-- 126: HiccupTown.stoodMost()I -/
def T_X11_stoodMost : List mm_E := [(0, .aload_n 0, 1, [], 0),
  (1, .getfield 54, 3, [20, 7, 3, 11, 76], 0),
  (4, .getfield 256, 3, [11, 2, 0], 0),
  (7, .ireturn, 1, [], 0)]
/-- 127: HiccupTown.next()I -/
def T_X11_next : List mm_E := [(0, .aload_n 0, 1, [], 0),
  (1, .getfield 54, 3, [20, 7, 3, 11, 76], 0),
  (4, .getfield 259, 3, [11, 3, 0], 0),
  (7, .ireturn, 1, [], 0)]
/-- 128: HiccupTown.rows(II)I -/
def T_X11_rows : List mm_E := [(0, .iload_n 1, 1, [], 0),
  (1, .iconst 1, 1, [], 0),
  (2, .if_icmp .lt 19, 3, [], 0),
  (5, .iload_n 1, 1, [], 0),
  (6, .bipush 60, 2, [], 0),
  (8, .if_icmp .gt 13, 3, [], 0),
  (11, .iload_n 2, 1, [], 0),
  (12, .iconst 1, 1, [], 0),
  (13, .if_icmp .lt 8, 3, [], 0),
  (16, .iload_n 2, 1, [], 0),
  (17, .iconst 5, 1, [], 0),
  (18, .if_icmp .le 5, 3, [], 0),
  (21, .iconst (-1), 1, [], 0),
  (22, .ireturn, 1, [], 0),
  (23, .aload_n 0, 1, [], 0),
  (24, .getfield 61, 3, [20, 8, 3, 15, 78], 0),
  (27, .aload_n 0, 1, [], 0),
  (28, .getfield 26, 3, [20, 2, 3, 16, 14], 0),
  (31, .getfield 122, 3, [16, 0, 3, 14, 1], 0),
  (34, .iload_n 1, 1, [], 0),
  (35, .iload_n 2, 1, [], 0),
  (36, .invokevirtual 262, 3, [0, 61, 4, 0, 15], 0),
  (39, .ireturn, 1, [], 0)]
/-- 129: HiccupTown.rowAt(I)I -/
def T_X11_rowAt : List mm_E := [(0, .iload_n 1, 1, [], 0),
  (1, .ifCond .lt 14, 3, [], 0),
  (4, .iload_n 1, 1, [], 0),
  (5, .aload_n 0, 1, [], 0),
  (6, .getfield 61, 3, [20, 8, 3, 15, 78], 0),
  (9, .getfield 265, 3, [15, 2, 0], 0),
  (12, .if_icmp .lt 7, 3, [], 0),
  (15, .iconst (-1), 1, [], 0),
  (16, .goto 12, 3, [], 0),
  (19, .aload_n 0, 1, [], 0),
  (20, .getfield 61, 3, [20, 8, 3, 15, 78], 0),
  (23, .getfield 268, 3, [15, 1, 3, 23, 8], 0),
  (26, .iload_n 1, 1, [], 0),
  (27, .iaload, 1, [], 0),
  (28, .ireturn, 1, [], 0)]
/-- 130: HiccupTown.swift(I)I -/
def T_X11_swift : List mm_E := [(0, .aload_n 0, 1, [], 0),
  (1, .getfield 26, 3, [20, 2, 3, 16, 14], 0),
  (4, .getfield 122, 3, [16, 0, 3, 14, 1], 0),
  (7, .iconst 2, 1, [], 0),
  (8, .iload_n 1, 1, [], 0),
  (9, .invokevirtual 123, 3, [0, 51, 3, 0, 14], 0),
  (12, .ifCond .eq 17, 3, [], 0),
  (15, .aload_n 0, 1, [], 0),
  (16, .getfield 26, 3, [20, 2, 3, 16, 14], 0),
  (19, .getfield 136, 3, [16, 1, 3, 12, 11], 0),
  (22, .iload_n 1, 1, [], 0),
  (23, .invokevirtual 271, 3, [0, 18, 2, 0, 12], 0),
  (26, .ifCond .eq 5, 3, [], 0),
  (29, .iconst (-1), 1, [], 0),
  (30, .ireturn, 1, [], 0),
  (31, .iconst (-1), 1, [], 0),
  (32, .istore_n 2, 1, [], 0),
  (33, .sipush 601, 3, [], 0),
  (36, .istore_n 3, 1, [], 0),
  (37, .iconst 0, 1, [], 0),
  (38, .istore 4, 2, [], 0),
  (40, .iload 4, 2, [], 0),
  (42, .aload_n 0, 1, [], 0),
  (43, .getfield 26, 3, [20, 2, 3, 16, 14], 0),
  (46, .getfield 122, 3, [16, 0, 3, 14, 1], 0),
  (49, .invokevirtual 274, 3, [0, 53, 1, 0, 14], 0),
  (52, .if_icmp .ge 76, 3, [], 0),
  (55, .aload_n 0, 1, [], 0),
  (56, .getfield 48, 3, [20, 6, 3, 12, 72], 0),
  (59, .aload_n 0, 1, [], 0),
  (60, .getfield 26, 3, [20, 2, 3, 16, 14], 0),
  (63, .getfield 136, 3, [16, 1, 3, 12, 11], 0),
  (66, .invokevirtual 212, 3, [0, 16, 2, 8, 12], 0),
  (69, .aload_n 0, 1, [], 0),
  (70, .getfield 48, 3, [20, 6, 3, 12, 72], 0),
  (73, .aload_n 0, 1, [], 0),
  (74, .getfield 26, 3, [20, 2, 3, 16, 14], 0),
  (77, .getfield 122, 3, [16, 0, 3, 14, 1], 0),
  (80, .iconst 3, 1, [], 0),
  (81, .iload 4, 2, [], 0),
  (83, .invokevirtual 225, 3, [0, 26, 4, 0, 12], 0),
  (86, .pop, 1, [], 0),
  (87, .aload_n 0, 1, [], 0),
  (88, .getfield 48, 3, [20, 6, 3, 12, 72], 0),
  (91, .aload_n 0, 1, [], 0),
  (92, .getfield 26, 3, [20, 2, 3, 16, 14], 0),
  (95, .getfield 122, 3, [16, 0, 3, 14, 1], 0),
  (98, .iload_n 1, 1, [], 0),
  (99, .invokevirtual 243, 3, [0, 36, 3, 0, 12], 0),
  (102, .istore 5, 2, [], 0),
  (104, .iload 5, 2, [], 0),
  (106, .iconst (-1), 1, [], 0),
  (107, .if_icmp .eq 15, 3, [], 0),
  (110, .iload 5, 2, [], 0),
  (112, .iload_n 3, 1, [], 0),
  (113, .if_icmp .ge 9, 3, [], 0),
  (116, .iload 5, 2, [], 0),
  (118, .istore_n 3, 1, [], 0),
  (119, .iload 4, 2, [], 0),
  (121, .istore_n 2, 1, [], 0),
  (122, .iinc 4 1, 3, [], 0),
  (125, .goto (-85), 3, [], 0),
  (128, .iload_n 2, 1, [], 0),
  (129, .ireturn, 1, [], 0)]
/-- 131: HiccupTown.joins(I)I -/
def T_X11_joins : List mm_E := [(0, .aload_n 0, 1, [], 0),
  (1, .getfield 26, 3, [20, 2, 3, 16, 14], 0),
  (4, .getfield 122, 3, [16, 0, 3, 14, 1], 0),
  (7, .iconst 1, 1, [], 0),
  (8, .iload_n 1, 1, [], 0),
  (9, .invokevirtual 123, 3, [0, 51, 3, 0, 14], 0),
  (12, .ifCond .eq 17, 3, [], 0),
  (15, .aload_n 0, 1, [], 0),
  (16, .getfield 26, 3, [20, 2, 3, 16, 14], 0),
  (19, .getfield 136, 3, [16, 1, 3, 12, 11], 0),
  (22, .iload_n 1, 1, [], 0),
  (23, .invokevirtual 146, 3, [0, 17, 2, 0, 12], 0),
  (26, .ifCond .ne 5, 3, [], 0),
  (29, .iconst (-1), 1, [], 0),
  (30, .ireturn, 1, [], 0),
  (31, .aload_n 0, 1, [], 0),
  (32, .getfield 48, 3, [20, 6, 3, 12, 72], 0),
  (35, .aload_n 0, 1, [], 0),
  (36, .getfield 26, 3, [20, 2, 3, 16, 14], 0),
  (39, .getfield 136, 3, [16, 1, 3, 12, 11], 0),
  (42, .invokevirtual 212, 3, [0, 16, 2, 8, 12], 0),
  (45, .aload_n 0, 1, [], 0),
  (46, .getfield 48, 3, [20, 6, 3, 12, 72], 0),
  (49, .aload_n 0, 1, [], 0),
  (50, .getfield 26, 3, [20, 2, 3, 16, 14], 0),
  (53, .getfield 122, 3, [16, 0, 3, 14, 1], 0),
  (56, .iload_n 1, 1, [], 0),
  (57, .invokevirtual 277, 3, [0, 37, 3, 0, 12], 0),
  (60, .ireturn, 1, [], 0)]
/-- 132: HiccupTown.vote()I -/
def T_X11_vote : List mm_E := [(0, .aload_n 0, 1, [], 0),
  (1, .aload_n 0, 1, [], 0),
  (2, .getfield 26, 3, [20, 2, 3, 16, 14], 0),
  (5, .getfield 136, 3, [16, 1, 3, 12, 11], 0),
  (8, .getfield 195, 3, [12, 5, 0], 0),
  (11, .putfield 83, 3, [20, 14, 0], 0),
  (14, .iconst 1, 1, [], 0),
  (15, .istore_n 1, 1, [], 0),
  (16, .iload_n 1, 1, [], 0),
  (17, .bipush 10, 2, [], 0),
  (19, .if_icmp .ge 46, 3, [], 0),
  (22, .aload_n 0, 1, [], 0),
  (23, .getfield 26, 3, [20, 2, 3, 16, 14], 0),
  (26, .getfield 136, 3, [16, 1, 3, 12, 11], 0),
  (29, .aload_n 0, 1, [], 0),
  (30, .getfield 26, 3, [20, 2, 3, 16, 14], 0),
  (33, .getfield 122, 3, [16, 0, 3, 14, 1], 0),
  (36, .aload_n 0, 1, [], 0),
  (37, .getfield 83, 3, [20, 14, 0], 0),
  (40, .invokevirtual 280, 3, [0, 43, 3, 0, 12], 0),
  (43, .istore_n 2, 1, [], 0),
  (44, .iload_n 2, 1, [], 0),
  (45, .aload_n 0, 1, [], 0),
  (46, .getfield 83, 3, [20, 14, 0], 0),
  (49, .if_icmp .ne 5, 3, [], 0),
  (52, .iload_n 1, 1, [], 0),
  (53, .ireturn, 1, [], 0),
  (54, .aload_n 0, 1, [], 0),
  (55, .iload_n 2, 1, [], 0),
  (56, .putfield 83, 3, [20, 14, 0], 0),
  (59, .iinc 1 1, 3, [], 0),
  (62, .goto (-46), 3, [], 0),
  (65, .aload_n 0, 1, [], 0),
  (66, .aload_n 0, 1, [], 0),
  (67, .getfield 26, 3, [20, 2, 3, 16, 14], 0),
  (70, .getfield 136, 3, [16, 1, 3, 12, 11], 0),
  (73, .aload_n 0, 1, [], 0),
  (74, .getfield 26, 3, [20, 2, 3, 16, 14], 0),
  (77, .getfield 122, 3, [16, 0, 3, 14, 1], 0),
  (80, .aload_n 0, 1, [], 0),
  (81, .getfield 83, 3, [20, 14, 0], 0),
  (84, .invokevirtual 280, 3, [0, 43, 3, 0, 12], 0),
  (87, .putfield 83, 3, [20, 14, 0], 0),
  (90, .bipush 10, 2, [], 0),
  (92, .ireturn, 1, [], 0)]
/-- 133: HiccupTown.voted()I -/
def T_X11_voted : List mm_E := [(0, .aload_n 0, 1, [], 0),
  (1, .getfield 83, 3, [20, 14, 0], 0),
  (4, .ireturn, 1, [], 0)]
/-- 134: HiccupTown.tag(I)I -/
def T_X11_tag : List mm_E := [(0, .aload_n 0, 1, [], 0),
  (1, .getfield 26, 3, [20, 2, 3, 16, 14], 0),
  (4, .getfield 122, 3, [16, 0, 3, 14, 1], 0),
  (7, .iconst 1, 1, [], 0),
  (8, .iload_n 1, 1, [], 0),
  (9, .invokevirtual 123, 3, [0, 51, 3, 0, 14], 0),
  (12, .ifCond .ne 5, 3, [], 0),
  (15, .iconst (-1), 1, [], 0),
  (16, .ireturn, 1, [], 0),
  (17, .aload_n 0, 1, [], 0),
  (18, .iconst 0, 1, [], 0),
  (19, .putfield 283, 3, [20, 12, 0], 0),
  (22, .aload_n 0, 1, [], 0),
  (23, .aload_n 0, 1, [], 0),
  (24, .getfield 26, 3, [20, 2, 3, 16, 14], 0),
  (27, .getfield 122, 3, [16, 0, 3, 14, 1], 0),
  (30, .iconst 1, 1, [], 0),
  (31, .iload_n 1, 1, [], 0),
  (32, .invokevirtual 286, 3, [0, 57, 3, 1, 14], 0),
  (35, .invokevirtual 290, 3, [0, 149, 2, 8, 20], 0),
  (38, .aload_n 0, 1, [], 0),
  (39, .ldc_w 294, 3, [3], 0),
  (42, .invokevirtual 296, 3, [0, 150, 2, 8, 20], 0),
  (45, .aload_n 0, 1, [], 0),
  (46, .aload_n 0, 1, [], 0),
  (47, .getfield 26, 3, [20, 2, 3, 16, 14], 0),
  (50, .getfield 136, 3, [16, 1, 3, 12, 11], 0),
  (53, .getfield 139, 3, [12, 6, 3, 25, 1], 0),
  (56, .iload_n 1, 1, [], 0),
  (57, .iaload, 1, [], 0),
  (58, .invokevirtual 299, 3, [0, 151, 2, 8, 20], 0),
  (61, .aload_n 0, 1, [], 0),
  (62, .getfield 26, 3, [20, 2, 3, 16, 14], 0),
  (65, .getfield 136, 3, [16, 1, 3, 12, 11], 0),
  (68, .iload_n 1, 1, [], 0),
  (69, .invokevirtual 146, 3, [0, 17, 2, 0, 12], 0),
  (72, .ifCond .eq 13, 3, [], 0),
  (75, .aload_n 0, 1, [], 0),
  (76, .ldc_w 302, 3, [3], 1),
  (79, .invokevirtual 296, 3, [0, 150, 2, 8, 20], 0),
  (82, .goto 29, 3, [], 0),
  (85, .aload_n 0, 1, [], 0),
  (86, .aload_n 0, 1, [], 0),
  (87, .getfield 26, 3, [20, 2, 3, 16, 14], 0),
  (90, .getfield 136, 3, [16, 1, 3, 12, 11], 0),
  (93, .getfield 188, 3, [12, 3, 0], 0),
  (96, .ifCond .eq 9, 3, [], 0),
  (99, .ldc_w 304, 3, [3], 2),
  (102, .goto 6, 3, [], 0),
  (105, .ldc_w 306, 3, [3], 3),
  (108, .invokevirtual 296, 3, [0, 150, 2, 8, 20], 0),
  (111, .aload_n 0, 1, [], 0),
  (112, .getfield 283, 3, [20, 12, 0], 0),
  (115, .ireturn, 1, [], 0)]
/-- 135: HiccupTown.byteAt(I)I -/
def T_X11_byteAt : List mm_E := [(0, .iload_n 1, 1, [], 0),
  (1, .ifCond .lt 11, 3, [], 0),
  (4, .iload_n 1, 1, [], 0),
  (5, .aload_n 0, 1, [], 0),
  (6, .getfield 283, 3, [20, 12, 0], 0),
  (9, .if_icmp .lt 7, 3, [], 0),
  (12, .iconst (-1), 1, [], 0),
  (13, .goto 9, 3, [], 0),
  (16, .aload_n 0, 1, [], 0),
  (17, .getfield 79, 3, [20, 11, 3, 30, 94], 0),
  (20, .iload_n 1, 1, [], 0),
  (21, .baload, 1, [], 0),
  (22, .ireturn, 1, [], 0)]
/-- 136: HiccupTown.drawn(II)I -/
def T_X11_drawn : List mm_E := [(0, .iload_n 1, 1, [], 0),
  (1, .iconst 1, 1, [], 0),
  (2, .if_icmp .lt 9, 3, [], 0),
  (5, .iload_n 1, 1, [], 0),
  (6, .bipush 60, 2, [], 0),
  (8, .if_icmp .le 5, 3, [], 0),
  (11, .iconst (-1), 1, [], 0),
  (12, .ireturn, 1, [], 0),
  (13, .aload_n 0, 1, [], 0),
  (14, .getfield 44, 3, [20, 5, 3, 12, 68], 0),
  (17, .aload_n 0, 1, [], 0),
  (18, .getfield 26, 3, [20, 2, 3, 16, 14], 0),
  (21, .getfield 136, 3, [16, 1, 3, 12, 11], 0),
  (24, .invokevirtual 212, 3, [0, 16, 2, 8, 12], 0),
  (27, .aload_n 0, 1, [], 0),
  (28, .getfield 26, 3, [20, 2, 3, 16, 14], 0),
  (31, .getfield 136, 3, [16, 1, 3, 12, 11], 0),
  (34, .aload_n 0, 1, [], 0),
  (35, .getfield 26, 3, [20, 2, 3, 16, 14], 0),
  (38, .getfield 122, 3, [16, 0, 3, 14, 1], 0),
  (41, .iload_n 1, 1, [], 0),
  (42, .iload_n 2, 1, [], 0),
  (43, .invokevirtual 308, 3, [0, 38, 4, 0, 12], 0),
  (46, .istore_n 3, 1, [], 0),
  (47, .aload_n 0, 1, [], 0),
  (48, .iload_n 3, 1, [], 0),
  (49, .ifCond .le 7, 3, [], 0),
  (52, .iconst 1, 1, [], 0),
  (53, .goto 4, 3, [], 0),
  (56, .iconst 0, 1, [], 0),
  (57, .invokevirtual 229, 3, [0, 147, 2, 8, 20], 0),
  (60, .iload_n 3, 1, [], 0),
  (61, .ireturn, 1, [], 0)]
/-- 137: HiccupTown.odds(III)I -/
def T_X11_odds : List mm_E := [(0, .aload_n 0, 1, [], 0),
  (1, .getfield 26, 3, [20, 2, 3, 16, 14], 0),
  (4, .getfield 122, 3, [16, 0, 3, 14, 1], 0),
  (7, .iconst 2, 1, [], 0),
  (8, .iload_n 1, 1, [], 0),
  (9, .invokevirtual 123, 3, [0, 51, 3, 0, 14], 0),
  (12, .ifCond .eq 14, 3, [], 0),
  (15, .iload_n 2, 1, [], 0),
  (16, .iconst 1, 1, [], 0),
  (17, .if_icmp .lt 9, 3, [], 0),
  (20, .iload_n 2, 1, [], 0),
  (21, .bipush 30, 2, [], 0),
  (23, .if_icmp .le 5, 3, [], 0),
  (26, .iconst (-1), 1, [], 0),
  (27, .ireturn, 1, [], 0),
  (28, .iconst 0, 1, [], 0),
  (29, .istore 4, 2, [], 0),
  (31, .iconst 0, 1, [], 0),
  (32, .istore 5, 2, [], 0),
  (34, .iload 5, 2, [], 0),
  (36, .iload_n 2, 1, [], 0),
  (37, .if_icmp .ge 58, 3, [], 0),
  (40, .aload_n 0, 1, [], 0),
  (41, .getfield 48, 3, [20, 6, 3, 12, 72], 0),
  (44, .aload_n 0, 1, [], 0),
  (45, .getfield 26, 3, [20, 2, 3, 16, 14], 0),
  (48, .getfield 136, 3, [16, 1, 3, 12, 11], 0),
  (51, .invokevirtual 212, 3, [0, 16, 2, 8, 12], 0),
  (54, .aload_n 0, 1, [], 0),
  (55, .getfield 48, 3, [20, 6, 3, 12, 72], 0),
  (58, .aload_n 0, 1, [], 0),
  (59, .getfield 26, 3, [20, 2, 3, 16, 14], 0),
  (62, .getfield 122, 3, [16, 0, 3, 14, 1], 0),
  (65, .bipush 60, 2, [], 0),
  (67, .iload_n 3, 1, [], 0),
  (68, .iload 5, 2, [], 0),
  (70, .iadd, 1, [], 0),
  (71, .invokevirtual 308, 3, [0, 38, 4, 0, 12], 0),
  (74, .pop, 1, [], 0),
  (75, .aload_n 0, 1, [], 0),
  (76, .getfield 48, 3, [20, 6, 3, 12, 72], 0),
  (79, .iload_n 1, 1, [], 0),
  (80, .invokevirtual 271, 3, [0, 18, 2, 0, 12], 0),
  (83, .ifCond .eq 6, 3, [], 0),
  (86, .iinc 4 1, 3, [], 0),
  (89, .iinc 5 1, 3, [], 0),
  (92, .goto (-58), 3, [], 0),
  (95, .iload 4, 2, [], 0),
  (97, .ireturn, 1, [], 0)]
/-- 138: HiccupTown.book(I)I -/
def T_X11_book : List mm_E := [(0, .iload_n 1, 1, [], 0),
  (1, .ifCond .eq 12, 3, [], 0),
  (4, .iload_n 1, 1, [], 0),
  (5, .iconst 1, 1, [], 0),
  (6, .if_icmp .eq 7, 3, [], 0),
  (9, .sipush (-1000), 3, [], 0),
  (12, .ireturn, 1, [], 0),
  (13, .aload_n 0, 1, [], 0),
  (14, .getfield 10, 3, [20, 0, 3, 18, 1], 0),
  (17, .sipush 400, 3, [], 0),
  (20, .invokevirtual 94, 3, [0, 83, 2, 8, 18], 0),
  (23, .aload_n 0, 1, [], 0),
  (24, .getfield 68, 3, [20, 9, 3, 10, 87], 0),
  (27, .aload_n 0, 1, [], 0),
  (28, .getfield 10, 3, [20, 0, 3, 18, 1], 0),
  (31, .aload_n 0, 1, [], 0),
  (32, .getfield 26, 3, [20, 2, 3, 16, 14], 0),
  (35, .getfield 122, 3, [16, 0, 3, 14, 1], 0),
  (38, .invokevirtual 311, 3, [0, 0, 3, 0, 10], 0),
  (41, .pop, 1, [], 0),
  (42, .aload_n 0, 1, [], 0),
  (43, .invokevirtual 101, 3, [0, 145, 1, 0, 20], 0),
  (46, .ifCond .eq 14, 3, [], 0),
  (49, .bipush (-2), 2, [], 0),
  (51, .aload_n 0, 1, [], 0),
  (52, .getfield 10, 3, [20, 0, 3, 18, 1], 0),
  (55, .getfield 105, 3, [18, 9, 0], 0),
  (58, .isub, 1, [], 0),
  (59, .ireturn, 1, [], 0),
  (60, .aload_n 0, 1, [], 0),
  (61, .getfield 44, 3, [20, 5, 3, 12, 68], 0),
  (64, .aload_n 0, 1, [], 0),
  (65, .getfield 26, 3, [20, 2, 3, 16, 14], 0),
  (68, .getfield 136, 3, [16, 1, 3, 12, 11], 0),
  (71, .invokevirtual 212, 3, [0, 16, 2, 8, 12], 0),
  (74, .aload_n 0, 1, [], 0),
  (75, .getfield 68, 3, [20, 9, 3, 10, 87], 0),
  (78, .aload_n 0, 1, [], 0),
  (79, .getfield 26, 3, [20, 2, 3, 16, 14], 0),
  (82, .getfield 122, 3, [16, 0, 3, 14, 1], 0),
  (85, .aload_n 0, 1, [], 0),
  (86, .getfield 26, 3, [20, 2, 3, 16, 14], 0),
  (89, .getfield 136, 3, [16, 1, 3, 12, 11], 0),
  (92, .invokevirtual 315, 3, [0, 7, 3, 0, 10], 0),
  (95, .istore_n 2, 1, [], 0),
  (96, .iload_n 1, 1, [], 0),
  (97, .ifCond .ne 20, 3, [], 0),
  (100, .aload_n 0, 1, [], 0),
  (101, .getfield 26, 3, [20, 2, 3, 16, 14], 0),
  (104, .getfield 136, 3, [16, 1, 3, 12, 11], 0),
  (107, .aload_n 0, 1, [], 0),
  (108, .getfield 44, 3, [20, 5, 3, 12, 68], 0),
  (111, .invokevirtual 212, 3, [0, 16, 2, 8, 12], 0),
  (114, .goto 22, 3, [], 0),
  (117, .aload_n 0, 1, [], 0),
  (118, .aload_n 0, 1, [], 0),
  (119, .getfield 68, 3, [20, 9, 3, 10, 87], 0),
  (122, .getfield 319, 3, [10, 5, 0], 0),
  (125, .ifCond .le 7, 3, [], 0),
  (128, .iconst 1, 1, [], 0),
  (129, .goto 4, 3, [], 0),
  (132, .iconst 0, 1, [], 0),
  (133, .invokevirtual 229, 3, [0, 147, 2, 8, 20], 0),
  (136, .iload_n 2, 1, [], 0),
  (137, .ireturn, 1, [], 0)]
/-- 139: HiccupTown.told(I)I -/
def T_X11_told : List mm_E := [(0, .aload_n 0, 1, [], 0),
  (1, .getfield 68, 3, [20, 9, 3, 10, 87], 0),
  (4, .iload_n 1, 1, [], 0),
  (5, .invokevirtual 322, 3, [0, 8, 2, 0, 10], 0),
  (8, .ireturn, 1, [], 0)]
/-- 140: HiccupTown.sentence()I -/
def T_X11_sentence : List mm_E := [(0, .aload_n 0, 1, [], 0),
  (1, .getfield 10, 3, [20, 0, 3, 18, 1], 0),
  (4, .sipush 200, 3, [], 0),
  (7, .invokevirtual 94, 3, [0, 83, 2, 8, 18], 0),
  (10, .aload_n 0, 1, [], 0),
  (11, .getfield 75, 3, [20, 10, 3, 17, 90], 0),
  (14, .aload_n 0, 1, [], 0),
  (15, .getfield 10, 3, [20, 0, 3, 18, 1], 0),
  (18, .aload_n 0, 1, [], 0),
  (19, .getfield 26, 3, [20, 2, 3, 16, 14], 0),
  (22, .getfield 122, 3, [16, 0, 3, 14, 1], 0),
  (25, .invokevirtual 325, 3, [0, 70, 3, 0, 17], 0),
  (28, .pop, 1, [], 0),
  (29, .aload_n 0, 1, [], 0),
  (30, .invokevirtual 101, 3, [0, 145, 1, 0, 20], 0),
  (33, .ifCond .eq 13, 3, [], 0),
  (36, .iconst (-1), 1, [], 0),
  (37, .aload_n 0, 1, [], 0),
  (38, .getfield 10, 3, [20, 0, 3, 18, 1], 0),
  (41, .getfield 105, 3, [18, 9, 0], 0),
  (44, .isub, 1, [], 0),
  (45, .ireturn, 1, [], 0),
  (46, .aload_n 0, 1, [], 0),
  (47, .getfield 26, 3, [20, 2, 3, 16, 14], 0),
  (50, .getfield 328, 3, [16, 2, 3, 17, 15], 0),
  (53, .aload_n 0, 1, [], 0),
  (54, .getfield 75, 3, [20, 10, 3, 17, 90], 0),
  (57, .invokevirtual 331, 3, [0, 69, 2, 8, 17], 0),
  (60, .aload_n 0, 1, [], 0),
  (61, .getfield 26, 3, [20, 2, 3, 16, 14], 0),
  (64, .getfield 328, 3, [16, 2, 3, 17, 15], 0),
  (67, .getfield 334, 3, [17, 4, 0], 0),
  (70, .ireturn, 1, [], 0)]
/-- 141: HiccupTown.said(I)I -/
def T_X11_said : List mm_E := [(0, .aload_n 0, 1, [], 0),
  (1, .getfield 26, 3, [20, 2, 3, 16, 14], 0),
  (4, .getfield 328, 3, [16, 2, 3, 17, 15], 0),
  (7, .invokevirtual 337, 3, [0, 68, 1, 0, 17], 0),
  (10, .ifCond .ne 5, 3, [], 0),
  (13, .iconst (-1), 1, [], 0),
  (14, .ireturn, 1, [], 0),
  (15, .iconst 0, 1, [], 0),
  (16, .istore_n 2, 1, [], 0),
  (17, .iconst 0, 1, [], 0),
  (18, .istore_n 3, 1, [], 0),
  (19, .iload_n 3, 1, [], 0),
  (20, .aload_n 0, 1, [], 0),
  (21, .getfield 26, 3, [20, 2, 3, 16, 14], 0),
  (24, .getfield 122, 3, [16, 0, 3, 14, 1], 0),
  (27, .getfield 340, 3, [14, 2, 3, 22, 1], 0),
  (30, .iconst 1, 1, [], 0),
  (31, .iaload, 1, [], 0),
  (32, .if_icmp .ge 47, 3, [], 0),
  (35, .aload_n 0, 1, [], 0),
  (36, .getfield 26, 3, [20, 2, 3, 16, 14], 0),
  (39, .getfield 328, 3, [16, 2, 3, 17, 15], 0),
  (42, .aload_n 0, 1, [], 0),
  (43, .getfield 26, 3, [20, 2, 3, 16, 14], 0),
  (46, .getfield 122, 3, [16, 0, 3, 14, 1], 0),
  (49, .aload_n 0, 1, [], 0),
  (50, .getfield 26, 3, [20, 2, 3, 16, 14], 0),
  (53, .getfield 136, 3, [16, 1, 3, 12, 11], 0),
  (56, .iload_n 3, 1, [], 0),
  (57, .invokevirtual 343, 3, [0, 77, 4, 0, 17], 0),
  (60, .ifCond .eq 13, 3, [], 0),
  (63, .iload_n 2, 1, [], 0),
  (64, .iload_n 1, 1, [], 0),
  (65, .if_icmp .ne 5, 3, [], 0),
  (68, .iload_n 3, 1, [], 0),
  (69, .ireturn, 1, [], 0),
  (70, .iinc 2 1, 3, [], 0),
  (73, .iinc 3 1, 3, [], 0),
  (76, .goto (-57), 3, [], 0),
  (79, .iload_n 1, 1, [], 0),
  (80, .iconst (-1), 1, [], 0),
  (81, .if_icmp .ne 7, 3, [], 0),
  (84, .iload_n 2, 1, [], 0),
  (85, .goto 4, 3, [], 0),
  (88, .iconst (-1), 1, [], 0),
  (89, .ireturn, 1, [], 0)]
/-- 142: HiccupTown.image(I)Z -/
def T_X11_image : List mm_E := [(0, .iload_n 1, 1, [], 0),
  (1, .ifCond .lt 8, 3, [], 0),
  (4, .iload_n 1, 1, [], 0),
  (5, .iconst 2, 1, [], 0),
  (6, .if_icmp .lt 5, 3, [], 0),
  (9, .iconst 0, 1, [], 0),
  (10, .ireturn, 1, [5], 0),
  (11, .aload_n 0, 1, [], 0),
  (12, .getfield 30, 3, [20, 3, 3, 34, 33], 0),
  (15, .iload_n 1, 1, [], 0),
  (16, .aaload, 1, [], 0),
  (17, .aload_n 0, 1, [], 0),
  (18, .getfield 26, 3, [20, 2, 3, 16, 14], 0),
  (21, .invokevirtual 347, 3, [0, 66, 2, 8, 16], 0),
  (24, .aload_n 0, 1, [], 0),
  (25, .getfield 30, 3, [20, 3, 3, 34, 33], 0),
  (28, .iload_n 1, 1, [], 0),
  (29, .aaload, 1, [], 0),
  (30, .iconst 1, 1, [], 0),
  (31, .putfield 350, 3, [16, 3, 5], 0),
  (34, .iconst 1, 1, [], 0),
  (35, .ireturn, 1, [5], 0)]
/-- 143: HiccupTown.restore(I)Z -/
def T_X11_restore : List mm_E := [(0, .iload_n 1, 1, [], 0),
  (1, .ifCond .lt 20, 3, [], 0),
  (4, .iload_n 1, 1, [], 0),
  (5, .iconst 2, 1, [], 0),
  (6, .if_icmp .ge 15, 3, [], 0),
  (9, .aload_n 0, 1, [], 0),
  (10, .getfield 30, 3, [20, 3, 3, 34, 33], 0),
  (13, .iload_n 1, 1, [], 0),
  (14, .aaload, 1, [], 0),
  (15, .getfield 350, 3, [16, 3, 0], 0),
  (18, .ifCond .ne 5, 3, [], 0),
  (21, .iconst 0, 1, [], 0),
  (22, .ireturn, 1, [5], 0),
  (23, .aload_n 0, 1, [], 0),
  (24, .getfield 26, 3, [20, 2, 3, 16, 14], 0),
  (27, .aload_n 0, 1, [], 0),
  (28, .getfield 30, 3, [20, 3, 3, 34, 33], 0),
  (31, .iload_n 1, 1, [], 0),
  (32, .aaload, 1, [], 0),
  (33, .invokevirtual 347, 3, [0, 66, 2, 8, 16], 0),
  (36, .aload_n 0, 1, [], 0),
  (37, .getfield 37, 3, [20, 4, 3, 13, 34], 0),
  (40, .invokevirtual 116, 3, [0, 46, 1, 8, 13], 0),
  (43, .iconst 1, 1, [], 0),
  (44, .ireturn, 1, [5], 0)]
/-- 144: HiccupTown.count(I)I -/
def T_X11_count : List mm_E := [(0, .iload_n 1, 1, [], 0),
  (1, .tableswitch 110 0 5 #[39, 50, 63, 76, 89, 102], 39, [], 0),
  (40, .aload_n 0, 1, [], 0),
  (41, .getfield 26, 3, [20, 2, 3, 16, 14], 0),
  (44, .getfield 122, 3, [16, 0, 3, 14, 1], 0),
  (47, .getfield 240, 3, [14, 0, 0], 0),
  (50, .ireturn, 1, [], 0),
  (51, .aload_n 0, 1, [], 0),
  (52, .getfield 26, 3, [20, 2, 3, 16, 14], 0),
  (55, .getfield 122, 3, [16, 0, 3, 14, 1], 0),
  (58, .getfield 340, 3, [14, 2, 3, 22, 1], 0),
  (61, .iconst 0, 1, [], 0),
  (62, .iaload, 1, [], 0),
  (63, .ireturn, 1, [], 0),
  (64, .aload_n 0, 1, [], 0),
  (65, .getfield 26, 3, [20, 2, 3, 16, 14], 0),
  (68, .getfield 122, 3, [16, 0, 3, 14, 1], 0),
  (71, .getfield 340, 3, [14, 2, 3, 22, 1], 0),
  (74, .iconst 1, 1, [], 0),
  (75, .iaload, 1, [], 0),
  (76, .ireturn, 1, [], 0),
  (77, .aload_n 0, 1, [], 0),
  (78, .getfield 26, 3, [20, 2, 3, 16, 14], 0),
  (81, .getfield 122, 3, [16, 0, 3, 14, 1], 0),
  (84, .getfield 340, 3, [14, 2, 3, 22, 1], 0),
  (87, .iconst 2, 1, [], 0),
  (88, .iaload, 1, [], 0),
  (89, .ireturn, 1, [], 0),
  (90, .aload_n 0, 1, [], 0),
  (91, .getfield 26, 3, [20, 2, 3, 16, 14], 0),
  (94, .getfield 122, 3, [16, 0, 3, 14, 1], 0),
  (97, .getfield 340, 3, [14, 2, 3, 22, 1], 0),
  (100, .iconst 3, 1, [], 0),
  (101, .iaload, 1, [], 0),
  (102, .ireturn, 1, [], 0),
  (103, .aload_n 0, 1, [], 0),
  (104, .getfield 10, 3, [20, 0, 3, 18, 1], 0),
  (107, .getfield 87, 3, [18, 1, 0], 0),
  (110, .ireturn, 1, [], 0),
  (111, .iconst (-1), 1, [], 0),
  (112, .ireturn, 1, [], 0)]
/-- 145: HiccupTown.endText()Z -/
def T_X11_endText : List mm_E := [(0, .aload_n 0, 1, [], 0),
  (1, .getfield 10, 3, [20, 0, 3, 18, 1], 0),
  (4, .iconst 0, 1, [], 0),
  (5, .putfield 87, 3, [18, 1, 0], 0),
  (8, .aload_n 0, 1, [], 0),
  (9, .aload_n 0, 1, [], 0),
  (10, .getfield 10, 3, [20, 0, 3, 18, 1], 0),
  (13, .getfield 353, 3, [18, 8, 0], 0),
  (16, .putfield 119, 3, [20, 13, 0], 0),
  (19, .aload_n 0, 1, [], 0),
  (20, .getfield 10, 3, [20, 0, 3, 18, 1], 0),
  (23, .getfield 353, 3, [18, 8, 0], 0),
  (26, .ifCond .eq 7, 3, [], 0),
  (29, .iconst 1, 1, [], 0),
  (30, .goto 4, 3, [], 0),
  (33, .iconst 0, 1, [], 0),
  (34, .ireturn, 1, [5], 0)]
/-- 146: HiccupTown.actKept(II)I -/
def T_X11_actKept : List mm_E := [(0, .aload_n 0, 1, [], 0),
  (1, .getfield 44, 3, [20, 5, 3, 12, 68], 0),
  (4, .aload_n 0, 1, [], 0),
  (5, .getfield 26, 3, [20, 2, 3, 16, 14], 0),
  (8, .getfield 136, 3, [16, 1, 3, 12, 11], 0),
  (11, .invokevirtual 212, 3, [0, 16, 2, 8, 12], 0),
  (14, .aload_n 0, 1, [], 0),
  (15, .getfield 26, 3, [20, 2, 3, 16, 14], 0),
  (18, .getfield 136, 3, [16, 1, 3, 12, 11], 0),
  (21, .aload_n 0, 1, [], 0),
  (22, .getfield 26, 3, [20, 2, 3, 16, 14], 0),
  (25, .getfield 122, 3, [16, 0, 3, 14, 1], 0),
  (28, .iload_n 1, 1, [], 0),
  (29, .iload_n 2, 1, [], 0),
  (30, .invokevirtual 225, 3, [0, 26, 4, 0, 12], 0),
  (33, .istore_n 3, 1, [], 0),
  (34, .aload_n 0, 1, [], 0),
  (35, .iload_n 3, 1, [], 0),
  (36, .ifCond .ne 7, 3, [], 0),
  (39, .iconst 1, 1, [], 0),
  (40, .goto 4, 3, [], 0),
  (43, .iconst 0, 1, [], 0),
  (44, .invokevirtual 229, 3, [0, 147, 2, 8, 20], 0),
  (47, .iload_n 3, 1, [], 0),
  (48, .ireturn, 1, [], 0)]
/-- 147: HiccupTown.keepBefore(Z)V -/
def T_X11_keepBefore : List mm_E := [(0, .iload_n 1, 1, [], 0),
  (1, .ifCond .eq 14, 3, [], 0),
  (4, .aload_n 0, 1, [], 0),
  (5, .getfield 37, 3, [20, 4, 3, 13, 34], 0),
  (8, .aload_n 0, 1, [], 0),
  (9, .getfield 44, 3, [20, 5, 3, 12, 68], 0),
  (12, .invokevirtual 356, 3, [0, 47, 2, 8, 13], 0),
  (15, .return_, 1, [], 0)]
/-- 148: HiccupTown.tagByte(I)V -/
def T_X11_tagByte : List mm_E := [(0, .aload_n 0, 1, [], 0),
  (1, .getfield 283, 3, [20, 12, 0], 0),
  (4, .bipush 21, 2, [], 0),
  (6, .if_icmp .ge 24, 3, [], 0),
  (9, .aload_n 0, 1, [], 0),
  (10, .getfield 79, 3, [20, 11, 3, 30, 94], 0),
  (13, .aload_n 0, 1, [], 0),
  (14, .getfield 283, 3, [20, 12, 0], 0),
  (17, .iload_n 1, 1, [], 0),
  (18, .i2b, 1, [], 0),
  (19, .bastore, 1, [], 0),
  (20, .aload_n 0, 1, [], 0),
  (21, .dup, 1, [], 0),
  (22, .getfield 283, 3, [20, 12, 0], 0),
  (25, .iconst 1, 1, [], 0),
  (26, .iadd, 1, [], 0),
  (27, .putfield 283, 3, [20, 12, 0], 0),
  (30, .return_, 1, [], 0)]
/-- 149: HiccupTown.tagName(J)V -/
def T_X11_tagName : List mm_E := [(0, .bipush 48, 2, [], 0),
  (2, .istore_n 3, 1, [], 0),
  (3, .iload_n 3, 1, [], 0),
  (4, .ifCond .lt 30, 3, [], 0),
  (7, .lload_n 1, 1, [], 0),
  (8, .iload_n 3, 1, [], 0),
  (9, .lushr, 1, [], 0),
  (10, .l2i, 1, [], 0),
  (11, .sipush 255, 3, [], 0),
  (14, .iand, 1, [], 0),
  (15, .istore 4, 2, [], 0),
  (17, .iload 4, 2, [], 0),
  (19, .ifCond .eq 9, 3, [], 0),
  (22, .aload_n 0, 1, [], 0),
  (23, .iload 4, 2, [], 0),
  (25, .invokevirtual 361, 3, [0, 148, 2, 8, 20], 0),
  (28, .iinc 3 (-8), 3, [], 0),
  (31, .goto (-28), 3, [], 0),
  (34, .return_, 1, [], 0)]
/-- 150: HiccupTown.tagText(Ljava/lang/String;)V -/
def T_X11_tagText : List mm_E := [(0, .iconst 0, 1, [], 0),
  (1, .istore_n 2, 1, [], 0),
  (2, .iload_n 2, 1, [], 0),
  (3, .aload_n 1, 1, [], 0),
  (4, .invokevirtual 364, 3, [1], 0),
  (7, .if_icmp .ge 18, 3, [], 0),
  (10, .aload_n 0, 1, [], 0),
  (11, .aload_n 1, 1, [], 0),
  (12, .iload_n 2, 1, [], 0),
  (13, .invokevirtual 368, 3, [2], 0),
  (16, .invokevirtual 361, 3, [0, 148, 2, 8, 20], 0),
  (19, .iinc 2 1, 3, [], 0),
  (22, .goto (-20), 3, [], 0),
  (25, .return_, 1, [], 0)]
/-- 151: HiccupTown.tagNumber(I)V -/
def T_X11_tagNumber : List mm_E := [(0, .iload_n 1, 1, [], 0),
  (1, .bipush 10, 2, [], 0),
  (3, .if_icmp .lt 14, 3, [], 0),
  (6, .aload_n 0, 1, [], 0),
  (7, .bipush 48, 2, [], 0),
  (9, .iload_n 1, 1, [], 0),
  (10, .bipush 10, 2, [], 0),
  (12, .idiv, 1, [], 0),
  (13, .iadd, 1, [], 0),
  (14, .invokevirtual 361, 3, [0, 148, 2, 8, 20], 0),
  (17, .aload_n 0, 1, [], 0),
  (18, .bipush 48, 2, [], 0),
  (20, .iload_n 1, 1, [], 0),
  (21, .bipush 10, 2, [], 0),
  (23, .irem, 1, [], 0),
  (24, .iadd, 1, [], 0),
  (25, .invokevirtual 361, 3, [0, 148, 2, 8, 20], 0),
  (28, .return_, 1, [], 0)]
/-- 152: HiccupTown.hasBit(II)Z -/
def T_X11_hasBit : List mm_E := [(0, .iload_n 0, 1, [], 0),
  (1, .iload_n 1, 1, [], 0),
  (2, .iushr, 1, [], 0),
  (3, .iconst 1, 1, [], 0),
  (4, .iand, 1, [], 0),
  (5, .iconst 1, 1, [], 0),
  (6, .if_icmp .ne 7, 3, [], 0),
  (9, .iconst 1, 1, [], 0),
  (10, .goto 4, 3, [], 0),
  (13, .iconst 0, 1, [], 0),
  (14, .ireturn, 1, [5], 0)]
/-- 153: HiccupTown.remainder(II)I -/
def T_X11_remainder : List mm_E := [(0, .iload_n 1, 1, [], 0),
  (1, .ifCond .gt 7, 3, [], 0),
  (4, .iload_n 0, 1, [], 0),
  (5, .goto 6, 3, [], 0),
  (8, .iload_n 0, 1, [], 0),
  (9, .iload_n 1, 1, [], 0),
  (10, .irem, 1, [], 0),
  (11, .ireturn, 1, [], 0)]
/-- 154: HiccupTownModel.thrown()I -/
def T_X12_thrown : List mm_E := [(0, .aload_n 0, 1, [], 0),
  (1, .getfield 1, 3, [21, 0, 0], 0),
  (4, .ireturn, 1, [], 0)]
/-- 155: HiccupTownModel.refuse()I -/
def T_X12_refuse : List mm_E := [(0, .aload_n 0, 1, [], 0),
  (1, .iconst 1, 1, [], 0),
  (2, .putfield 1, 3, [21, 0, 0], 0),
  (5, .iconst 0, 1, [], 0),
  (6, .ireturn, 1, [], 0)]
/-- 156: HiccupTownModel.come(I)V -/
def T_X12_come : List mm_E := [(0, .bipush 24, 2, [], 0),
  (2, .istore_n 2, 1, [], 0),
  (3, .iload_n 2, 1, [], 0),
  (4, .ifCond .lt 35, 3, [], 0),
  (7, .aload_n 0, 1, [], 0),
  (8, .getfield 7, 3, [21, 1, 3, 36, 1], 0),
  (11, .aload_n 0, 1, [], 0),
  (12, .getfield 11, 3, [21, 2, 0], 0),
  (15, .iload_n 1, 1, [], 0),
  (16, .iload_n 2, 1, [], 0),
  (17, .iushr, 1, [], 0),
  (18, .sipush 255, 3, [], 0),
  (21, .iand, 1, [], 0),
  (22, .iastore, 1, [], 0),
  (23, .aload_n 0, 1, [], 0),
  (24, .dup, 1, [], 0),
  (25, .getfield 11, 3, [21, 2, 0], 0),
  (28, .iconst 1, 1, [], 0),
  (29, .iadd, 1, [], 0),
  (30, .putfield 11, 3, [21, 2, 0], 0),
  (33, .iinc 2 (-8), 3, [], 0),
  (36, .goto (-33), 3, [], 0),
  (39, .return_, 1, [], 0)]
/-- 157: HiccupTownModel.feed(IIIII)I -/
def T_X12_feed : List mm_E := [(0, .aload_n 0, 1, [], 0),
  (1, .iconst 0, 1, [], 0),
  (2, .putfield 1, 3, [21, 0, 0], 0),
  (5, .aload_n 0, 1, [], 0),
  (6, .getfield 11, 3, [21, 2, 0], 0),
  (9, .bipush 20, 2, [], 0),
  (11, .iadd, 1, [], 0),
  (12, .sipush 940, 3, [], 0),
  (15, .if_icmp .le 5, 3, [], 0),
  (18, .iconst (-1), 1, [], 0),
  (19, .ireturn, 1, [], 0),
  (20, .aload_n 0, 1, [], 0),
  (21, .iload_n 1, 1, [], 0),
  (22, .invokevirtual 14, 3, [0, 156, 2, 8, 21], 0),
  (25, .aload_n 0, 1, [], 0),
  (26, .iload_n 2, 1, [], 0),
  (27, .invokevirtual 14, 3, [0, 156, 2, 8, 21], 0),
  (30, .aload_n 0, 1, [], 0),
  (31, .iload_n 3, 1, [], 0),
  (32, .invokevirtual 14, 3, [0, 156, 2, 8, 21], 0),
  (35, .aload_n 0, 1, [], 0),
  (36, .iload 4, 2, [], 0),
  (38, .invokevirtual 14, 3, [0, 156, 2, 8, 21], 0),
  (41, .aload_n 0, 1, [], 0),
  (42, .iload 5, 2, [], 0),
  (44, .invokevirtual 14, 3, [0, 156, 2, 8, 21], 0),
  (47, .aload_n 0, 1, [], 0),
  (48, .getfield 11, 3, [21, 2, 0], 0),
  (51, .ireturn, 1, [], 0)]
/-- 158: HiccupTownModel.end(I)Z -/
def T_X12_end : List mm_E := [(0, .aload_n 0, 1, [], 0),
  (1, .iconst 0, 1, [], 0),
  (2, .putfield 1, 3, [21, 0, 0], 0),
  (5, .iload_n 1, 1, [], 0),
  (6, .ifCond .lt 11, 3, [], 0),
  (9, .iload_n 1, 1, [], 0),
  (10, .aload_n 0, 1, [], 0),
  (11, .getfield 11, 3, [21, 2, 0], 0),
  (14, .if_icmp .le 5, 3, [], 0),
  (17, .iconst 0, 1, [], 0),
  (18, .ireturn, 1, [5], 0),
  (19, .aload_n 0, 1, [], 0),
  (20, .iload_n 1, 1, [], 0),
  (21, .putfield 11, 3, [21, 2, 0], 0),
  (24, .iconst 1, 1, [], 0),
  (25, .ireturn, 1, [5], 0)]
/-- 159: HiccupTownModel.take()I -/
def T_X12_take : List mm_E := [(0, .aload_n 0, 1, [], 0),
  (1, .getfield 11, 3, [21, 2, 0], 0),
  (4, .istore_n 1, 1, [], 0),
  (5, .aload_n 0, 1, [], 0),
  (6, .iconst 0, 1, [], 0),
  (7, .putfield 11, 3, [21, 2, 0], 0),
  (10, .iload_n 1, 1, [], 0),
  (11, .ireturn, 1, [], 0)]
/-- 160: HiccupTownModel.isIn(III)Z -/
def T_X12_isIn : List mm_E := [(0, .iload_n 0, 1, [], 0),
  (1, .iload_n 1, 1, [], 0),
  (2, .if_icmp .lt 12, 3, [], 0),
  (5, .iload_n 0, 1, [], 0),
  (6, .iload_n 2, 1, [], 0),
  (7, .if_icmp .gt 7, 3, [], 0),
  (10, .iconst 1, 1, [], 0),
  (11, .goto 4, 3, [], 0),
  (14, .iconst 0, 1, [], 0),
  (15, .ireturn, 1, [5], 0)]
/-- 161: HiccupTownModel.has(II)Z -/
def T_X12_has : List mm_E := [(0, .iload_n 0, 1, [], 0),
  (1, .iload_n 1, 1, [], 0),
  (2, .ishr, 1, [], 0),
  (3, .iconst 1, 1, [], 0),
  (4, .iand, 1, [], 0),
  (5, .iconst 1, 1, [], 0),
  (6, .if_icmp .ne 7, 3, [], 0),
  (9, .iconst 1, 1, [], 0),
  (10, .goto 4, 3, [], 0),
  (13, .iconst 0, 1, [], 0),
  (14, .ireturn, 1, [5], 0)]
/-- 162: HiccupTownModel.least(II)I -/
def T_X12_least : List mm_E := [(0, .iload_n 0, 1, [], 0),
  (1, .iload_n 1, 1, [], 0),
  (2, .if_icmp .ge 7, 3, [], 0),
  (5, .iload_n 0, 1, [], 0),
  (6, .goto 4, 3, [], 0),
  (9, .iload_n 1, 1, [], 0),
  (10, .ireturn, 1, [], 0)]
/-- 163: HiccupTownModel.size(I)I -/
def T_X12_size : List mm_E := [(0, .iload_n 0, 1, [], 0),
  (1, .ifCond .ge 8, 3, [], 0),
  (4, .iload_n 0, 1, [], 0),
  (5, .ineg, 1, [], 0),
  (6, .goto 4, 3, [], 0),
  (9, .iload_n 0, 1, [], 0),
  (10, .ireturn, 1, [], 0)]
/-- 164: HiccupTownModel.common(II)I -/
def T_X12_common : List mm_E := [(0, .iload_n 0, 1, [], 0),
  (1, .istore_n 2, 1, [], 0),
  (2, .iload_n 1, 1, [], 0),
  (3, .istore_n 3, 1, [], 0),
  (4, .iload_n 3, 1, [], 0),
  (5, .ifCond .eq 16, 3, [], 0),
  (8, .iload_n 2, 1, [], 0),
  (9, .iload_n 3, 1, [], 0),
  (10, .irem, 1, [], 0),
  (11, .istore 4, 2, [], 0),
  (13, .iload_n 3, 1, [], 0),
  (14, .istore_n 2, 1, [], 0),
  (15, .iload 4, 2, [], 0),
  (17, .istore_n 3, 1, [], 0),
  (18, .goto (-14), 3, [], 0),
  (21, .iload_n 2, 1, [], 0),
  (22, .ireturn, 1, [], 0)]
/-- 165: HiccupTownModel.tapeAt(I)I -/
def T_X12_tapeAt : List mm_E := [(0, .iload_n 1, 1, [], 0),
  (1, .aload_n 0, 1, [], 0),
  (2, .getfield 18, 3, [21, 3, 0], 0),
  (5, .if_icmp .ge 12, 3, [], 0),
  (8, .aload_n 0, 1, [], 0),
  (9, .getfield 7, 3, [21, 1, 3, 36, 1], 0),
  (12, .iload_n 1, 1, [], 0),
  (13, .iaload, 1, [], 0),
  (14, .goto 4, 3, [], 0),
  (17, .iconst 0, 1, [], 0),
  (18, .ireturn, 1, [], 0)]
/-- 166: HiccupTownModel.isDigit(I)Z -/
def T_X12_isDigit : List mm_E := [(0, .iload_n 0, 1, [], 0),
  (1, .bipush 48, 2, [], 0),
  (3, .if_icmp .lt 13, 3, [], 0),
  (6, .iload_n 0, 1, [], 0),
  (7, .bipush 57, 2, [], 0),
  (9, .if_icmp .gt 7, 3, [], 0),
  (12, .iconst 1, 1, [], 0),
  (13, .goto 4, 3, [], 0),
  (16, .iconst 0, 1, [], 0),
  (17, .ireturn, 1, [5], 0)]
/-- 167: HiccupTownModel.isLetter(I)Z -/
def T_X12_isLetter : List mm_E := [(0, .iload_n 0, 1, [], 0),
  (1, .bipush 97, 2, [], 0),
  (3, .if_icmp .lt 13, 3, [], 0),
  (6, .iload_n 0, 1, [], 0),
  (7, .bipush 122, 2, [], 0),
  (9, .if_icmp .gt 7, 3, [], 0),
  (12, .iconst 1, 1, [], 0),
  (13, .goto 4, 3, [], 0),
  (16, .iconst 0, 1, [], 0),
  (17, .ireturn, 1, [5], 0)]
/-- 168: HiccupTownModel.go()V -/
def T_X12_go : List mm_E := [(0, .aload_n 0, 1, [], 0),
  (1, .getfield 21, 3, [21, 5, 0], 0),
  (4, .aload_n 0, 1, [], 0),
  (5, .getfield 18, 3, [21, 3, 0], 0),
  (8, .if_icmp .ge 44, 3, [], 0),
  (11, .aload_n 0, 1, [], 0),
  (12, .getfield 7, 3, [21, 1, 3, 36, 1], 0),
  (15, .aload_n 0, 1, [], 0),
  (16, .getfield 21, 3, [21, 5, 0], 0),
  (19, .iaload, 1, [], 0),
  (20, .bipush 32, 2, [], 0),
  (22, .if_icmp .eq 17, 3, [], 0),
  (25, .aload_n 0, 1, [], 0),
  (26, .getfield 7, 3, [21, 1, 3, 36, 1], 0),
  (29, .aload_n 0, 1, [], 0),
  (30, .getfield 21, 3, [21, 5, 0], 0),
  (33, .iaload, 1, [], 0),
  (34, .bipush 10, 2, [], 0),
  (36, .if_icmp .ne 16, 3, [], 0),
  (39, .aload_n 0, 1, [], 0),
  (40, .dup, 1, [], 0),
  (41, .getfield 21, 3, [21, 5, 0], 0),
  (44, .iconst 1, 1, [], 0),
  (45, .iadd, 1, [], 0),
  (46, .putfield 21, 3, [21, 5, 0], 0),
  (49, .goto (-49), 3, [], 0),
  (52, .aload_n 0, 1, [], 0),
  (53, .aload_n 0, 1, [], 0),
  (54, .getfield 21, 3, [21, 5, 0], 0),
  (57, .putfield 24, 3, [21, 6, 0], 0),
  (60, .aload_n 0, 1, [], 0),
  (61, .getfield 18, 3, [21, 3, 0], 0),
  (64, .aload_n 0, 1, [], 0),
  (65, .getfield 27, 3, [21, 4, 0], 0),
  (68, .if_icmp .le 28, 3, [], 0),
  (71, .aload_n 0, 1, [], 0),
  (72, .getfield 24, 3, [21, 6, 0], 0),
  (75, .aload_n 0, 1, [], 0),
  (76, .getfield 27, 3, [21, 4, 0], 0),
  (79, .if_icmp .lt 17, 3, [], 0),
  (82, .aload_n 0, 1, [], 0),
  (83, .aload_n 0, 1, [], 0),
  (84, .getfield 27, 3, [21, 4, 0], 0),
  (87, .putfield 24, 3, [21, 6, 0], 0),
  (90, .aload_n 0, 1, [], 0),
  (91, .iconst 1, 1, [], 0),
  (92, .putfield 30, 3, [21, 7, 0], 0),
  (95, .return_, 1, [], 0),
  (96, .aload_n 0, 1, [], 0),
  (97, .getfield 21, 3, [21, 5, 0], 0),
  (100, .aload_n 0, 1, [], 0),
  (101, .getfield 18, 3, [21, 3, 0], 0),
  (104, .if_icmp .lt 9, 3, [], 0),
  (107, .aload_n 0, 1, [], 0),
  (108, .iconst 0, 1, [], 0),
  (109, .putfield 30, 3, [21, 7, 0], 0),
  (112, .return_, 1, [], 0),
  (113, .aload_n 0, 1, [], 0),
  (114, .getfield 7, 3, [21, 1, 3, 36, 1], 0),
  (117, .aload_n 0, 1, [], 0),
  (118, .getfield 21, 3, [21, 5, 0], 0),
  (121, .iaload, 1, [], 0),
  (122, .istore_n 1, 1, [], 0),
  (123, .iload_n 1, 1, [], 0),
  (124, .invokestatic 33, 3, [0, 167, 1, 0], 0),
  (127, .ifCond .ne 71, 3, [], 0),
  (130, .iload_n 1, 1, [], 0),
  (131, .invokestatic 37, 3, [0, 166, 1, 0], 0),
  (134, .ifCond .ne 64, 3, [], 0),
  (137, .aload_n 0, 1, [], 0),
  (138, .iload_n 1, 1, [], 0),
  (139, .bipush 59, 2, [], 0),
  (141, .if_icmp .eq 33, 3, [], 0),
  (144, .iload_n 1, 1, [], 0),
  (145, .bipush 60, 2, [], 0),
  (147, .if_icmp .eq 27, 3, [], 0),
  (150, .iload_n 1, 1, [], 0),
  (151, .bipush 61, 2, [], 0),
  (153, .if_icmp .eq 21, 3, [], 0),
  (156, .iload_n 1, 1, [], 0),
  (157, .bipush 62, 2, [], 0),
  (159, .if_icmp .eq 15, 3, [], 0),
  (162, .iload_n 1, 1, [], 0),
  (163, .bipush 40, 2, [], 0),
  (165, .if_icmp .eq 9, 3, [], 0),
  (168, .iload_n 1, 1, [], 0),
  (169, .bipush 41, 2, [], 0),
  (171, .if_icmp .ne 7, 3, [], 0),
  (174, .iconst 4, 1, [], 0),
  (175, .goto 4, 3, [], 0),
  (178, .iconst 1, 1, [], 0),
  (179, .putfield 30, 3, [21, 7, 0], 0),
  (182, .aload_n 0, 1, [], 0),
  (183, .iload_n 1, 1, [], 0),
  (184, .putfield 40, 3, [21, 9, 0], 0),
  (187, .aload_n 0, 1, [], 0),
  (188, .dup, 1, [], 0),
  (189, .getfield 21, 3, [21, 5, 0], 0),
  (192, .iconst 1, 1, [], 0),
  (193, .iadd, 1, [], 0),
  (194, .putfield 21, 3, [21, 5, 0], 0),
  (197, .return_, 1, [], 0),
  (198, .iload_n 1, 1, [], 0),
  (199, .invokestatic 33, 3, [0, 167, 1, 0], 0),
  (202, .istore_n 2, 1, [], 0),
  (203, .iconst 1, 1, [], 0),
  (204, .istore_n 3, 1, [], 0),
  (205, .aload_n 0, 1, [], 0),
  (206, .lconst 0, 1, [], 0),
  (207, .putfield 43, 3, [21, 12, 1], 0),
  (210, .aload_n 0, 1, [], 0),
  (211, .iconst 0, 1, [], 0),
  (212, .putfield 47, 3, [21, 8, 0], 0),
  (215, .aload_n 0, 1, [], 0),
  (216, .aload_n 0, 1, [], 0),
  (217, .getfield 21, 3, [21, 5, 0], 0),
  (220, .invokevirtual 50, 3, [0, 165, 2, 0, 21], 0),
  (223, .invokestatic 33, 3, [0, 167, 1, 0], 0),
  (226, .ifCond .ne 17, 3, [], 0),
  (229, .aload_n 0, 1, [], 0),
  (230, .aload_n 0, 1, [], 0),
  (231, .getfield 21, 3, [21, 5, 0], 0),
  (234, .invokevirtual 50, 3, [0, 165, 2, 0, 21], 0),
  (237, .invokestatic 37, 3, [0, 166, 1, 0], 0),
  (240, .ifCond .eq 110, 3, [], 0),
  (243, .aload_n 0, 1, [], 0),
  (244, .getfield 7, 3, [21, 1, 3, 36, 1], 0),
  (247, .aload_n 0, 1, [], 0),
  (248, .getfield 21, 3, [21, 5, 0], 0),
  (251, .iaload, 1, [], 0),
  (252, .istore 4, 2, [], 0),
  (254, .iload_n 3, 1, [], 0),
  (255, .ifCond .eq 16, 3, [], 0),
  (258, .iload 4, 2, [], 0),
  (260, .invokestatic 33, 3, [0, 167, 1, 0], 0),
  (263, .iload_n 2, 1, [], 0),
  (264, .if_icmp .ne 7, 3, [], 0),
  (267, .iconst 1, 1, [], 0),
  (268, .goto 4, 3, [], 0),
  (271, .iconst 0, 1, [], 0),
  (272, .istore_n 3, 1, [], 0),
  (273, .aload_n 0, 1, [], 0),
  (274, .getfield 21, 3, [21, 5, 0], 0),
  (277, .aload_n 0, 1, [], 0),
  (278, .getfield 24, 3, [21, 6, 0], 0),
  (281, .isub, 1, [], 0),
  (282, .bipush 7, 2, [], 0),
  (284, .if_icmp .ge 23, 3, [], 0),
  (287, .aload_n 0, 1, [], 0),
  (288, .ldc2_w 54, 3, [], 27),
  (291, .aload_n 0, 1, [], 0),
  (292, .getfield 43, 3, [21, 12, 1], 0),
  (295, .lmul, 1, [], 0),
  (296, .iload 4, 2, [], 0),
  (298, .i2l, 1, [], 0),
  (299, .ladd, 1, [], 0),
  (300, .ldc2_w 56, 3, [], 96),
  (303, .lsub, 1, [], 0),
  (304, .putfield 43, 3, [21, 12, 1], 0),
  (307, .aload_n 0, 1, [], 0),
  (308, .getfield 21, 3, [21, 5, 0], 0),
  (311, .aload_n 0, 1, [], 0),
  (312, .getfield 24, 3, [21, 6, 0], 0),
  (315, .isub, 1, [], 0),
  (316, .iconst 3, 1, [], 0),
  (317, .if_icmp .ge 20, 3, [], 0),
  (320, .aload_n 0, 1, [], 0),
  (321, .bipush 10, 2, [], 0),
  (323, .aload_n 0, 1, [], 0),
  (324, .getfield 47, 3, [21, 8, 0], 0),
  (327, .imul, 1, [], 0),
  (328, .iload 4, 2, [], 0),
  (330, .iadd, 1, [], 0),
  (331, .bipush 48, 2, [], 0),
  (333, .isub, 1, [], 0),
  (334, .putfield 47, 3, [21, 8, 0], 0),
  (337, .aload_n 0, 1, [], 0),
  (338, .dup, 1, [], 0),
  (339, .getfield 21, 3, [21, 5, 0], 0),
  (342, .iconst 1, 1, [], 0),
  (343, .iadd, 1, [], 0),
  (344, .putfield 21, 3, [21, 5, 0], 0),
  (347, .goto (-132), 3, [], 0),
  (350, .aload_n 0, 1, [], 0),
  (351, .iload_n 3, 1, [], 0),
  (352, .ifCond .eq 25, 3, [], 0),
  (355, .aload_n 0, 1, [], 0),
  (356, .getfield 21, 3, [21, 5, 0], 0),
  (359, .aload_n 0, 1, [], 0),
  (360, .getfield 24, 3, [21, 6, 0], 0),
  (363, .isub, 1, [], 0),
  (364, .iload_n 2, 1, [], 0),
  (365, .ifCond .eq 8, 3, [], 0),
  (368, .bipush 7, 2, [], 0),
  (370, .goto 4, 3, [], 0),
  (373, .iconst 3, 1, [], 0),
  (374, .if_icmp .le 7, 3, [], 0),
  (377, .iconst 1, 1, [], 0),
  (378, .goto 12, 3, [], 0),
  (381, .iload_n 2, 1, [], 0),
  (382, .ifCond .eq 7, 3, [], 0),
  (385, .iconst 2, 1, [], 0),
  (386, .goto 4, 3, [], 0),
  (389, .iconst 3, 1, [], 0),
  (390, .putfield 30, 3, [21, 7, 0], 0),
  (393, .return_, 1, [], 0)]
/-- 169: HiccupTownModel.spelt(IIIIIII)J -/
def T_X12_spelt : List mm_E := [(0, .ldc2_w 54, 3, [], 27),
  (3, .iload_n 0, 1, [], 0),
  (4, .i2l, 1, [], 0),
  (5, .ldc2_w 56, 3, [], 96),
  (8, .lsub, 1, [], 0),
  (9, .lmul, 1, [], 0),
  (10, .iload_n 1, 1, [], 0),
  (11, .i2l, 1, [], 0),
  (12, .ladd, 1, [], 0),
  (13, .ldc2_w 56, 3, [], 96),
  (16, .lsub, 1, [], 0),
  (17, .lstore 7, 2, [], 0),
  (19, .iload_n 2, 1, [], 0),
  (20, .ifCond .le 18, 3, [], 0),
  (23, .ldc2_w 54, 3, [], 27),
  (26, .lload 7, 2, [], 0),
  (28, .lmul, 1, [], 0),
  (29, .iload_n 2, 1, [], 0),
  (30, .i2l, 1, [], 0),
  (31, .ladd, 1, [], 0),
  (32, .ldc2_w 56, 3, [], 96),
  (35, .lsub, 1, [], 0),
  (36, .lstore 7, 2, [], 0),
  (38, .iload_n 3, 1, [], 0),
  (39, .ifCond .le 18, 3, [], 0),
  (42, .ldc2_w 54, 3, [], 27),
  (45, .lload 7, 2, [], 0),
  (47, .lmul, 1, [], 0),
  (48, .iload_n 3, 1, [], 0),
  (49, .i2l, 1, [], 0),
  (50, .ladd, 1, [], 0),
  (51, .ldc2_w 56, 3, [], 96),
  (54, .lsub, 1, [], 0),
  (55, .lstore 7, 2, [], 0),
  (57, .iload 4, 2, [], 0),
  (59, .ifCond .le 19, 3, [], 0),
  (62, .ldc2_w 54, 3, [], 27),
  (65, .lload 7, 2, [], 0),
  (67, .lmul, 1, [], 0),
  (68, .iload 4, 2, [], 0),
  (70, .i2l, 1, [], 0),
  (71, .ladd, 1, [], 0),
  (72, .ldc2_w 56, 3, [], 96),
  (75, .lsub, 1, [], 0),
  (76, .lstore 7, 2, [], 0),
  (78, .iload 5, 2, [], 0),
  (80, .ifCond .le 19, 3, [], 0),
  (83, .ldc2_w 54, 3, [], 27),
  (86, .lload 7, 2, [], 0),
  (88, .lmul, 1, [], 0),
  (89, .iload 5, 2, [], 0),
  (91, .i2l, 1, [], 0),
  (92, .ladd, 1, [], 0),
  (93, .ldc2_w 56, 3, [], 96),
  (96, .lsub, 1, [], 0),
  (97, .lstore 7, 2, [], 0),
  (99, .iload 6, 2, [], 0),
  (101, .ifCond .le 19, 3, [], 0),
  (104, .ldc2_w 54, 3, [], 27),
  (107, .lload 7, 2, [], 0),
  (109, .lmul, 1, [], 0),
  (110, .iload 6, 2, [], 0),
  (112, .i2l, 1, [], 0),
  (113, .ladd, 1, [], 0),
  (114, .ldc2_w 56, 3, [], 96),
  (117, .lsub, 1, [], 0),
  (118, .lstore 7, 2, [], 0),
  (120, .lload 7, 2, [], 0),
  (122, .lreturn, 1, [], 0)]
/-- 170: HiccupTownModel.wordOf(I)J -/
def T_X12_wordOf : List mm_E := [(0, .iload_n 0, 1, [], 0),
  (1, .tableswitch 498 0 24 #[115, 130, 144, 161, 178, 193, 209, 225, 242, 257, 271, 289, 303, 320, 336, 353, 366, 380, 394, 408, 423, 436, 451, 467, 482], 115, [], 0),
  (116, .bipush 114, 2, [], 0),
  (118, .bipush 105, 2, [], 0),
  (120, .bipush 110, 2, [], 0),
  (122, .bipush 103, 2, [], 0),
  (124, .iconst 0, 1, [], 0),
  (125, .iconst 0, 1, [], 0),
  (126, .iconst 0, 1, [], 0),
  (127, .invokestatic 58, 3, [0, 169, 7, 1], 0),
  (130, .lreturn, 1, [], 0),
  (131, .bipush 103, 2, [], 0),
  (133, .bipush 97, 2, [], 0),
  (135, .bipush 112, 2, [], 0),
  (137, .iconst 0, 1, [], 0),
  (138, .iconst 0, 1, [], 0),
  (139, .iconst 0, 1, [], 0),
  (140, .iconst 0, 1, [], 0),
  (141, .invokestatic 58, 3, [0, 169, 7, 1], 0),
  (144, .lreturn, 1, [], 0),
  (145, .bipush 99, 2, [], 0),
  (147, .bipush 111, 2, [], 0),
  (149, .bipush 117, 2, [], 0),
  (151, .bipush 115, 2, [], 0),
  (153, .bipush 105, 2, [], 0),
  (155, .bipush 110, 2, [], 0),
  (157, .iconst 0, 1, [], 0),
  (158, .invokestatic 58, 3, [0, 169, 7, 1], 0),
  (161, .lreturn, 1, [], 0),
  (162, .bipush 112, 2, [], 0),
  (164, .bipush 101, 2, [], 0),
  (166, .bipush 114, 2, [], 0),
  (168, .bipush 115, 2, [], 0),
  (170, .bipush 111, 2, [], 0),
  (172, .bipush 110, 2, [], 0),
  (174, .iconst 0, 1, [], 0),
  (175, .invokestatic 58, 3, [0, 169, 7, 1], 0),
  (178, .lreturn, 1, [], 0),
  (179, .bipush 119, 2, [], 0),
  (181, .bipush 111, 2, [], 0),
  (183, .bipush 114, 2, [], 0),
  (185, .bipush 107, 2, [], 0),
  (187, .iconst 0, 1, [], 0),
  (188, .iconst 0, 1, [], 0),
  (189, .iconst 0, 1, [], 0),
  (190, .invokestatic 58, 3, [0, 169, 7, 1], 0),
  (193, .lreturn, 1, [], 0),
  (194, .bipush 97, 2, [], 0),
  (196, .bipush 102, 2, [], 0),
  (198, .bipush 116, 2, [], 0),
  (200, .bipush 101, 2, [], 0),
  (202, .bipush 114, 2, [], 0),
  (204, .iconst 0, 1, [], 0),
  (205, .iconst 0, 1, [], 0),
  (206, .invokestatic 58, 3, [0, 169, 7, 1], 0),
  (209, .lreturn, 1, [], 0),
  (210, .bipush 116, 2, [], 0),
  (212, .bipush 104, 2, [], 0),
  (214, .bipush 105, 2, [], 0),
  (216, .bipush 110, 2, [], 0),
  (218, .bipush 103, 2, [], 0),
  (220, .iconst 0, 1, [], 0),
  (221, .iconst 0, 1, [], 0),
  (222, .invokestatic 58, 3, [0, 169, 7, 1], 0),
  (225, .lreturn, 1, [], 0),
  (226, .bipush 102, 2, [], 0),
  (228, .bipush 114, 2, [], 0),
  (230, .bipush 105, 2, [], 0),
  (232, .bipush 103, 2, [], 0),
  (234, .bipush 104, 2, [], 0),
  (236, .bipush 116, 2, [], 0),
  (238, .iconst 0, 1, [], 0),
  (239, .invokestatic 58, 3, [0, 169, 7, 1], 0),
  (242, .lreturn, 1, [], 0),
  (243, .bipush 99, 2, [], 0),
  (245, .bipush 117, 2, [], 0),
  (247, .bipush 114, 2, [], 0),
  (249, .bipush 101, 2, [], 0),
  (251, .iconst 0, 1, [], 0),
  (252, .iconst 0, 1, [], 0),
  (253, .iconst 0, 1, [], 0),
  (254, .invokestatic 58, 3, [0, 169, 7, 1], 0),
  (257, .lreturn, 1, [], 0),
  (258, .bipush 102, 2, [], 0),
  (260, .bipush 108, 2, [], 0),
  (262, .bipush 121, 2, [], 0),
  (264, .iconst 0, 1, [], 0),
  (265, .iconst 0, 1, [], 0),
  (266, .iconst 0, 1, [], 0),
  (267, .iconst 0, 1, [], 0),
  (268, .invokestatic 58, 3, [0, 169, 7, 1], 0),
  (271, .lreturn, 1, [], 0),
  (272, .bipush 114, 2, [], 0),
  (274, .bipush 101, 2, [], 0),
  (276, .bipush 108, 2, [], 0),
  (278, .bipush 105, 2, [], 0),
  (280, .bipush 101, 2, [], 0),
  (282, .bipush 118, 2, [], 0),
  (284, .bipush 101, 2, [], 0),
  (286, .invokestatic 58, 3, [0, 169, 7, 1], 0),
  (289, .lreturn, 1, [], 0),
  (290, .bipush 109, 2, [], 0),
  (292, .bipush 97, 2, [], 0),
  (294, .bipush 110, 2, [], 0),
  (296, .iconst 0, 1, [], 0),
  (297, .iconst 0, 1, [], 0),
  (298, .iconst 0, 1, [], 0),
  (299, .iconst 0, 1, [], 0),
  (300, .invokestatic 58, 3, [0, 169, 7, 1], 0),
  (303, .lreturn, 1, [], 0),
  (304, .bipush 108, 2, [], 0),
  (306, .bipush 101, 2, [], 0),
  (308, .bipush 97, 2, [], 0),
  (310, .bipush 118, 2, [], 0),
  (312, .bipush 101, 2, [], 0),
  (314, .bipush 115, 2, [], 0),
  (316, .iconst 0, 1, [], 0),
  (317, .invokestatic 58, 3, [0, 169, 7, 1], 0),
  (320, .lreturn, 1, [], 0),
  (321, .bipush 106, 2, [], 0),
  (323, .bipush 111, 2, [], 0),
  (325, .bipush 105, 2, [], 0),
  (327, .bipush 110, 2, [], 0),
  (329, .bipush 115, 2, [], 0),
  (331, .iconst 0, 1, [], 0),
  (332, .iconst 0, 1, [], 0),
  (333, .invokestatic 58, 3, [0, 169, 7, 1], 0),
  (336, .lreturn, 1, [], 0),
  (337, .bipush 115, 2, [], 0),
  (339, .bipush 101, 2, [], 0),
  (341, .bipush 99, 2, [], 0),
  (343, .bipush 111, 2, [], 0),
  (345, .bipush 110, 2, [], 0),
  (347, .bipush 100, 2, [], 0),
  (349, .iconst 0, 1, [], 0),
  (350, .invokestatic 58, 3, [0, 169, 7, 1], 0),
  (353, .lreturn, 1, [], 0),
  (354, .bipush 111, 2, [], 0),
  (356, .bipush 114, 2, [], 0),
  (358, .iconst 0, 1, [], 0),
  (359, .iconst 0, 1, [], 0),
  (360, .iconst 0, 1, [], 0),
  (361, .iconst 0, 1, [], 0),
  (362, .iconst 0, 1, [], 0),
  (363, .invokestatic 58, 3, [0, 169, 7, 1], 0),
  (366, .lreturn, 1, [], 0),
  (367, .bipush 97, 2, [], 0),
  (369, .bipush 110, 2, [], 0),
  (371, .bipush 100, 2, [], 0),
  (373, .iconst 0, 1, [], 0),
  (374, .iconst 0, 1, [], 0),
  (375, .iconst 0, 1, [], 0),
  (376, .iconst 0, 1, [], 0),
  (377, .invokestatic 58, 3, [0, 169, 7, 1], 0),
  (380, .lreturn, 1, [], 0),
  (381, .bipush 110, 2, [], 0),
  (383, .bipush 111, 2, [], 0),
  (385, .bipush 116, 2, [], 0),
  (387, .iconst 0, 1, [], 0),
  (388, .iconst 0, 1, [], 0),
  (389, .iconst 0, 1, [], 0),
  (390, .iconst 0, 1, [], 0),
  (391, .invokestatic 58, 3, [0, 169, 7, 1], 0),
  (394, .lreturn, 1, [], 0),
  (395, .bipush 111, 2, [], 0),
  (397, .bipush 117, 2, [], 0),
  (399, .bipush 116, 2, [], 0),
  (401, .iconst 0, 1, [], 0),
  (402, .iconst 0, 1, [], 0),
  (403, .iconst 0, 1, [], 0),
  (404, .iconst 0, 1, [], 0),
  (405, .invokestatic 58, 3, [0, 169, 7, 1], 0),
  (408, .lreturn, 1, [], 0),
  (409, .bipush 98, 2, [], 0),
  (411, .bipush 117, 2, [], 0),
  (413, .bipush 115, 2, [], 0),
  (415, .bipush 121, 2, [], 0),
  (417, .iconst 0, 1, [], 0),
  (418, .iconst 0, 1, [], 0),
  (419, .iconst 0, 1, [], 0),
  (420, .invokestatic 58, 3, [0, 169, 7, 1], 0),
  (423, .lreturn, 1, [], 0),
  (424, .bipush 98, 2, [], 0),
  (426, .bipush 121, 2, [], 0),
  (428, .iconst 0, 1, [], 0),
  (429, .iconst 0, 1, [], 0),
  (430, .iconst 0, 1, [], 0),
  (431, .iconst 0, 1, [], 0),
  (432, .iconst 0, 1, [], 0),
  (433, .invokestatic 58, 3, [0, 169, 7, 1], 0),
  (436, .lreturn, 1, [], 0),
  (437, .bipush 119, 2, [], 0),
  (439, .bipush 105, 2, [], 0),
  (441, .bipush 116, 2, [], 0),
  (443, .bipush 104, 2, [], 0),
  (445, .iconst 0, 1, [], 0),
  (446, .iconst 0, 1, [], 0),
  (447, .iconst 0, 1, [], 0),
  (448, .invokestatic 58, 3, [0, 169, 7, 1], 0),
  (451, .lreturn, 1, [], 0),
  (452, .bipush 112, 2, [], 0),
  (454, .bipush 108, 2, [], 0),
  (456, .bipush 97, 2, [], 0),
  (458, .bipush 99, 2, [], 0),
  (460, .bipush 101, 2, [], 0),
  (462, .iconst 0, 1, [], 0),
  (463, .iconst 0, 1, [], 0),
  (464, .invokestatic 58, 3, [0, 169, 7, 1], 0),
  (467, .lreturn, 1, [], 0),
  (468, .bipush 112, 2, [], 0),
  (470, .bipush 97, 2, [], 0),
  (472, .bipush 99, 2, [], 0),
  (474, .bipush 101, 2, [], 0),
  (476, .iconst 0, 1, [], 0),
  (477, .iconst 0, 1, [], 0),
  (478, .iconst 0, 1, [], 0),
  (479, .invokestatic 58, 3, [0, 169, 7, 1], 0),
  (482, .lreturn, 1, [], 0),
  (483, .bipush 115, 2, [], 0),
  (485, .bipush 116, 2, [], 0),
  (487, .bipush 101, 2, [], 0),
  (489, .bipush 112, 2, [], 0),
  (491, .bipush 115, 2, [], 0),
  (493, .iconst 0, 1, [], 0),
  (494, .iconst 0, 1, [], 0),
  (495, .invokestatic 58, 3, [0, 169, 7, 1], 0),
  (498, .lreturn, 1, [], 0),
  (499, .bipush 110, 2, [], 0),
  (501, .bipush 117, 2, [], 0),
  (503, .bipush 109, 2, [], 0),
  (505, .bipush 98, 2, [], 0),
  (507, .bipush 101, 2, [], 0),
  (509, .bipush 114, 2, [], 0),
  (511, .iconst 0, 1, [], 0),
  (512, .invokestatic 58, 3, [0, 169, 7, 1], 0),
  (515, .lreturn, 1, [], 0)]
/-- 171: HiccupTownModel.isWord(I)Z -/
def T_X12_isWord : List mm_E := [(0, .aload_n 0, 1, [], 0),
  (1, .getfield 30, 3, [21, 7, 0], 0),
  (4, .iconst 2, 1, [], 0),
  (5, .if_icmp .ne 19, 3, [], 0),
  (8, .aload_n 0, 1, [], 0),
  (9, .getfield 43, 3, [21, 12, 1], 0),
  (12, .iload_n 1, 1, [], 0),
  (13, .invokestatic 62, 3, [0, 170, 1, 1], 0),
  (16, .lcmp, 1, [], 0),
  (17, .ifCond .ne 7, 3, [], 0),
  (20, .iconst 1, 1, [], 0),
  (21, .goto 4, 3, [], 0),
  (24, .iconst 0, 1, [], 0),
  (25, .ireturn, 1, [5], 0)]
/-- 172: HiccupTownModel.isSign(I)Z -/
def T_X12_isSign : List mm_E := [(0, .aload_n 0, 1, [], 0),
  (1, .getfield 30, 3, [21, 7, 0], 0),
  (4, .iconst 4, 1, [], 0),
  (5, .if_icmp .ne 15, 3, [], 0),
  (8, .aload_n 0, 1, [], 0),
  (9, .getfield 40, 3, [21, 9, 0], 0),
  (12, .iload_n 1, 1, [], 0),
  (13, .if_icmp .ne 7, 3, [], 0),
  (16, .iconst 1, 1, [], 0),
  (17, .goto 4, 3, [], 0),
  (20, .iconst 0, 1, [], 0),
  (21, .ireturn, 1, [5], 0)]
/-- 173: HiccupTownModel.isName()Z -/
def T_X12_isName : List mm_E := [(0, .aload_n 0, 1, [], 0),
  (1, .getfield 30, 3, [21, 7, 0], 0),
  (4, .iconst 2, 1, [], 0),
  (5, .if_icmp .eq 5, 3, [], 0),
  (8, .iconst 0, 1, [], 0),
  (9, .ireturn, 1, [5], 0),
  (10, .iconst 0, 1, [], 0),
  (11, .istore_n 1, 1, [], 0),
  (12, .iload_n 1, 1, [], 0),
  (13, .bipush 25, 2, [], 0),
  (15, .if_icmp .gt 23, 3, [], 0),
  (18, .aload_n 0, 1, [], 0),
  (19, .getfield 43, 3, [21, 12, 1], 0),
  (22, .iload_n 1, 1, [], 0),
  (23, .invokestatic 62, 3, [0, 170, 1, 1], 0),
  (26, .lcmp, 1, [], 0),
  (27, .ifCond .ne 5, 3, [], 0),
  (30, .iconst 0, 1, [], 0),
  (31, .ireturn, 1, [5], 0),
  (32, .iinc 1 1, 3, [], 0),
  (35, .goto (-23), 3, [], 0),
  (38, .iconst 1, 1, [], 0),
  (39, .ireturn, 1, [5], 0)]
/-- 174: HiccupTownModel.bad(I)Z -/
def T_X12_bad : List mm_E := [(0, .aload_n 0, 1, [], 0),
  (1, .aload_n 0, 1, [], 0),
  (2, .getfield 30, 3, [21, 7, 0], 0),
  (5, .iconst 1, 1, [], 0),
  (6, .if_icmp .ne 7, 3, [], 0),
  (9, .iconst 1, 1, [], 0),
  (10, .goto 4, 3, [], 0),
  (13, .iload_n 1, 1, [], 0),
  (14, .putfield 66, 3, [21, 10, 0], 0),
  (17, .aload_n 0, 1, [], 0),
  (18, .aload_n 0, 1, [], 0),
  (19, .getfield 24, 3, [21, 6, 0], 0),
  (22, .putfield 69, 3, [21, 11, 0], 0),
  (25, .iconst 0, 1, [], 0),
  (26, .ireturn, 1, [5], 0)]
/-- 175: HiccupTownModel.readNumber(II)Z -/
def T_X12_readNumber : List mm_E := [(0, .aload_n 0, 1, [], 0),
  (1, .getfield 30, 3, [21, 7, 0], 0),
  (4, .iconst 3, 1, [], 0),
  (5, .if_icmp .eq 9, 3, [], 0),
  (8, .aload_n 0, 1, [], 0),
  (9, .iconst 1, 1, [], 0),
  (10, .invokevirtual 72, 3, [0, 174, 2, 0, 21], 0),
  (13, .ireturn, 1, [5], 0),
  (14, .aload_n 0, 1, [], 0),
  (15, .getfield 47, 3, [21, 8, 0], 0),
  (18, .iload_n 1, 1, [], 0),
  (19, .iload_n 2, 1, [], 0),
  (20, .invokestatic 75, 3, [0, 160, 3, 0], 0),
  (23, .ifCond .ne 9, 3, [], 0),
  (26, .aload_n 0, 1, [], 0),
  (27, .iconst 2, 1, [], 0),
  (28, .invokevirtual 72, 3, [0, 174, 2, 0, 21], 0),
  (31, .ireturn, 1, [5], 0),
  (32, .aload_n 0, 1, [], 0),
  (33, .aload_n 0, 1, [], 0),
  (34, .getfield 47, 3, [21, 8, 0], 0),
  (37, .putfield 79, 3, [21, 13, 0], 0),
  (40, .aload_n 0, 1, [], 0),
  (41, .invokevirtual 82, 3, [0, 168, 1, 8, 21], 0),
  (44, .iconst 1, 1, [], 0),
  (45, .ireturn, 1, [5], 0)]
/-- 176: HiccupTownModel.readEnd()Z -/
def T_X12_readEnd : List mm_E := [(0, .aload_n 0, 1, [], 0),
  (1, .bipush 59, 2, [], 0),
  (3, .invokevirtual 86, 3, [0, 172, 2, 0, 21], 0),
  (6, .ifCond .ne 9, 3, [], 0),
  (9, .aload_n 0, 1, [], 0),
  (10, .iconst 1, 1, [], 0),
  (11, .invokevirtual 72, 3, [0, 174, 2, 0, 21], 0),
  (14, .ireturn, 1, [5], 0),
  (15, .aload_n 0, 1, [], 0),
  (16, .invokevirtual 82, 3, [0, 168, 1, 8, 21], 0),
  (19, .iconst 1, 1, [], 0),
  (20, .ireturn, 1, [5], 0)]
/-- 177: HiccupTownModel.begin(I)V -/
def T_X12_begin : List mm_E := [(0, .aload_n 0, 1, [], 0),
  (1, .iconst 0, 1, [], 0),
  (2, .putfield 1, 3, [21, 0, 0], 0),
  (5, .aload_n 0, 1, [], 0),
  (6, .aload_n 0, 1, [], 0),
  (7, .invokevirtual 89, 3, [0, 159, 1, 0, 21], 0),
  (10, .putfield 18, 3, [21, 3, 0], 0),
  (13, .aload_n 0, 1, [], 0),
  (14, .iload_n 1, 1, [], 0),
  (15, .putfield 27, 3, [21, 4, 0], 0),
  (18, .aload_n 0, 1, [], 0),
  (19, .iconst 0, 1, [], 0),
  (20, .putfield 66, 3, [21, 10, 0], 0),
  (23, .aload_n 0, 1, [], 0),
  (24, .iconst 0, 1, [], 0),
  (25, .putfield 21, 3, [21, 5, 0], 0),
  (28, .aload_n 0, 1, [], 0),
  (29, .invokevirtual 82, 3, [0, 168, 1, 8, 21], 0),
  (32, .return_, 1, [], 0)]
/-- 178: HiccupTownModel.startRead()V -/
def T_X12_startRead : List mm_E := [(0, .iconst 0, 1, [], 0),
  (1, .istore_n 1, 1, [], 0),
  (2, .iload_n 1, 1, [], 0),
  (3, .bipush 48, 2, [], 0),
  (5, .if_icmp .ge 16, 3, [], 0),
  (8, .aload_n 0, 1, [], 0),
  (9, .getfield 101, 3, [21, 15, 3, 38, 3], 0),
  (12, .iload_n 1, 1, [], 0),
  (13, .iconst 0, 1, [], 0),
  (14, .iastore, 1, [], 0),
  (15, .iinc 1 1, 3, [], 0),
  (18, .goto (-16), 3, [], 0),
  (21, .aload_n 0, 1, [], 0),
  (22, .getfield 127, 3, [21, 23, 3, 44, 11], 0),
  (25, .iconst 0, 1, [], 0),
  (26, .iconst 0, 1, [], 0),
  (27, .bastore, 1, [], 0),
  (28, .aload_n 0, 1, [], 0),
  (29, .getfield 127, 3, [21, 23, 3, 44, 11], 0),
  (32, .iconst 1, 1, [], 0),
  (33, .iconst 0, 1, [], 0),
  (34, .bastore, 1, [], 0),
  (35, .aload_n 0, 1, [], 0),
  (36, .iconst 0, 1, [], 0),
  (37, .putfield 172, 3, [21, 25, 5], 0),
  (40, .aload_n 0, 1, [], 0),
  (41, .getfield 101, 3, [21, 15, 3, 38, 3], 0),
  (44, .iconst 0, 1, [], 0),
  (45, .bipush 8, 2, [], 0),
  (47, .iastore, 1, [], 0),
  (48, .aload_n 0, 1, [], 0),
  (49, .getfield 101, 3, [21, 15, 3, 38, 3], 0),
  (52, .iconst 5, 1, [], 0),
  (53, .iconst 4, 1, [], 0),
  (54, .iastore, 1, [], 0),
  (55, .return_, 1, [], 0)]
/-- 179: HiccupTownModel.startSo()V -/
def T_X12_startSo : List mm_E := [(0, .bipush 48, 2, [], 0),
  (2, .istore_n 1, 1, [], 0),
  (3, .iload_n 1, 1, [], 0),
  (4, .sipush 316, 3, [], 0),
  (7, .if_icmp .ge 16, 3, [], 0),
  (10, .aload_n 0, 1, [], 0),
  (11, .getfield 98, 3, [21, 14, 3, 37, 2], 0),
  (14, .iload_n 1, 1, [], 0),
  (15, .iconst 0, 1, [], 0),
  (16, .iastore, 1, [], 0),
  (17, .iinc 1 1, 3, [], 0),
  (20, .goto (-17), 3, [], 0),
  (23, .aload_n 0, 1, [], 0),
  (24, .getfield 98, 3, [21, 14, 3, 37, 2], 0),
  (27, .bipush 50, 2, [], 0),
  (29, .aload_n 0, 1, [], 0),
  (30, .getfield 98, 3, [21, 14, 3, 37, 2], 0),
  (33, .iconst 5, 1, [], 0),
  (34, .iaload, 1, [], 0),
  (35, .iastore, 1, [], 0),
  (36, .aload_n 0, 1, [], 0),
  (37, .getfield 98, 3, [21, 14, 3, 37, 2], 0),
  (40, .bipush 53, 2, [], 0),
  (42, .aload_n 0, 1, [], 0),
  (43, .getfield 98, 3, [21, 14, 3, 37, 2], 0),
  (46, .bipush 24, 2, [], 0),
  (48, .iaload, 1, [], 0),
  (49, .iastore, 1, [], 0),
  (50, .iconst 0, 1, [], 0),
  (51, .istore_n 1, 1, [], 0),
  (52, .iload_n 1, 1, [], 0),
  (53, .bipush 7, 2, [], 0),
  (55, .if_icmp .ge 27, 3, [], 0),
  (58, .aload_n 0, 1, [], 0),
  (59, .getfield 98, 3, [21, 14, 3, 37, 2], 0),
  (62, .bipush 54, 2, [], 0),
  (64, .iload_n 1, 1, [], 0),
  (65, .iadd, 1, [], 0),
  (66, .aload_n 0, 1, [], 0),
  (67, .getfield 98, 3, [21, 14, 3, 37, 2], 0),
  (70, .bipush 10, 2, [], 0),
  (72, .iload_n 1, 1, [], 0),
  (73, .iadd, 1, [], 0),
  (74, .iaload, 1, [], 0),
  (75, .iastore, 1, [], 0),
  (76, .iinc 1 1, 3, [], 0),
  (79, .goto (-27), 3, [], 0),
  (82, .iconst 0, 1, [], 0),
  (83, .istore_n 1, 1, [], 0),
  (84, .iload_n 1, 1, [], 0),
  (85, .bipush 6, 2, [], 0),
  (87, .if_icmp .ge 27, 3, [], 0),
  (90, .aload_n 0, 1, [], 0),
  (91, .getfield 98, 3, [21, 14, 3, 37, 2], 0),
  (94, .bipush 68, 2, [], 0),
  (96, .iload_n 1, 1, [], 0),
  (97, .iadd, 1, [], 0),
  (98, .aload_n 0, 1, [], 0),
  (99, .getfield 98, 3, [21, 14, 3, 37, 2], 0),
  (102, .bipush 31, 2, [], 0),
  (104, .iload_n 1, 1, [], 0),
  (105, .iadd, 1, [], 0),
  (106, .iaload, 1, [], 0),
  (107, .iastore, 1, [], 0),
  (108, .iinc 1 1, 3, [], 0),
  (111, .goto (-27), 3, [], 0),
  (114, .return_, 1, [], 0)]
/-- 180: HiccupTownModel.findIn([JIIJ)I -/
def T_X12_findIn : List mm_E := [(0, .iconst 0, 1, [], 0),
  (1, .istore 5, 2, [], 0),
  (3, .iload 5, 2, [], 0),
  (5, .iload_n 2, 1, [], 0),
  (6, .if_icmp .ge 23, 3, [], 0),
  (9, .aload_n 0, 1, [], 0),
  (10, .iload_n 1, 1, [], 0),
  (11, .iload 5, 2, [], 0),
  (13, .iadd, 1, [], 0),
  (14, .laload, 1, [], 0),
  (15, .lload_n 3, 1, [], 0),
  (16, .lcmp, 1, [], 0),
  (17, .ifCond .ne 6, 3, [], 0),
  (20, .iload 5, 2, [], 0),
  (22, .ireturn, 1, [], 0),
  (23, .iinc 5 1, 3, [], 0),
  (26, .goto (-23), 3, [], 0),
  (29, .iconst (-1), 1, [], 0),
  (30, .ireturn, 1, [], 0)]
/-- 181: HiccupTownModel.isTaken()Z -/
def T_X12_isTaken : List mm_E := [(0, .aload_n 0, 1, [], 0),
  (1, .getfield 117, 3, [21, 20, 3, 42, 8], 0),
  (4, .iconst 0, 1, [], 0),
  (5, .aload_n 0, 1, [], 0),
  (6, .getfield 101, 3, [21, 15, 3, 38, 3], 0),
  (9, .iconst 1, 1, [], 0),
  (10, .iaload, 1, [], 0),
  (11, .aload_n 0, 1, [], 0),
  (12, .getfield 43, 3, [21, 12, 1], 0),
  (15, .invokestatic 176, 3, [0, 180, 4, 0], 0),
  (18, .iconst (-1), 1, [], 0),
  (19, .if_icmp .ne 71, 3, [], 0),
  (22, .aload_n 0, 1, [], 0),
  (23, .getfield 117, 3, [21, 20, 3, 42, 8], 0),
  (26, .iconst 4, 1, [], 0),
  (27, .aload_n 0, 1, [], 0),
  (28, .getfield 101, 3, [21, 15, 3, 38, 3], 0),
  (31, .iconst 2, 1, [], 0),
  (32, .iaload, 1, [], 0),
  (33, .aload_n 0, 1, [], 0),
  (34, .getfield 43, 3, [21, 12, 1], 0),
  (37, .invokestatic 176, 3, [0, 180, 4, 0], 0),
  (40, .iconst (-1), 1, [], 0),
  (41, .if_icmp .ne 49, 3, [], 0),
  (44, .aload_n 0, 1, [], 0),
  (45, .getfield 117, 3, [21, 20, 3, 42, 8], 0),
  (48, .bipush 11, 2, [], 0),
  (50, .aload_n 0, 1, [], 0),
  (51, .getfield 101, 3, [21, 15, 3, 38, 3], 0),
  (54, .iconst 3, 1, [], 0),
  (55, .iaload, 1, [], 0),
  (56, .aload_n 0, 1, [], 0),
  (57, .getfield 43, 3, [21, 12, 1], 0),
  (60, .invokestatic 176, 3, [0, 180, 4, 0], 0),
  (63, .iconst (-1), 1, [], 0),
  (64, .if_icmp .ne 26, 3, [], 0),
  (67, .aload_n 0, 1, [], 0),
  (68, .getfield 117, 3, [21, 20, 3, 42, 8], 0),
  (71, .bipush 17, 2, [], 0),
  (73, .aload_n 0, 1, [], 0),
  (74, .getfield 101, 3, [21, 15, 3, 38, 3], 0),
  (77, .iconst 4, 1, [], 0),
  (78, .iaload, 1, [], 0),
  (79, .aload_n 0, 1, [], 0),
  (80, .getfield 43, 3, [21, 12, 1], 0),
  (83, .invokestatic 176, 3, [0, 180, 4, 0], 0),
  (86, .iconst (-1), 1, [], 0),
  (87, .if_icmp .eq 7, 3, [], 0),
  (90, .iconst 1, 1, [], 0),
  (91, .goto 4, 3, [], 0),
  (94, .iconst 0, 1, [], 0),
  (95, .ireturn, 1, [5], 0)]
/-- 182: HiccupTownModel.readNew(I)Z -/
def T_X12_readNew : List mm_E := [(0, .aload_n 0, 1, [], 0),
  (1, .invokevirtual 180, 3, [0, 173, 1, 0, 21], 0),
  (4, .ifCond .ne 9, 3, [], 0),
  (7, .aload_n 0, 1, [], 0),
  (8, .iconst 1, 1, [], 0),
  (9, .invokevirtual 72, 3, [0, 174, 2, 0, 21], 0),
  (12, .ireturn, 1, [5], 0),
  (13, .aload_n 0, 1, [], 0),
  (14, .invokevirtual 184, 3, [0, 181, 1, 0, 21], 0),
  (17, .ifCond .eq 9, 3, [], 0),
  (20, .aload_n 0, 1, [], 0),
  (21, .iconst 3, 1, [], 0),
  (22, .invokevirtual 72, 3, [0, 174, 2, 0, 21], 0),
  (25, .ireturn, 1, [5], 0),
  (26, .aload_n 0, 1, [], 0),
  (27, .getfield 117, 3, [21, 20, 3, 42, 8], 0),
  (30, .iload_n 1, 1, [], 0),
  (31, .aload_n 0, 1, [], 0),
  (32, .getfield 43, 3, [21, 12, 1], 0),
  (35, .lastore, 1, [], 0),
  (36, .aload_n 0, 1, [], 0),
  (37, .invokevirtual 82, 3, [0, 168, 1, 8, 21], 0),
  (40, .iconst 1, 1, [], 0),
  (41, .ireturn, 1, [5], 0)]
/-- 183: HiccupTownModel.readFirst(II)Z -/
def T_X12_readFirst : List mm_E := [(0, .aload_n 0, 1, [], 0),
  (1, .getfield 101, 3, [21, 15, 3, 38, 3], 0),
  (4, .iload_n 1, 1, [], 0),
  (5, .iaload, 1, [], 0),
  (6, .iload_n 2, 1, [], 0),
  (7, .if_icmp .ne 9, 3, [], 0),
  (10, .aload_n 0, 1, [], 0),
  (11, .iconst 4, 1, [], 0),
  (12, .invokevirtual 72, 3, [0, 174, 2, 0, 21], 0),
  (15, .ireturn, 1, [5], 0),
  (16, .aload_n 0, 1, [], 0),
  (17, .invokevirtual 82, 3, [0, 168, 1, 8, 21], 0),
  (20, .iconst 1, 1, [], 0),
  (21, .ireturn, 1, [5], 0)]
/-- 184: HiccupTownModel.put(IZ)Z -/
def T_X12_put : List mm_E := [(0, .iload_n 2, 1, [], 0),
  (1, .ifCond .eq 13, 3, [], 0),
  (4, .aload_n 0, 1, [], 0),
  (5, .getfield 101, 3, [21, 15, 3, 38, 3], 0),
  (8, .iload_n 1, 1, [], 0),
  (9, .aload_n 0, 1, [], 0),
  (10, .getfield 79, 3, [21, 13, 0], 0),
  (13, .iastore, 1, [], 0),
  (14, .iload_n 2, 1, [], 0),
  (15, .ireturn, 1, [5], 0)]
/-- 185: HiccupTownModel.isFresh(I)Z -/
def T_X12_isFresh : List mm_E := [(0, .aload_n 0, 1, [], 0),
  (1, .getfield 127, 3, [21, 23, 3, 44, 11], 0),
  (4, .iload_n 1, 1, [], 0),
  (5, .baload, 1, [], 0),
  (6, .ifCond .eq 9, 3, [], 0),
  (9, .aload_n 0, 1, [], 0),
  (10, .iconst 3, 1, [], 0),
  (11, .invokevirtual 72, 3, [0, 174, 2, 0, 21], 0),
  (14, .ireturn, 1, [5], 0),
  (15, .aload_n 0, 1, [], 0),
  (16, .getfield 127, 3, [21, 23, 3, 44, 11], 0),
  (19, .iload_n 1, 1, [], 0),
  (20, .iconst 1, 1, [], 0),
  (21, .bastore, 1, [], 0),
  (22, .aload_n 0, 1, [], 0),
  (23, .invokevirtual 82, 3, [0, 168, 1, 8, 21], 0),
  (26, .iconst 1, 1, [], 0),
  (27, .ireturn, 1, [5], 0)]
/-- 186: HiccupTownModel.readRing()Z -/
def T_X12_readRing : List mm_E := [(0, .aload_n 0, 1, [], 0),
  (1, .getfield 172, 3, [21, 25, 0], 0),
  (4, .ifCond .eq 9, 3, [], 0),
  (7, .aload_n 0, 1, [], 0),
  (8, .iconst 3, 1, [], 0),
  (9, .invokevirtual 72, 3, [0, 174, 2, 0, 21], 0),
  (12, .ireturn, 1, [5], 0),
  (13, .aload_n 0, 1, [], 0),
  (14, .iconst 0, 1, [], 0),
  (15, .invokevirtual 187, 3, [0, 185, 2, 0, 21], 0),
  (18, .ifCond .eq 22, 3, [], 0),
  (21, .aload_n 0, 1, [], 0),
  (22, .iconst 0, 1, [], 0),
  (23, .aload_n 0, 1, [], 0),
  (24, .iconst 3, 1, [], 0),
  (25, .bipush 12, 2, [], 0),
  (27, .invokevirtual 190, 3, [0, 175, 3, 0, 21], 0),
  (30, .invokevirtual 194, 3, [0, 184, 3, 0, 21], 0),
  (33, .ifCond .eq 7, 3, [], 0),
  (36, .iconst 1, 1, [], 0),
  (37, .goto 4, 3, [], 0),
  (40, .iconst 0, 1, [], 0),
  (41, .ireturn, 1, [5], 0)]
/-- 187: HiccupTownModel.readCousin()Z -/
def T_X12_readCousin : List mm_E := [(0, .aload_n 0, 1, [], 0),
  (1, .iconst 1, 1, [], 0),
  (2, .iconst 4, 1, [], 0),
  (3, .invokevirtual 198, 3, [0, 183, 3, 0, 21], 0),
  (6, .ifCond .ne 5, 3, [], 0),
  (9, .iconst 0, 1, [], 0),
  (10, .ireturn, 1, [5], 0),
  (11, .aload_n 0, 1, [], 0),
  (12, .getfield 101, 3, [21, 15, 3, 38, 3], 0),
  (15, .iconst 1, 1, [], 0),
  (16, .iaload, 1, [], 0),
  (17, .istore_n 1, 1, [], 0),
  (18, .aload_n 0, 1, [], 0),
  (19, .iload_n 1, 1, [], 0),
  (20, .invokevirtual 201, 3, [0, 182, 2, 0, 21], 0),
  (23, .ifCond .eq 21, 3, [], 0),
  (26, .aload_n 0, 1, [], 0),
  (27, .bipush 6, 2, [], 0),
  (29, .iload_n 1, 1, [], 0),
  (30, .iadd, 1, [], 0),
  (31, .aload_n 0, 1, [], 0),
  (32, .iconst 1, 1, [], 0),
  (33, .bipush 9, 2, [], 0),
  (35, .invokevirtual 190, 3, [0, 175, 3, 0, 21], 0),
  (38, .invokevirtual 194, 3, [0, 184, 3, 0, 21], 0),
  (41, .ifCond .ne 5, 3, [], 0),
  (44, .iconst 0, 1, [], 0),
  (45, .ireturn, 1, [5], 0),
  (46, .aload_n 0, 1, [], 0),
  (47, .getfield 101, 3, [21, 15, 3, 38, 3], 0),
  (50, .iconst 1, 1, [], 0),
  (51, .dup2, 1, [], 0),
  (52, .iaload, 1, [], 0),
  (53, .iconst 1, 1, [], 0),
  (54, .iadd, 1, [], 0),
  (55, .iastore, 1, [], 0),
  (56, .iconst 1, 1, [], 0),
  (57, .ireturn, 1, [5], 0)]
/-- 188: HiccupTownModel.readPlace(I)Z -/
def T_X12_readPlace : List mm_E := [(0, .aload_n 0, 1, [], 0),
  (1, .iconst 1, 1, [], 0),
  (2, .putfield 172, 3, [21, 25, 5], 0),
  (5, .aload_n 0, 1, [], 0),
  (6, .iload_n 1, 1, [], 0),
  (7, .aload_n 0, 1, [], 0),
  (8, .iconst 0, 1, [], 0),
  (9, .aload_n 0, 1, [], 0),
  (10, .getfield 101, 3, [21, 15, 3, 38, 3], 0),
  (13, .iconst 0, 1, [], 0),
  (14, .iaload, 1, [], 0),
  (15, .iconst 1, 1, [], 0),
  (16, .isub, 1, [], 0),
  (17, .invokevirtual 190, 3, [0, 175, 3, 0, 21], 0),
  (20, .invokevirtual 194, 3, [0, 184, 3, 0, 21], 0),
  (23, .ireturn, 1, [5], 0)]
/-- 189: HiccupTownModel.readPerson()Z -/
def T_X12_readPerson : List mm_E := [(0, .aload_n 0, 1, [], 0),
  (1, .iconst 2, 1, [], 0),
  (2, .bipush 7, 2, [], 0),
  (4, .invokevirtual 198, 3, [0, 183, 3, 0, 21], 0),
  (7, .ifCond .ne 5, 3, [], 0),
  (10, .iconst 0, 1, [], 0),
  (11, .ireturn, 1, [5], 0),
  (12, .aload_n 0, 1, [], 0),
  (13, .getfield 101, 3, [21, 15, 3, 38, 3], 0),
  (16, .iconst 2, 1, [], 0),
  (17, .iaload, 1, [], 0),
  (18, .istore_n 1, 1, [], 0),
  (19, .aload_n 0, 1, [], 0),
  (20, .iconst 4, 1, [], 0),
  (21, .iload_n 1, 1, [], 0),
  (22, .iadd, 1, [], 0),
  (23, .invokevirtual 201, 3, [0, 182, 2, 0, 21], 0),
  (26, .ifCond .eq 31, 3, [], 0),
  (29, .aload_n 0, 1, [], 0),
  (30, .bipush 10, 2, [], 0),
  (32, .iload_n 1, 1, [], 0),
  (33, .iadd, 1, [], 0),
  (34, .invokevirtual 204, 3, [0, 188, 2, 0, 21], 0),
  (37, .ifCond .eq 20, 3, [], 0),
  (40, .aload_n 0, 1, [], 0),
  (41, .bipush 17, 2, [], 0),
  (43, .iload_n 1, 1, [], 0),
  (44, .iadd, 1, [], 0),
  (45, .aload_n 0, 1, [], 0),
  (46, .iconst 1, 1, [], 0),
  (47, .iconst 3, 1, [], 0),
  (48, .invokevirtual 190, 3, [0, 175, 3, 0, 21], 0),
  (51, .invokevirtual 194, 3, [0, 184, 3, 0, 21], 0),
  (54, .ifCond .ne 5, 3, [], 0),
  (57, .iconst 0, 1, [], 0),
  (58, .ireturn, 1, [5], 0),
  (59, .aload_n 0, 1, [], 0),
  (60, .bipush 18, 2, [], 0),
  (62, .invokevirtual 207, 3, [0, 171, 2, 0, 21], 0),
  (65, .ifCond .eq 20, 3, [], 0),
  (68, .aload_n 0, 1, [], 0),
  (69, .getfield 101, 3, [21, 15, 3, 38, 3], 0),
  (72, .bipush 24, 2, [], 0),
  (74, .dup2, 1, [], 0),
  (75, .iaload, 1, [], 0),
  (76, .iconst 1, 1, [], 0),
  (77, .iload_n 1, 1, [], 0),
  (78, .ishl, 1, [], 0),
  (79, .ior, 1, [], 0),
  (80, .iastore, 1, [], 0),
  (81, .aload_n 0, 1, [], 0),
  (82, .invokevirtual 82, 3, [0, 168, 1, 8, 21], 0),
  (85, .aload_n 0, 1, [], 0),
  (86, .getfield 101, 3, [21, 15, 3, 38, 3], 0),
  (89, .iconst 2, 1, [], 0),
  (90, .dup2, 1, [], 0),
  (91, .iaload, 1, [], 0),
  (92, .iconst 1, 1, [], 0),
  (93, .iadd, 1, [], 0),
  (94, .iastore, 1, [], 0),
  (95, .iconst 1, 1, [], 0),
  (96, .ireturn, 1, [5], 0)]
/-- 190: HiccupTownModel.readWork()Z -/
def T_X12_readWork : List mm_E := [(0, .aload_n 0, 1, [], 0),
  (1, .iconst 3, 1, [], 0),
  (2, .bipush 6, 2, [], 0),
  (4, .invokevirtual 198, 3, [0, 183, 3, 0, 21], 0),
  (7, .ifCond .ne 5, 3, [], 0),
  (10, .iconst 0, 1, [], 0),
  (11, .ireturn, 1, [5], 0),
  (12, .aload_n 0, 1, [], 0),
  (13, .getfield 101, 3, [21, 15, 3, 38, 3], 0),
  (16, .iconst 3, 1, [], 0),
  (17, .iaload, 1, [], 0),
  (18, .istore_n 1, 1, [], 0),
  (19, .aload_n 0, 1, [], 0),
  (20, .bipush 11, 2, [], 0),
  (22, .iload_n 1, 1, [], 0),
  (23, .iadd, 1, [], 0),
  (24, .invokevirtual 201, 3, [0, 182, 2, 0, 21], 0),
  (27, .ifCond .eq 32, 3, [], 0),
  (30, .aload_n 0, 1, [], 0),
  (31, .bipush 25, 2, [], 0),
  (33, .iload_n 1, 1, [], 0),
  (34, .iadd, 1, [], 0),
  (35, .invokevirtual 204, 3, [0, 188, 2, 0, 21], 0),
  (38, .ifCond .eq 21, 3, [], 0),
  (41, .aload_n 0, 1, [], 0),
  (42, .bipush 31, 2, [], 0),
  (44, .iload_n 1, 1, [], 0),
  (45, .iadd, 1, [], 0),
  (46, .aload_n 0, 1, [], 0),
  (47, .iconst 1, 1, [], 0),
  (48, .bipush 30, 2, [], 0),
  (50, .invokevirtual 190, 3, [0, 175, 3, 0, 21], 0),
  (53, .invokevirtual 194, 3, [0, 184, 3, 0, 21], 0),
  (56, .ifCond .ne 5, 3, [], 0),
  (59, .iconst 0, 1, [], 0),
  (60, .ireturn, 1, [5], 0),
  (61, .aload_n 0, 1, [], 0),
  (62, .getfield 101, 3, [21, 15, 3, 38, 3], 0),
  (65, .iconst 3, 1, [], 0),
  (66, .dup2, 1, [], 0),
  (67, .iaload, 1, [], 0),
  (68, .iconst 1, 1, [], 0),
  (69, .iadd, 1, [], 0),
  (70, .iastore, 1, [], 0),
  (71, .iconst 1, 1, [], 0),
  (72, .ireturn, 1, [5], 0)]
/-- 191: HiccupTownModel.isWorkHere()Z -/
def T_X12_isWorkHere : List mm_E := [(0, .aload_n 0, 1, [], 0),
  (1, .invokevirtual 180, 3, [0, 173, 1, 0, 21], 0),
  (4, .ifCond .ne 9, 3, [], 0),
  (7, .aload_n 0, 1, [], 0),
  (8, .iconst 1, 1, [], 0),
  (9, .invokevirtual 72, 3, [0, 174, 2, 0, 21], 0),
  (12, .ireturn, 1, [5], 0),
  (13, .aload_n 0, 1, [], 0),
  (14, .aload_n 0, 1, [], 0),
  (15, .getfield 117, 3, [21, 20, 3, 42, 8], 0),
  (18, .bipush 11, 2, [], 0),
  (20, .aload_n 0, 1, [], 0),
  (21, .getfield 101, 3, [21, 15, 3, 38, 3], 0),
  (24, .iconst 3, 1, [], 0),
  (25, .iaload, 1, [], 0),
  (26, .aload_n 0, 1, [], 0),
  (27, .getfield 43, 3, [21, 12, 1], 0),
  (30, .invokestatic 176, 3, [0, 180, 4, 0], 0),
  (33, .putfield 79, 3, [21, 13, 0], 0),
  (36, .aload_n 0, 1, [], 0),
  (37, .getfield 79, 3, [21, 13, 0], 0),
  (40, .iconst (-1), 1, [], 0),
  (41, .if_icmp .ne 11, 3, [], 0),
  (44, .aload_n 0, 1, [], 0),
  (45, .iconst 3, 1, [], 0),
  (46, .invokevirtual 72, 3, [0, 174, 2, 0, 21], 0),
  (49, .ifCond .eq 7, 3, [], 0),
  (52, .iconst 1, 1, [], 0),
  (53, .goto 4, 3, [], 0),
  (56, .iconst 0, 1, [], 0),
  (57, .ireturn, 1, [5], 0)]
/-- 192: HiccupTownModel.readAfter()Z -/
def T_X12_readAfter : List mm_E := [(0, .aload_n 0, 1, [], 0),
  (1, .invokevirtual 82, 3, [0, 168, 1, 8, 21], 0),
  (4, .aload_n 0, 1, [], 0),
  (5, .invokevirtual 210, 3, [0, 191, 1, 0, 21], 0),
  (8, .ifCond .ne 5, 3, [], 0),
  (11, .iconst 0, 1, [], 0),
  (12, .ireturn, 1, [5], 0),
  (13, .aload_n 0, 1, [], 0),
  (14, .getfield 79, 3, [21, 13, 0], 0),
  (17, .istore_n 1, 1, [], 0),
  (18, .aload_n 0, 1, [], 0),
  (19, .invokevirtual 82, 3, [0, 168, 1, 8, 21], 0),
  (22, .aload_n 0, 1, [], 0),
  (23, .invokevirtual 210, 3, [0, 191, 1, 0, 21], 0),
  (26, .ifCond .ne 5, 3, [], 0),
  (29, .iconst 0, 1, [], 0),
  (30, .ireturn, 1, [5], 0),
  (31, .aload_n 0, 1, [], 0),
  (32, .getfield 79, 3, [21, 13, 0], 0),
  (35, .iload_n 1, 1, [], 0),
  (36, .if_icmp .ge 22, 3, [], 0),
  (39, .aload_n 0, 1, [], 0),
  (40, .getfield 101, 3, [21, 15, 3, 38, 3], 0),
  (43, .bipush 37, 2, [], 0),
  (45, .iload_n 1, 1, [], 0),
  (46, .iadd, 1, [], 0),
  (47, .iaload, 1, [], 0),
  (48, .aload_n 0, 1, [], 0),
  (49, .getfield 79, 3, [21, 13, 0], 0),
  (52, .invokestatic 213, 3, [0, 161, 2, 0], 0),
  (55, .ifCond .eq 9, 3, [], 0),
  (58, .aload_n 0, 1, [], 0),
  (59, .iconst 3, 1, [], 0),
  (60, .invokevirtual 72, 3, [0, 174, 2, 0, 21], 0),
  (63, .ireturn, 1, [5], 0),
  (64, .aload_n 0, 1, [], 0),
  (65, .getfield 101, 3, [21, 15, 3, 38, 3], 0),
  (68, .bipush 37, 2, [], 0),
  (70, .iload_n 1, 1, [], 0),
  (71, .iadd, 1, [], 0),
  (72, .dup2, 1, [], 0),
  (73, .iaload, 1, [], 0),
  (74, .iconst 1, 1, [], 0),
  (75, .aload_n 0, 1, [], 0),
  (76, .getfield 79, 3, [21, 13, 0], 0),
  (79, .ishl, 1, [], 0),
  (80, .ior, 1, [], 0),
  (81, .iastore, 1, [], 0),
  (82, .aload_n 0, 1, [], 0),
  (83, .invokevirtual 82, 3, [0, 168, 1, 8, 21], 0),
  (86, .iconst 1, 1, [], 0),
  (87, .ireturn, 1, [5], 0)]
/-- 193: HiccupTownModel.readThing()Z -/
def T_X12_readThing : List mm_E := [(0, .aload_n 0, 1, [], 0),
  (1, .iconst 4, 1, [], 0),
  (2, .iconst 5, 1, [], 0),
  (3, .invokevirtual 198, 3, [0, 183, 3, 0, 21], 0),
  (6, .ifCond .ne 5, 3, [], 0),
  (9, .iconst 0, 1, [], 0),
  (10, .ireturn, 1, [5], 0),
  (11, .aload_n 0, 1, [], 0),
  (12, .getfield 101, 3, [21, 15, 3, 38, 3], 0),
  (15, .iconst 4, 1, [], 0),
  (16, .iaload, 1, [], 0),
  (17, .istore_n 1, 1, [], 0),
  (18, .aload_n 0, 1, [], 0),
  (19, .bipush 17, 2, [], 0),
  (21, .iload_n 1, 1, [], 0),
  (22, .iadd, 1, [], 0),
  (23, .invokevirtual 201, 3, [0, 182, 2, 0, 21], 0),
  (26, .ifCond .eq 21, 3, [], 0),
  (29, .aload_n 0, 1, [], 0),
  (30, .bipush 43, 2, [], 0),
  (32, .iload_n 1, 1, [], 0),
  (33, .iadd, 1, [], 0),
  (34, .aload_n 0, 1, [], 0),
  (35, .iconst 2, 1, [], 0),
  (36, .bipush 60, 2, [], 0),
  (38, .invokevirtual 190, 3, [0, 175, 3, 0, 21], 0),
  (41, .invokevirtual 194, 3, [0, 184, 3, 0, 21], 0),
  (44, .ifCond .ne 5, 3, [], 0),
  (47, .iconst 0, 1, [], 0),
  (48, .ireturn, 1, [5], 0),
  (49, .aload_n 0, 1, [], 0),
  (50, .getfield 101, 3, [21, 15, 3, 38, 3], 0),
  (53, .iconst 4, 1, [], 0),
  (54, .dup2, 1, [], 0),
  (55, .iaload, 1, [], 0),
  (56, .iconst 1, 1, [], 0),
  (57, .iadd, 1, [], 0),
  (58, .iastore, 1, [], 0),
  (59, .iconst 1, 1, [], 0),
  (60, .ireturn, 1, [5], 0)]
/-- 194: HiccupTownModel.readLine()Z -/
def T_X12_readLine : List mm_E := [(0, .aload_n 0, 1, [], 0),
  (1, .iconst 0, 1, [], 0),
  (2, .invokevirtual 207, 3, [0, 171, 2, 0, 21], 0),
  (5, .ifCond .eq 8, 3, [], 0),
  (8, .aload_n 0, 1, [], 0),
  (9, .invokevirtual 216, 3, [0, 186, 1, 0, 21], 0),
  (12, .ireturn, 1, [5], 0),
  (13, .aload_n 0, 1, [], 0),
  (14, .iconst 1, 1, [], 0),
  (15, .invokevirtual 207, 3, [0, 171, 2, 0, 21], 0),
  (18, .ifCond .eq 32, 3, [], 0),
  (21, .aload_n 0, 1, [], 0),
  (22, .iconst 1, 1, [], 0),
  (23, .invokevirtual 187, 3, [0, 185, 2, 0, 21], 0),
  (26, .ifCond .eq 22, 3, [], 0),
  (29, .aload_n 0, 1, [], 0),
  (30, .iconst 5, 1, [], 0),
  (31, .aload_n 0, 1, [], 0),
  (32, .iconst 1, 1, [], 0),
  (33, .bipush 9, 2, [], 0),
  (35, .invokevirtual 190, 3, [0, 175, 3, 0, 21], 0),
  (38, .invokevirtual 194, 3, [0, 184, 3, 0, 21], 0),
  (41, .ifCond .eq 7, 3, [], 0),
  (44, .iconst 1, 1, [], 0),
  (45, .goto 4, 3, [], 0),
  (48, .iconst 0, 1, [], 0),
  (49, .ireturn, 1, [5], 0),
  (50, .aload_n 0, 1, [], 0),
  (51, .iconst 2, 1, [], 0),
  (52, .invokevirtual 207, 3, [0, 171, 2, 0, 21], 0),
  (55, .ifCond .eq 8, 3, [], 0),
  (58, .aload_n 0, 1, [], 0),
  (59, .invokevirtual 219, 3, [0, 187, 1, 0, 21], 0),
  (62, .ireturn, 1, [5], 0),
  (63, .aload_n 0, 1, [], 0),
  (64, .iconst 3, 1, [], 0),
  (65, .invokevirtual 207, 3, [0, 171, 2, 0, 21], 0),
  (68, .ifCond .eq 8, 3, [], 0),
  (71, .aload_n 0, 1, [], 0),
  (72, .invokevirtual 222, 3, [0, 189, 1, 0, 21], 0),
  (75, .ireturn, 1, [5], 0),
  (76, .aload_n 0, 1, [], 0),
  (77, .iconst 4, 1, [], 0),
  (78, .invokevirtual 207, 3, [0, 171, 2, 0, 21], 0),
  (81, .ifCond .eq 8, 3, [], 0),
  (84, .aload_n 0, 1, [], 0),
  (85, .invokevirtual 225, 3, [0, 190, 1, 0, 21], 0),
  (88, .ireturn, 1, [5], 0),
  (89, .aload_n 0, 1, [], 0),
  (90, .iconst 5, 1, [], 0),
  (91, .invokevirtual 207, 3, [0, 171, 2, 0, 21], 0),
  (94, .ifCond .eq 8, 3, [], 0),
  (97, .aload_n 0, 1, [], 0),
  (98, .invokevirtual 228, 3, [0, 192, 1, 0, 21], 0),
  (101, .ireturn, 1, [5], 0),
  (102, .aload_n 0, 1, [], 0),
  (103, .bipush 6, 2, [], 0),
  (105, .invokevirtual 207, 3, [0, 171, 2, 0, 21], 0),
  (108, .ifCond .eq 10, 3, [], 0),
  (111, .aload_n 0, 1, [], 0),
  (112, .invokevirtual 231, 3, [0, 193, 1, 0, 21], 0),
  (115, .goto 8, 3, [], 0),
  (118, .aload_n 0, 1, [], 0),
  (119, .iconst 1, 1, [], 0),
  (120, .invokevirtual 72, 3, [0, 174, 2, 0, 21], 0),
  (123, .ireturn, 1, [5], 0)]
/-- 195: HiccupTownModel.town()I -/
def T_X12_town : List mm_E := [(0, .aload_n 0, 1, [], 0),
  (1, .sipush 900, 3, [], 0),
  (4, .invokevirtual 234, 3, [0, 177, 2, 8, 21], 0),
  (7, .aload_n 0, 1, [], 0),
  (8, .invokevirtual 166, 3, [0, 178, 1, 8, 21], 0),
  (11, .iconst 0, 1, [], 0),
  (12, .istore_n 1, 1, [], 0),
  (13, .aload_n 0, 1, [], 0),
  (14, .getfield 30, 3, [21, 7, 0], 0),
  (17, .ifCond .eq 30, 3, [], 0),
  (20, .aload_n 0, 1, [], 0),
  (21, .invokevirtual 237, 3, [0, 194, 1, 0, 21], 0),
  (24, .ifCond .eq 10, 3, [], 0),
  (27, .aload_n 0, 1, [], 0),
  (28, .invokevirtual 240, 3, [0, 176, 1, 0, 21], 0),
  (31, .ifCond .ne 10, 3, [], 0),
  (34, .iconst (-1), 1, [], 0),
  (35, .aload_n 0, 1, [], 0),
  (36, .getfield 69, 3, [21, 11, 0], 0),
  (39, .isub, 1, [], 0),
  (40, .ireturn, 1, [], 0),
  (41, .iinc 1 1, 3, [], 0),
  (44, .goto (-31), 3, [], 0),
  (47, .iconst 0, 1, [], 0),
  (48, .istore_n 2, 1, [], 0),
  (49, .iload_n 2, 1, [], 0),
  (50, .bipush 48, 2, [], 0),
  (52, .if_icmp .ge 21, 3, [], 0),
  (55, .aload_n 0, 1, [], 0),
  (56, .getfield 98, 3, [21, 14, 3, 37, 2], 0),
  (59, .iload_n 2, 1, [], 0),
  (60, .aload_n 0, 1, [], 0),
  (61, .getfield 101, 3, [21, 15, 3, 38, 3], 0),
  (64, .iload_n 2, 1, [], 0),
  (65, .iaload, 1, [], 0),
  (66, .iastore, 1, [], 0),
  (67, .iinc 2 1, 3, [], 0),
  (70, .goto (-21), 3, [], 0),
  (73, .iconst 0, 1, [], 0),
  (74, .istore_n 2, 1, [], 0),
  (75, .iload_n 2, 1, [], 0),
  (76, .bipush 22, 2, [], 0),
  (78, .if_icmp .ge 21, 3, [], 0),
  (81, .aload_n 0, 1, [], 0),
  (82, .getfield 113, 3, [21, 19, 3, 42, 7], 0),
  (85, .iload_n 2, 1, [], 0),
  (86, .aload_n 0, 1, [], 0),
  (87, .getfield 117, 3, [21, 20, 3, 42, 8], 0),
  (90, .iload_n 2, 1, [], 0),
  (91, .laload, 1, [], 0),
  (92, .lastore, 1, [], 0),
  (93, .iinc 2 1, 3, [], 0),
  (96, .goto (-21), 3, [], 0),
  (99, .aload_n 0, 1, [], 0),
  (100, .invokevirtual 169, 3, [0, 179, 1, 8, 21], 0),
  (103, .aload_n 0, 1, [], 0),
  (104, .iconst 0, 1, [], 0),
  (105, .putfield 243, 3, [21, 24, 0], 0),
  (108, .iload_n 1, 1, [], 0),
  (109, .ireturn, 1, [], 0)]
/-- 196: HiccupTownModel.fault()I -/
def T_X12_fault : List mm_E := [(0, .aload_n 0, 1, [], 0),
  (1, .iconst 0, 1, [], 0),
  (2, .putfield 1, 3, [21, 0, 0], 0),
  (5, .aload_n 0, 1, [], 0),
  (6, .getfield 66, 3, [21, 10, 0], 0),
  (9, .ireturn, 1, [], 0)]
/-- 197: HiccupTownModel.isBeater(I)Z -/
def T_X12_isBeater : List mm_E := [(0, .iload_n 1, 1, [], 0),
  (1, .iconst 0, 1, [], 0),
  (2, .aload_n 0, 1, [], 0),
  (3, .getfield 98, 3, [21, 14, 3, 37, 2], 0),
  (6, .iconst 1, 1, [], 0),
  (7, .iaload, 1, [], 0),
  (8, .invokestatic 75, 3, [0, 160, 3, 0], 0),
  (11, .ireturn, 1, [5], 0)]
/-- 198: HiccupTownModel.isPerson(I)Z -/
def T_X12_isPerson : List mm_E := [(0, .iload_n 1, 1, [], 0),
  (1, .iconst 0, 1, [], 0),
  (2, .aload_n 0, 1, [], 0),
  (3, .getfield 98, 3, [21, 14, 3, 37, 2], 0),
  (6, .iconst 2, 1, [], 0),
  (7, .iaload, 1, [], 0),
  (8, .iconst 1, 1, [], 0),
  (9, .isub, 1, [], 0),
  (10, .invokestatic 75, 3, [0, 160, 3, 0], 0),
  (13, .ireturn, 1, [5], 0)]
/-- 199: HiccupTownModel.isWork(I)Z -/
def T_X12_isWork : List mm_E := [(0, .iload_n 1, 1, [], 0),
  (1, .iconst 0, 1, [], 0),
  (2, .aload_n 0, 1, [], 0),
  (3, .getfield 98, 3, [21, 14, 3, 37, 2], 0),
  (6, .iconst 3, 1, [], 0),
  (7, .iaload, 1, [], 0),
  (8, .iconst 1, 1, [], 0),
  (9, .isub, 1, [], 0),
  (10, .invokestatic 75, 3, [0, 160, 3, 0], 0),
  (13, .ireturn, 1, [5], 0)]
/-- 200: HiccupTownModel.isOut(I)Z -/
def T_X12_isOut : List mm_E := [(0, .aload_n 0, 1, [], 0),
  (1, .getfield 98, 3, [21, 14, 3, 37, 2], 0),
  (4, .bipush 53, 2, [], 0),
  (6, .iaload, 1, [], 0),
  (7, .iload_n 1, 1, [], 0),
  (8, .invokestatic 213, 3, [0, 161, 2, 0], 0),
  (11, .ireturn, 1, [5], 0)]
/-- 201: HiccupTownModel.isStanding()Z -/
def T_X12_isStanding : List mm_E := [(0, .aload_n 0, 1, [], 0),
  (1, .getfield 98, 3, [21, 14, 3, 37, 2], 0),
  (4, .bipush 51, 2, [], 0),
  (6, .iaload, 1, [], 0),
  (7, .iconst 1, 1, [], 0),
  (8, .if_icmp .ne 7, 3, [], 0),
  (11, .iconst 1, 1, [], 0),
  (12, .goto 4, 3, [], 0),
  (15, .iconst 0, 1, [], 0),
  (16, .ireturn, 1, [5], 0)]
/-- 202: HiccupTownModel.doneWorks()I -/
def T_X12_doneWorks : List mm_E := [(0, .iconst 0, 1, [], 0),
  (1, .istore_n 1, 1, [], 0),
  (2, .iconst 0, 1, [], 0),
  (3, .istore_n 2, 1, [], 0),
  (4, .iload_n 2, 1, [], 0),
  (5, .aload_n 0, 1, [], 0),
  (6, .getfield 98, 3, [21, 14, 3, 37, 2], 0),
  (9, .iconst 3, 1, [], 0),
  (10, .iaload, 1, [], 0),
  (11, .if_icmp .ge 27, 3, [], 0),
  (14, .aload_n 0, 1, [], 0),
  (15, .getfield 98, 3, [21, 14, 3, 37, 2], 0),
  (18, .bipush 68, 2, [], 0),
  (20, .iload_n 2, 1, [], 0),
  (21, .iadd, 1, [], 0),
  (22, .iaload, 1, [], 0),
  (23, .ifCond .ne 9, 3, [], 0),
  (26, .iload_n 1, 1, [], 0),
  (27, .iconst 1, 1, [], 0),
  (28, .iload_n 2, 1, [], 0),
  (29, .ishl, 1, [], 0),
  (30, .ior, 1, [], 0),
  (31, .istore_n 1, 1, [], 0),
  (32, .iinc 2 1, 3, [], 0),
  (35, .goto (-31), 3, [], 0),
  (38, .iload_n 1, 1, [], 0),
  (39, .ireturn, 1, [], 0)]
/-- 203: HiccupTownModel.openWorks()I -/
def T_X12_openWorks : List mm_E := [(0, .aload_n 0, 1, [], 0),
  (1, .invokevirtual 246, 3, [0, 202, 1, 0, 21], 0),
  (4, .istore_n 1, 1, [], 0),
  (5, .iconst 0, 1, [], 0),
  (6, .istore_n 2, 1, [], 0),
  (7, .iconst 0, 1, [], 0),
  (8, .istore_n 3, 1, [], 0),
  (9, .iload_n 3, 1, [], 0),
  (10, .aload_n 0, 1, [], 0),
  (11, .getfield 98, 3, [21, 14, 3, 37, 2], 0),
  (14, .iconst 3, 1, [], 0),
  (15, .iaload, 1, [], 0),
  (16, .if_icmp .ge 39, 3, [], 0),
  (19, .iload_n 1, 1, [], 0),
  (20, .iload_n 3, 1, [], 0),
  (21, .invokestatic 213, 3, [0, 161, 2, 0], 0),
  (24, .ifCond .ne 25, 3, [], 0),
  (27, .aload_n 0, 1, [], 0),
  (28, .getfield 98, 3, [21, 14, 3, 37, 2], 0),
  (31, .bipush 37, 2, [], 0),
  (33, .iload_n 3, 1, [], 0),
  (34, .iadd, 1, [], 0),
  (35, .iaload, 1, [], 0),
  (36, .iload_n 1, 1, [], 0),
  (37, .iconst (-1), 1, [], 0),
  (38, .ixor, 1, [], 0),
  (39, .iand, 1, [], 0),
  (40, .ifCond .ne 9, 3, [], 0),
  (43, .iload_n 2, 1, [], 0),
  (44, .iconst 1, 1, [], 0),
  (45, .iload_n 3, 1, [], 0),
  (46, .ishl, 1, [], 0),
  (47, .ior, 1, [], 0),
  (48, .istore_n 2, 1, [], 0),
  (49, .iinc 3 1, 3, [], 0),
  (52, .goto (-43), 3, [], 0),
  (55, .iload_n 2, 1, [], 0),
  (56, .ireturn, 1, [], 0)]
/-- 204: HiccupTownModel.isBusy(I)Z -/
def T_X12_isBusy : List mm_E := [(0, .aload_n 0, 1, [], 0),
  (1, .iload_n 1, 1, [], 0),
  (2, .invokevirtual 249, 3, [0, 200, 2, 0, 21], 0),
  (5, .ifCond .eq 5, 3, [], 0),
  (8, .iconst 0, 1, [], 0),
  (9, .ireturn, 1, [5], 0),
  (10, .aload_n 0, 1, [], 0),
  (11, .invokevirtual 252, 3, [0, 203, 1, 0, 21], 0),
  (14, .istore_n 2, 1, [], 0),
  (15, .iconst 0, 1, [], 0),
  (16, .istore_n 3, 1, [], 0),
  (17, .iload_n 3, 1, [], 0),
  (18, .bipush 6, 2, [], 0),
  (20, .if_icmp .ge 40, 3, [], 0),
  (23, .iload_n 2, 1, [], 0),
  (24, .iload_n 3, 1, [], 0),
  (25, .invokestatic 213, 3, [0, 161, 2, 0], 0),
  (28, .ifCond .eq 26, 3, [], 0),
  (31, .aload_n 0, 1, [], 0),
  (32, .getfield 98, 3, [21, 14, 3, 37, 2], 0),
  (35, .bipush 25, 2, [], 0),
  (37, .iload_n 3, 1, [], 0),
  (38, .iadd, 1, [], 0),
  (39, .iaload, 1, [], 0),
  (40, .aload_n 0, 1, [], 0),
  (41, .getfield 98, 3, [21, 14, 3, 37, 2], 0),
  (44, .bipush 54, 2, [], 0),
  (46, .iload_n 1, 1, [], 0),
  (47, .iadd, 1, [], 0),
  (48, .iaload, 1, [], 0),
  (49, .if_icmp .ne 5, 3, [], 0),
  (52, .iconst 1, 1, [], 0),
  (53, .ireturn, 1, [5], 0),
  (54, .iinc 3 1, 3, [], 0),
  (57, .goto (-40), 3, [], 0),
  (60, .iconst 0, 1, [], 0),
  (61, .ireturn, 1, [5], 0)]
/-- 205: HiccupTownModel.person(II)I -/
def T_X12_person : List mm_E := [(0, .aload_n 0, 1, [], 0),
  (1, .iconst 0, 1, [], 0),
  (2, .putfield 1, 3, [21, 0, 0], 0),
  (5, .aload_n 0, 1, [], 0),
  (6, .iload_n 1, 1, [], 0),
  (7, .invokevirtual 255, 3, [0, 198, 2, 0, 21], 0),
  (10, .ifCond .ne 8, 3, [], 0),
  (13, .aload_n 0, 1, [], 0),
  (14, .invokevirtual 258, 3, [0, 155, 1, 0, 21], 0),
  (17, .ireturn, 1, [], 0),
  (18, .iload_n 2, 1, [], 0),
  (19, .tableswitch 91 0 4 #[33, 43, 53, 67, 77], 33, [], 0),
  (52, .aload_n 0, 1, [], 0),
  (53, .getfield 98, 3, [21, 14, 3, 37, 2], 0),
  (56, .bipush 54, 2, [], 0),
  (58, .iload_n 1, 1, [], 0),
  (59, .iadd, 1, [], 0),
  (60, .iaload, 1, [], 0),
  (61, .ireturn, 1, [], 0),
  (62, .aload_n 0, 1, [], 0),
  (63, .getfield 98, 3, [21, 14, 3, 37, 2], 0),
  (66, .bipush 17, 2, [], 0),
  (68, .iload_n 1, 1, [], 0),
  (69, .iadd, 1, [], 0),
  (70, .iaload, 1, [], 0),
  (71, .ireturn, 1, [], 0),
  (72, .aload_n 0, 1, [], 0),
  (73, .iload_n 1, 1, [], 0),
  (74, .invokevirtual 249, 3, [0, 200, 2, 0, 21], 0),
  (77, .ifCond .eq 7, 3, [], 0),
  (80, .iconst 1, 1, [], 0),
  (81, .goto 4, 3, [], 0),
  (84, .iconst 0, 1, [], 0),
  (85, .ireturn, 1, [], 0),
  (86, .aload_n 0, 1, [], 0),
  (87, .getfield 98, 3, [21, 14, 3, 37, 2], 0),
  (90, .bipush 61, 2, [], 0),
  (92, .iload_n 1, 1, [], 0),
  (93, .iadd, 1, [], 0),
  (94, .iaload, 1, [], 0),
  (95, .ireturn, 1, [], 0),
  (96, .aload_n 0, 1, [], 0),
  (97, .iload_n 1, 1, [], 0),
  (98, .invokevirtual 261, 3, [0, 204, 2, 0, 21], 0),
  (101, .ifCond .eq 7, 3, [], 0),
  (104, .iconst 1, 1, [], 0),
  (105, .goto 4, 3, [], 0),
  (108, .iconst 0, 1, [], 0),
  (109, .ireturn, 1, [], 0),
  (110, .aload_n 0, 1, [], 0),
  (111, .invokevirtual 258, 3, [0, 155, 1, 0, 21], 0),
  (114, .ireturn, 1, [], 0)]
/-- 206: HiccupTownModel.work(II)I -/
def T_X12_work : List mm_E := [(0, .aload_n 0, 1, [], 0),
  (1, .iconst 0, 1, [], 0),
  (2, .putfield 1, 3, [21, 0, 0], 0),
  (5, .aload_n 0, 1, [], 0),
  (6, .iload_n 1, 1, [], 0),
  (7, .invokevirtual 264, 3, [0, 199, 2, 0, 21], 0),
  (10, .ifCond .ne 5, 3, [], 0),
  (13, .iconst (-1), 1, [], 0),
  (14, .ireturn, 1, [], 0),
  (15, .iload_n 2, 1, [], 0),
  (16, .tableswitch 109 0 4 #[36, 46, 56, 66, 99], 36, [], 0),
  (52, .aload_n 0, 1, [], 0),
  (53, .getfield 98, 3, [21, 14, 3, 37, 2], 0),
  (56, .bipush 25, 2, [], 0),
  (58, .iload_n 1, 1, [], 0),
  (59, .iadd, 1, [], 0),
  (60, .iaload, 1, [], 0),
  (61, .ireturn, 1, [], 0),
  (62, .aload_n 0, 1, [], 0),
  (63, .getfield 98, 3, [21, 14, 3, 37, 2], 0),
  (66, .bipush 31, 2, [], 0),
  (68, .iload_n 1, 1, [], 0),
  (69, .iadd, 1, [], 0),
  (70, .iaload, 1, [], 0),
  (71, .ireturn, 1, [], 0),
  (72, .aload_n 0, 1, [], 0),
  (73, .getfield 98, 3, [21, 14, 3, 37, 2], 0),
  (76, .bipush 68, 2, [], 0),
  (78, .iload_n 1, 1, [], 0),
  (79, .iadd, 1, [], 0),
  (80, .iaload, 1, [], 0),
  (81, .ireturn, 1, [], 0),
  (82, .aload_n 0, 1, [], 0),
  (83, .getfield 98, 3, [21, 14, 3, 37, 2], 0),
  (86, .bipush 68, 2, [], 0),
  (88, .iload_n 1, 1, [], 0),
  (89, .iadd, 1, [], 0),
  (90, .iaload, 1, [], 0),
  (91, .ifCond .ne 7, 3, [], 0),
  (94, .iconst 2, 1, [], 0),
  (95, .goto 19, 3, [], 0),
  (98, .aload_n 0, 1, [], 0),
  (99, .invokevirtual 252, 3, [0, 203, 1, 0, 21], 0),
  (102, .iload_n 1, 1, [], 0),
  (103, .invokestatic 213, 3, [0, 161, 2, 0], 0),
  (106, .ifCond .eq 7, 3, [], 0),
  (109, .iconst 1, 1, [], 0),
  (110, .goto 4, 3, [], 0),
  (113, .iconst 0, 1, [], 0),
  (114, .ireturn, 1, [], 0),
  (115, .aload_n 0, 1, [], 0),
  (116, .getfield 98, 3, [21, 14, 3, 37, 2], 0),
  (119, .bipush 37, 2, [], 0),
  (121, .iload_n 1, 1, [], 0),
  (122, .iadd, 1, [], 0),
  (123, .iaload, 1, [], 0),
  (124, .ireturn, 1, [], 0),
  (125, .iconst (-1), 1, [], 0),
  (126, .ireturn, 1, [], 0)]
/-- 207: HiccupTownModel.gap(I)I -/
def T_X12_gap : List mm_E := [(0, .aload_n 0, 1, [], 0),
  (1, .iconst 0, 1, [], 0),
  (2, .putfield 1, 3, [21, 0, 0], 0),
  (5, .aload_n 0, 1, [], 0),
  (6, .iload_n 1, 1, [], 0),
  (7, .invokevirtual 267, 3, [0, 197, 2, 0, 21], 0),
  (10, .ifCond .eq 14, 3, [], 0),
  (13, .aload_n 0, 1, [], 0),
  (14, .getfield 98, 3, [21, 14, 3, 37, 2], 0),
  (17, .iconst 5, 1, [], 0),
  (18, .iload_n 1, 1, [], 0),
  (19, .iadd, 1, [], 0),
  (20, .iaload, 1, [], 0),
  (21, .goto 4, 3, [], 0),
  (24, .iconst (-1), 1, [], 0),
  (25, .ireturn, 1, [], 0)]
/-- 208: HiccupTownModel.now(I)I -/
def T_X12_now : List mm_E := [(0, .aload_n 0, 1, [], 0),
  (1, .iconst 0, 1, [], 0),
  (2, .putfield 1, 3, [21, 0, 0], 0),
  (5, .iload_n 1, 1, [], 0),
  (6, .tableswitch 104 0 7 #[46, 54, 62, 70, 78, 86, 94, 99], 46, [], 0),
  (52, .aload_n 0, 1, [], 0),
  (53, .getfield 98, 3, [21, 14, 3, 37, 2], 0),
  (56, .bipush 48, 2, [], 0),
  (58, .iaload, 1, [], 0),
  (59, .ireturn, 1, [], 0),
  (60, .aload_n 0, 1, [], 0),
  (61, .getfield 98, 3, [21, 14, 3, 37, 2], 0),
  (64, .bipush 49, 2, [], 0),
  (66, .iaload, 1, [], 0),
  (67, .ireturn, 1, [], 0),
  (68, .aload_n 0, 1, [], 0),
  (69, .getfield 98, 3, [21, 14, 3, 37, 2], 0),
  (72, .bipush 50, 2, [], 0),
  (74, .iaload, 1, [], 0),
  (75, .ireturn, 1, [], 0),
  (76, .aload_n 0, 1, [], 0),
  (77, .getfield 98, 3, [21, 14, 3, 37, 2], 0),
  (80, .bipush 51, 2, [], 0),
  (82, .iaload, 1, [], 0),
  (83, .ireturn, 1, [], 0),
  (84, .aload_n 0, 1, [], 0),
  (85, .getfield 98, 3, [21, 14, 3, 37, 2], 0),
  (88, .bipush 52, 2, [], 0),
  (90, .iaload, 1, [], 0),
  (91, .ireturn, 1, [], 0),
  (92, .aload_n 0, 1, [], 0),
  (93, .getfield 98, 3, [21, 14, 3, 37, 2], 0),
  (96, .bipush 53, 2, [], 0),
  (98, .iaload, 1, [], 0),
  (99, .ireturn, 1, [], 0),
  (100, .aload_n 0, 1, [], 0),
  (101, .invokevirtual 246, 3, [0, 202, 1, 0, 21], 0),
  (104, .ireturn, 1, [], 0),
  (105, .aload_n 0, 1, [], 0),
  (106, .invokevirtual 252, 3, [0, 203, 1, 0, 21], 0),
  (109, .ireturn, 1, [], 0),
  (110, .iconst (-1), 1, [], 0),
  (111, .ireturn, 1, [], 0)]
/-- 209: HiccupTownModel.snap()V -/
def T_X12_snap : List mm_E := [(0, .aload_n 0, 1, [], 0),
  (1, .getfield 243, 3, [21, 24, 0], 0),
  (4, .bipush 8, 2, [], 0),
  (6, .if_icmp .ne 43, 3, [], 0),
  (9, .iconst 0, 1, [], 0),
  (10, .istore_n 1, 1, [], 0),
  (11, .iload_n 1, 1, [], 0),
  (12, .sipush 182, 3, [], 0),
  (15, .if_icmp .ge 24, 3, [], 0),
  (18, .aload_n 0, 1, [], 0),
  (19, .getfield 107, 3, [21, 17, 3, 40, 5], 0),
  (22, .iload_n 1, 1, [], 0),
  (23, .aload_n 0, 1, [], 0),
  (24, .getfield 107, 3, [21, 17, 3, 40, 5], 0),
  (27, .iload_n 1, 1, [], 0),
  (28, .bipush 26, 2, [], 0),
  (30, .iadd, 1, [], 0),
  (31, .iaload, 1, [], 0),
  (32, .iastore, 1, [], 0),
  (33, .iinc 1 1, 3, [], 0),
  (36, .goto (-25), 3, [], 0),
  (39, .aload_n 0, 1, [], 0),
  (40, .dup, 1, [], 0),
  (41, .getfield 243, 3, [21, 24, 0], 0),
  (44, .iconst 1, 1, [], 0),
  (45, .isub, 1, [], 0),
  (46, .putfield 243, 3, [21, 24, 0], 0),
  (49, .iconst 0, 1, [], 0),
  (50, .istore_n 1, 1, [], 0),
  (51, .iload_n 1, 1, [], 0),
  (52, .bipush 26, 2, [], 0),
  (54, .if_icmp .ge 32, 3, [], 0),
  (57, .aload_n 0, 1, [], 0),
  (58, .getfield 107, 3, [21, 17, 3, 40, 5], 0),
  (61, .bipush 26, 2, [], 0),
  (63, .aload_n 0, 1, [], 0),
  (64, .getfield 243, 3, [21, 24, 0], 0),
  (67, .imul, 1, [], 0),
  (68, .iload_n 1, 1, [], 0),
  (69, .iadd, 1, [], 0),
  (70, .aload_n 0, 1, [], 0),
  (71, .getfield 98, 3, [21, 14, 3, 37, 2], 0),
  (74, .bipush 48, 2, [], 0),
  (76, .iload_n 1, 1, [], 0),
  (77, .iadd, 1, [], 0),
  (78, .iaload, 1, [], 0),
  (79, .iastore, 1, [], 0),
  (80, .iinc 1 1, 3, [], 0),
  (83, .goto (-32), 3, [], 0),
  (86, .aload_n 0, 1, [], 0),
  (87, .dup, 1, [], 0),
  (88, .getfield 243, 3, [21, 24, 0], 0),
  (91, .iconst 1, 1, [], 0),
  (92, .iadd, 1, [], 0),
  (93, .putfield 243, 3, [21, 24, 0], 0),
  (96, .return_, 1, [], 0)]
/-- 210: HiccupTownModel.isCrowded(I)Z -/
def T_X12_isCrowded : List mm_E := [(0, .iconst 0, 1, [], 0),
  (1, .istore_n 2, 1, [], 0),
  (2, .iload_n 2, 1, [], 0),
  (3, .aload_n 0, 1, [], 0),
  (4, .getfield 98, 3, [21, 14, 3, 37, 2], 0),
  (7, .iconst 2, 1, [], 0),
  (8, .iaload, 1, [], 0),
  (9, .if_icmp .ge 45, 3, [], 0),
  (12, .iload_n 2, 1, [], 0),
  (13, .iload_n 1, 1, [], 0),
  (14, .if_icmp .eq 34, 3, [], 0),
  (17, .aload_n 0, 1, [], 0),
  (18, .iload_n 2, 1, [], 0),
  (19, .invokevirtual 249, 3, [0, 200, 2, 0, 21], 0),
  (22, .ifCond .ne 26, 3, [], 0),
  (25, .aload_n 0, 1, [], 0),
  (26, .getfield 98, 3, [21, 14, 3, 37, 2], 0),
  (29, .bipush 54, 2, [], 0),
  (31, .iload_n 2, 1, [], 0),
  (32, .iadd, 1, [], 0),
  (33, .iaload, 1, [], 0),
  (34, .aload_n 0, 1, [], 0),
  (35, .getfield 98, 3, [21, 14, 3, 37, 2], 0),
  (38, .bipush 54, 2, [], 0),
  (40, .iload_n 1, 1, [], 0),
  (41, .iadd, 1, [], 0),
  (42, .iaload, 1, [], 0),
  (43, .if_icmp .ne 5, 3, [], 0),
  (46, .iconst 1, 1, [], 0),
  (47, .ireturn, 1, [5], 0),
  (48, .iinc 2 1, 3, [], 0),
  (51, .goto (-49), 3, [], 0),
  (54, .iconst 0, 1, [], 0),
  (55, .ireturn, 1, [5], 0)]
/-- 211: HiccupTownModel.why(II)I -/
def T_X12_why : List mm_E := [(0, .iload_n 1, 1, [], 0),
  (1, .tableswitch 84 0 4 #[35, 35, 43, 53, 70], 35, [], 0),
  (36, .aload_n 0, 1, [], 0),
  (37, .getfield 98, 3, [21, 14, 3, 37, 2], 0),
  (40, .bipush 51, 2, [], 0),
  (42, .iaload, 1, [], 0),
  (43, .ireturn, 1, [], 0),
  (44, .iconst 1, 1, [], 0),
  (45, .aload_n 0, 1, [], 0),
  (46, .getfield 98, 3, [21, 14, 3, 37, 2], 0),
  (49, .bipush 51, 2, [], 0),
  (51, .iaload, 1, [], 0),
  (52, .isub, 1, [], 0),
  (53, .ireturn, 1, [], 0),
  (54, .aload_n 0, 1, [], 0),
  (55, .getfield 98, 3, [21, 14, 3, 37, 2], 0),
  (58, .bipush 49, 2, [], 0),
  (60, .iaload, 1, [], 0),
  (61, .iload_n 2, 1, [], 0),
  (62, .if_icmp .ne 7, 3, [], 0),
  (65, .iconst 1, 1, [], 0),
  (66, .goto 4, 3, [], 0),
  (69, .iconst 0, 1, [], 0),
  (70, .ireturn, 1, [], 0),
  (71, .aload_n 0, 1, [], 0),
  (72, .iload_n 2, 1, [], 0),
  (73, .invokevirtual 249, 3, [0, 200, 2, 0, 21], 0),
  (76, .ifCond .eq 7, 3, [], 0),
  (79, .iconst 1, 1, [], 0),
  (80, .goto 4, 3, [], 0),
  (83, .iconst 0, 1, [], 0),
  (84, .ireturn, 1, [], 0),
  (85, .aload_n 0, 1, [], 0),
  (86, .iload_n 2, 1, [], 0),
  (87, .invokevirtual 249, 3, [0, 200, 2, 0, 21], 0),
  (90, .ifCond .ne 7, 3, [], 0),
  (93, .iconst 1, 1, [], 0),
  (94, .goto 16, 3, [], 0),
  (97, .aload_n 0, 1, [], 0),
  (98, .iload_n 2, 1, [], 0),
  (99, .invokevirtual 270, 3, [0, 210, 2, 0, 21], 0),
  (102, .ifCond .eq 7, 3, [], 0),
  (105, .iconst 2, 1, [], 0),
  (106, .goto 4, 3, [], 0),
  (109, .iconst 0, 1, [], 0),
  (110, .ireturn, 1, [], 0)]
/-- 212: HiccupTownModel.relieved(I)V -/
def T_X12_relieved : List mm_E := [(0, .aload_n 0, 1, [], 0),
  (1, .getfield 98, 3, [21, 14, 3, 37, 2], 0),
  (4, .bipush 49, 2, [], 0),
  (6, .iload_n 1, 1, [], 0),
  (7, .iastore, 1, [], 0),
  (8, .aload_n 0, 1, [], 0),
  (9, .getfield 98, 3, [21, 14, 3, 37, 2], 0),
  (12, .bipush 50, 2, [], 0),
  (14, .aload_n 0, 1, [], 0),
  (15, .getfield 98, 3, [21, 14, 3, 37, 2], 0),
  (18, .bipush 50, 2, [], 0),
  (20, .iaload, 1, [], 0),
  (21, .aload_n 0, 1, [], 0),
  (22, .getfield 98, 3, [21, 14, 3, 37, 2], 0),
  (25, .iconst 5, 1, [], 0),
  (26, .iload_n 1, 1, [], 0),
  (27, .iadd, 1, [], 0),
  (28, .iaload, 1, [], 0),
  (29, .invokestatic 273, 3, [0, 162, 2, 0], 0),
  (32, .iastore, 1, [], 0),
  (33, .return_, 1, [], 0)]
/-- 213: HiccupTownModel.live(II)V -/
def T_X12_live : List mm_E := [(0, .iload_n 1, 1, [], 0),
  (1, .tableswitch 98 0 3 #[31, 66, 75, 92], 31, [], 0),
  (32, .aload_n 0, 1, [], 0),
  (33, .getfield 98, 3, [21, 14, 3, 37, 2], 0),
  (36, .bipush 50, 2, [], 0),
  (38, .bipush 99, 2, [], 0),
  (40, .aload_n 0, 1, [], 0),
  (41, .getfield 98, 3, [21, 14, 3, 37, 2], 0),
  (44, .bipush 50, 2, [], 0),
  (46, .iaload, 1, [], 0),
  (47, .aload_n 0, 1, [], 0),
  (48, .getfield 98, 3, [21, 14, 3, 37, 2], 0),
  (51, .iconst 5, 1, [], 0),
  (52, .aload_n 0, 1, [], 0),
  (53, .getfield 98, 3, [21, 14, 3, 37, 2], 0),
  (56, .bipush 49, 2, [], 0),
  (58, .iaload, 1, [], 0),
  (59, .iadd, 1, [], 0),
  (60, .iaload, 1, [], 0),
  (61, .iadd, 1, [], 0),
  (62, .invokestatic 273, 3, [0, 162, 2, 0], 0),
  (65, .iastore, 1, [], 0),
  (66, .return_, 1, [], 0),
  (67, .aload_n 0, 1, [], 0),
  (68, .getfield 98, 3, [21, 14, 3, 37, 2], 0),
  (71, .bipush 51, 2, [], 0),
  (73, .iconst 1, 1, [], 0),
  (74, .iastore, 1, [], 0),
  (75, .return_, 1, [], 0),
  (76, .aload_n 0, 1, [], 0),
  (77, .getfield 98, 3, [21, 14, 3, 37, 2], 0),
  (80, .bipush 51, 2, [], 0),
  (82, .iconst 0, 1, [], 0),
  (83, .iastore, 1, [], 0),
  (84, .aload_n 0, 1, [], 0),
  (85, .getfield 98, 3, [21, 14, 3, 37, 2], 0),
  (88, .bipush 50, 2, [], 0),
  (90, .iconst 1, 1, [], 0),
  (91, .iastore, 1, [], 0),
  (92, .return_, 1, [], 0),
  (93, .aload_n 0, 1, [], 0),
  (94, .iload_n 2, 1, [], 0),
  (95, .invokevirtual 277, 3, [0, 212, 2, 8, 21], 0),
  (98, .return_, 1, [], 0),
  (99, .aload_n 0, 1, [], 0),
  (100, .getfield 98, 3, [21, 14, 3, 37, 2], 0),
  (103, .bipush 53, 2, [], 0),
  (105, .dup2, 1, [], 0),
  (106, .iaload, 1, [], 0),
  (107, .iconst 1, 1, [], 0),
  (108, .iload_n 2, 1, [], 0),
  (109, .ishl, 1, [], 0),
  (110, .ixor, 1, [], 0),
  (111, .iastore, 1, [], 0),
  (112, .return_, 1, [], 0)]
/-- 214: HiccupTownModel.act(IIZ)I -/
def T_X12_act : List mm_E := [(0, .iload_n 3, 1, [], 0),
  (1, .ifCond .ne 5, 3, [], 0),
  (4, .iconst (-1), 1, [], 0),
  (5, .ireturn, 1, [], 0),
  (6, .aload_n 0, 1, [], 0),
  (7, .iload_n 1, 1, [], 0),
  (8, .iload_n 2, 1, [], 0),
  (9, .invokevirtual 280, 3, [0, 211, 3, 0, 21], 0),
  (12, .istore 4, 2, [], 0),
  (14, .iload 4, 2, [], 0),
  (16, .ifCond .eq 6, 3, [], 0),
  (19, .iload 4, 2, [], 0),
  (21, .ireturn, 1, [], 0),
  (22, .aload_n 0, 1, [], 0),
  (23, .invokevirtual 283, 3, [0, 209, 1, 8, 21], 0),
  (26, .aload_n 0, 1, [], 0),
  (27, .iload_n 1, 1, [], 0),
  (28, .iload_n 2, 1, [], 0),
  (29, .invokevirtual 286, 3, [0, 213, 3, 8, 21], 0),
  (32, .iconst 0, 1, [], 0),
  (33, .ireturn, 1, [], 0)]
/-- 215: HiccupTownModel.fright()I -/
def T_X12_fright : List mm_E := [(0, .aload_n 0, 1, [], 0),
  (1, .iconst 0, 1, [], 0),
  (2, .putfield 1, 3, [21, 0, 0], 0),
  (5, .aload_n 0, 1, [], 0),
  (6, .iconst 0, 1, [], 0),
  (7, .iconst 0, 1, [], 0),
  (8, .iconst 1, 1, [], 0),
  (9, .invokevirtual 290, 3, [0, 214, 4, 0, 21], 0),
  (12, .ireturn, 1, [], 0)]
/-- 216: HiccupTownModel.cure()I -/
def T_X12_cure : List mm_E := [(0, .aload_n 0, 1, [], 0),
  (1, .iconst 0, 1, [], 0),
  (2, .putfield 1, 3, [21, 0, 0], 0),
  (5, .aload_n 0, 1, [], 0),
  (6, .iconst 1, 1, [], 0),
  (7, .iconst 0, 1, [], 0),
  (8, .iconst 1, 1, [], 0),
  (9, .invokevirtual 290, 3, [0, 214, 4, 0, 21], 0),
  (12, .ireturn, 1, [], 0)]
/-- 217: HiccupTownModel.fly()I -/
def T_X12_fly : List mm_E := [(0, .aload_n 0, 1, [], 0),
  (1, .iconst 0, 1, [], 0),
  (2, .putfield 1, 3, [21, 0, 0], 0),
  (5, .aload_n 0, 1, [], 0),
  (6, .iconst 2, 1, [], 0),
  (7, .iconst 0, 1, [], 0),
  (8, .iconst 1, 1, [], 0),
  (9, .invokevirtual 290, 3, [0, 214, 4, 0, 21], 0),
  (12, .ireturn, 1, [], 0)]
/-- 218: HiccupTownModel.relieve(I)I -/
def T_X12_relieve : List mm_E := [(0, .aload_n 0, 1, [], 0),
  (1, .iconst 0, 1, [], 0),
  (2, .putfield 1, 3, [21, 0, 0], 0),
  (5, .aload_n 0, 1, [], 0),
  (6, .iconst 3, 1, [], 0),
  (7, .iload_n 1, 1, [], 0),
  (8, .aload_n 0, 1, [], 0),
  (9, .iload_n 1, 1, [], 0),
  (10, .invokevirtual 267, 3, [0, 197, 2, 0, 21], 0),
  (13, .invokevirtual 290, 3, [0, 214, 4, 0, 21], 0),
  (16, .ireturn, 1, [], 0)]
/-- 219: HiccupTownModel.leave(I)I -/
def T_X12_leave : List mm_E := [(0, .aload_n 0, 1, [], 0),
  (1, .iconst 0, 1, [], 0),
  (2, .putfield 1, 3, [21, 0, 0], 0),
  (5, .aload_n 0, 1, [], 0),
  (6, .iconst 4, 1, [], 0),
  (7, .iload_n 1, 1, [], 0),
  (8, .aload_n 0, 1, [], 0),
  (9, .iload_n 1, 1, [], 0),
  (10, .invokevirtual 255, 3, [0, 198, 2, 0, 21], 0),
  (13, .invokevirtual 290, 3, [0, 214, 4, 0, 21], 0),
  (16, .ireturn, 1, [], 0)]
/-- 220: HiccupTownModel.join(I)I -/
def T_X12_join : List mm_E := [(0, .aload_n 0, 1, [], 0),
  (1, .iconst 0, 1, [], 0),
  (2, .putfield 1, 3, [21, 0, 0], 0),
  (5, .aload_n 0, 1, [], 0),
  (6, .iconst 5, 1, [], 0),
  (7, .iload_n 1, 1, [], 0),
  (8, .aload_n 0, 1, [], 0),
  (9, .iload_n 1, 1, [], 0),
  (10, .invokevirtual 255, 3, [0, 198, 2, 0, 21], 0),
  (13, .invokevirtual 290, 3, [0, 214, 4, 0, 21], 0),
  (16, .ireturn, 1, [], 0)]
/-- 221: HiccupTownModel.undo()I -/
def T_X12_undo : List mm_E := [(0, .aload_n 0, 1, [], 0),
  (1, .iconst 0, 1, [], 0),
  (2, .putfield 1, 3, [21, 0, 0], 0),
  (5, .aload_n 0, 1, [], 0),
  (6, .getfield 243, 3, [21, 24, 0], 0),
  (9, .ifCond .ne 5, 3, [], 0),
  (12, .iconst (-1), 1, [], 0),
  (13, .ireturn, 1, [], 0),
  (14, .aload_n 0, 1, [], 0),
  (15, .dup, 1, [], 0),
  (16, .getfield 243, 3, [21, 24, 0], 0),
  (19, .iconst 1, 1, [], 0),
  (20, .isub, 1, [], 0),
  (21, .putfield 243, 3, [21, 24, 0], 0),
  (24, .iconst 0, 1, [], 0),
  (25, .istore_n 1, 1, [], 0),
  (26, .iload_n 1, 1, [], 0),
  (27, .bipush 26, 2, [], 0),
  (29, .if_icmp .ge 32, 3, [], 0),
  (32, .aload_n 0, 1, [], 0),
  (33, .getfield 98, 3, [21, 14, 3, 37, 2], 0),
  (36, .bipush 48, 2, [], 0),
  (38, .iload_n 1, 1, [], 0),
  (39, .iadd, 1, [], 0),
  (40, .aload_n 0, 1, [], 0),
  (41, .getfield 107, 3, [21, 17, 3, 40, 5], 0),
  (44, .bipush 26, 2, [], 0),
  (46, .aload_n 0, 1, [], 0),
  (47, .getfield 243, 3, [21, 24, 0], 0),
  (50, .imul, 1, [], 0),
  (51, .iload_n 1, 1, [], 0),
  (52, .iadd, 1, [], 0),
  (53, .iaload, 1, [], 0),
  (54, .iastore, 1, [], 0),
  (55, .iinc 1 1, 3, [], 0),
  (58, .goto (-32), 3, [], 0),
  (61, .aload_n 0, 1, [], 0),
  (62, .getfield 243, 3, [21, 24, 0], 0),
  (65, .ireturn, 1, [], 0)]
/-- 222: HiccupTownModel.beat()V -/
def T_X12_beat : List mm_E := [(0, .aload_n 0, 1, [], 0),
  (1, .invokevirtual 252, 3, [0, 203, 1, 0, 21], 0),
  (4, .istore_n 1, 1, [], 0),
  (5, .iconst 0, 1, [], 0),
  (6, .istore_n 2, 1, [], 0),
  (7, .iconst 0, 1, [], 0),
  (8, .istore_n 3, 1, [], 0),
  (9, .iload_n 3, 1, [], 0),
  (10, .aload_n 0, 1, [], 0),
  (11, .getfield 98, 3, [21, 14, 3, 37, 2], 0),
  (14, .iconst 2, 1, [], 0),
  (15, .iaload, 1, [], 0),
  (16, .if_icmp .ge 90, 3, [], 0),
  (19, .aload_n 0, 1, [], 0),
  (20, .iload_n 3, 1, [], 0),
  (21, .invokevirtual 249, 3, [0, 200, 2, 0, 21], 0),
  (24, .ifCond .eq 6, 3, [], 0),
  (27, .goto 73, 3, [], 0),
  (30, .aload_n 0, 1, [], 0),
  (31, .getfield 98, 3, [21, 14, 3, 37, 2], 0),
  (34, .bipush 54, 2, [], 0),
  (36, .iload_n 3, 1, [], 0),
  (37, .iadd, 1, [], 0),
  (38, .aload_n 0, 1, [], 0),
  (39, .getfield 98, 3, [21, 14, 3, 37, 2], 0),
  (42, .bipush 54, 2, [], 0),
  (44, .iload_n 3, 1, [], 0),
  (45, .iadd, 1, [], 0),
  (46, .iaload, 1, [], 0),
  (47, .aload_n 0, 1, [], 0),
  (48, .getfield 98, 3, [21, 14, 3, 37, 2], 0),
  (51, .bipush 17, 2, [], 0),
  (53, .iload_n 3, 1, [], 0),
  (54, .iadd, 1, [], 0),
  (55, .iaload, 1, [], 0),
  (56, .iadd, 1, [], 0),
  (57, .aload_n 0, 1, [], 0),
  (58, .getfield 98, 3, [21, 14, 3, 37, 2], 0),
  (61, .iconst 0, 1, [], 0),
  (62, .iaload, 1, [], 0),
  (63, .irem, 1, [], 0),
  (64, .iastore, 1, [], 0),
  (65, .aload_n 0, 1, [], 0),
  (66, .getfield 98, 3, [21, 14, 3, 37, 2], 0),
  (69, .bipush 61, 2, [], 0),
  (71, .iload_n 3, 1, [], 0),
  (72, .iadd, 1, [], 0),
  (73, .dup2, 1, [], 0),
  (74, .iaload, 1, [], 0),
  (75, .aload_n 0, 1, [], 0),
  (76, .getfield 98, 3, [21, 14, 3, 37, 2], 0),
  (79, .bipush 17, 2, [], 0),
  (81, .iload_n 3, 1, [], 0),
  (82, .iadd, 1, [], 0),
  (83, .iaload, 1, [], 0),
  (84, .iadd, 1, [], 0),
  (85, .iastore, 1, [], 0),
  (86, .iload_n 2, 1, [], 0),
  (87, .iconst 1, 1, [], 0),
  (88, .aload_n 0, 1, [], 0),
  (89, .getfield 98, 3, [21, 14, 3, 37, 2], 0),
  (92, .bipush 54, 2, [], 0),
  (94, .iload_n 3, 1, [], 0),
  (95, .iadd, 1, [], 0),
  (96, .iaload, 1, [], 0),
  (97, .ishl, 1, [], 0),
  (98, .ior, 1, [], 0),
  (99, .istore_n 2, 1, [], 0),
  (100, .iinc 3 1, 3, [], 0),
  (103, .goto (-94), 3, [], 0),
  (106, .iconst 0, 1, [], 0),
  (107, .istore_n 3, 1, [], 0),
  (108, .iload_n 3, 1, [], 0),
  (109, .aload_n 0, 1, [], 0),
  (110, .getfield 98, 3, [21, 14, 3, 37, 2], 0),
  (113, .iconst 3, 1, [], 0),
  (114, .iaload, 1, [], 0),
  (115, .if_icmp .ge 46, 3, [], 0),
  (118, .iload_n 1, 1, [], 0),
  (119, .iload_n 3, 1, [], 0),
  (120, .invokestatic 213, 3, [0, 161, 2, 0], 0),
  (123, .ifCond .eq 32, 3, [], 0),
  (126, .iload_n 2, 1, [], 0),
  (127, .aload_n 0, 1, [], 0),
  (128, .getfield 98, 3, [21, 14, 3, 37, 2], 0),
  (131, .bipush 25, 2, [], 0),
  (133, .iload_n 3, 1, [], 0),
  (134, .iadd, 1, [], 0),
  (135, .iaload, 1, [], 0),
  (136, .invokestatic 213, 3, [0, 161, 2, 0], 0),
  (139, .ifCond .eq 16, 3, [], 0),
  (142, .aload_n 0, 1, [], 0),
  (143, .getfield 98, 3, [21, 14, 3, 37, 2], 0),
  (146, .bipush 68, 2, [], 0),
  (148, .iload_n 3, 1, [], 0),
  (149, .iadd, 1, [], 0),
  (150, .dup2, 1, [], 0),
  (151, .iaload, 1, [], 0),
  (152, .iconst 1, 1, [], 0),
  (153, .isub, 1, [], 0),
  (154, .iastore, 1, [], 0),
  (155, .iinc 3 1, 3, [], 0),
  (158, .goto (-50), 3, [], 0),
  (161, .aload_n 0, 1, [], 0),
  (162, .getfield 98, 3, [21, 14, 3, 37, 2], 0),
  (165, .bipush 50, 2, [], 0),
  (167, .aload_n 0, 1, [], 0),
  (168, .getfield 98, 3, [21, 14, 3, 37, 2], 0),
  (171, .iconst 5, 1, [], 0),
  (172, .aload_n 0, 1, [], 0),
  (173, .getfield 98, 3, [21, 14, 3, 37, 2], 0),
  (176, .bipush 49, 2, [], 0),
  (178, .iaload, 1, [], 0),
  (179, .iadd, 1, [], 0),
  (180, .iaload, 1, [], 0),
  (181, .iastore, 1, [], 0),
  (182, .aload_n 0, 1, [], 0),
  (183, .getfield 98, 3, [21, 14, 3, 37, 2], 0),
  (186, .bipush 52, 2, [], 0),
  (188, .dup2, 1, [], 0),
  (189, .iaload, 1, [], 0),
  (190, .iconst 1, 1, [], 0),
  (191, .iadd, 1, [], 0),
  (192, .iastore, 1, [], 0),
  (193, .return_, 1, [], 0)]
/-- 223: HiccupTownModel.oneSecond()V -/
def T_X12_oneSecond : List mm_E := [(0, .aload_n 0, 1, [], 0),
  (1, .invokevirtual 294, 3, [0, 201, 1, 0, 21], 0),
  (4, .ifCond .ne 14, 3, [], 0),
  (7, .aload_n 0, 1, [], 0),
  (8, .getfield 98, 3, [21, 14, 3, 37, 2], 0),
  (11, .bipush 50, 2, [], 0),
  (13, .dup2, 1, [], 0),
  (14, .iaload, 1, [], 0),
  (15, .iconst 1, 1, [], 0),
  (16, .isub, 1, [], 0),
  (17, .iastore, 1, [], 0),
  (18, .aload_n 0, 1, [], 0),
  (19, .getfield 98, 3, [21, 14, 3, 37, 2], 0),
  (22, .bipush 50, 2, [], 0),
  (24, .iaload, 1, [], 0),
  (25, .ifCond .ne 7, 3, [], 0),
  (28, .aload_n 0, 1, [], 0),
  (29, .invokevirtual 297, 3, [0, 222, 1, 8, 21], 0),
  (32, .aload_n 0, 1, [], 0),
  (33, .getfield 98, 3, [21, 14, 3, 37, 2], 0),
  (36, .bipush 48, 2, [], 0),
  (38, .dup2, 1, [], 0),
  (39, .iaload, 1, [], 0),
  (40, .iconst 1, 1, [], 0),
  (41, .iadd, 1, [], 0),
  (42, .iastore, 1, [], 0),
  (43, .return_, 1, [], 0)]
/-- 224: HiccupTownModel.passSeconds(I)I -/
def T_X12_passSeconds : List mm_E := [(0, .iload_n 1, 1, [], 0),
  (1, .sipush 600, 3, [], 0),
  (4, .aload_n 0, 1, [], 0),
  (5, .getfield 98, 3, [21, 14, 3, 37, 2], 0),
  (8, .bipush 48, 2, [], 0),
  (10, .iaload, 1, [], 0),
  (11, .isub, 1, [], 0),
  (12, .invokestatic 273, 3, [0, 162, 2, 0], 0),
  (15, .istore_n 2, 1, [], 0),
  (16, .iconst 0, 1, [], 0),
  (17, .istore_n 3, 1, [], 0),
  (18, .iload_n 3, 1, [], 0),
  (19, .iload_n 2, 1, [], 0),
  (20, .if_icmp .ge 13, 3, [], 0),
  (23, .aload_n 0, 1, [], 0),
  (24, .invokevirtual 300, 3, [0, 223, 1, 8, 21], 0),
  (27, .iinc 3 1, 3, [], 0),
  (30, .goto (-12), 3, [], 0),
  (33, .iload_n 2, 1, [], 0),
  (34, .ireturn, 1, [], 0)]
/-- 225: HiccupTownModel.seconds(I)I -/
def T_X12_seconds : List mm_E := [(0, .aload_n 0, 1, [], 0),
  (1, .iconst 0, 1, [], 0),
  (2, .putfield 1, 3, [21, 0, 0], 0),
  (5, .iload_n 1, 1, [], 0),
  (6, .iconst 1, 1, [], 0),
  (7, .bipush 60, 2, [], 0),
  (9, .invokestatic 75, 3, [0, 160, 3, 0], 0),
  (12, .ifCond .ne 5, 3, [], 0),
  (15, .iconst (-1), 1, [], 0),
  (16, .ireturn, 1, [], 0),
  (17, .aload_n 0, 1, [], 0),
  (18, .getfield 98, 3, [21, 14, 3, 37, 2], 0),
  (21, .bipush 48, 2, [], 0),
  (23, .iaload, 1, [], 0),
  (24, .sipush 600, 3, [], 0),
  (27, .if_icmp .ne 5, 3, [], 0),
  (30, .iconst 0, 1, [], 0),
  (31, .ireturn, 1, [], 0),
  (32, .aload_n 0, 1, [], 0),
  (33, .invokevirtual 283, 3, [0, 209, 1, 8, 21], 0),
  (36, .aload_n 0, 1, [], 0),
  (37, .iload_n 1, 1, [], 0),
  (38, .invokevirtual 303, 3, [0, 224, 2, 0, 21], 0),
  (41, .ireturn, 1, [], 0)]
/-- 226: HiccupTownModel.placeBehind(II)I -/
def T_X12_placeBehind : List mm_E := [(0, .aload_n 0, 1, [], 0),
  (1, .iload_n 1, 1, [], 0),
  (2, .invokevirtual 249, 3, [0, 200, 2, 0, 21], 0),
  (5, .ifCond .eq 15, 3, [], 0),
  (8, .aload_n 0, 1, [], 0),
  (9, .getfield 98, 3, [21, 14, 3, 37, 2], 0),
  (12, .bipush 54, 2, [], 0),
  (14, .iload_n 1, 1, [], 0),
  (15, .iadd, 1, [], 0),
  (16, .iaload, 1, [], 0),
  (17, .goto 31, 3, [], 0),
  (20, .aload_n 0, 1, [], 0),
  (21, .getfield 98, 3, [21, 14, 3, 37, 2], 0),
  (24, .bipush 54, 2, [], 0),
  (26, .iload_n 1, 1, [], 0),
  (27, .iadd, 1, [], 0),
  (28, .iaload, 1, [], 0),
  (29, .iload_n 2, 1, [], 0),
  (30, .aload_n 0, 1, [], 0),
  (31, .getfield 98, 3, [21, 14, 3, 37, 2], 0),
  (34, .bipush 17, 2, [], 0),
  (36, .iload_n 1, 1, [], 0),
  (37, .iadd, 1, [], 0),
  (38, .iaload, 1, [], 0),
  (39, .imul, 1, [], 0),
  (40, .iadd, 1, [], 0),
  (41, .aload_n 0, 1, [], 0),
  (42, .getfield 98, 3, [21, 14, 3, 37, 2], 0),
  (45, .iconst 0, 1, [], 0),
  (46, .iaload, 1, [], 0),
  (47, .irem, 1, [], 0),
  (48, .ireturn, 1, [], 0)]
/-- 227: HiccupTownModel.at(II)I -/
def T_X12_at : List mm_E := [(0, .aload_n 0, 1, [], 0),
  (1, .iconst 0, 1, [], 0),
  (2, .putfield 1, 3, [21, 0, 0], 0),
  (5, .aload_n 0, 1, [], 0),
  (6, .iload_n 1, 1, [], 0),
  (7, .invokevirtual 255, 3, [0, 198, 2, 0, 21], 0),
  (10, .ifCond .eq 22, 3, [], 0),
  (13, .iload_n 2, 1, [], 0),
  (14, .iconst 0, 1, [], 0),
  (15, .bipush 99, 2, [], 0),
  (17, .invokestatic 75, 3, [0, 160, 3, 0], 0),
  (20, .ifCond .eq 12, 3, [], 0),
  (23, .aload_n 0, 1, [], 0),
  (24, .iload_n 1, 1, [], 0),
  (25, .iload_n 2, 1, [], 0),
  (26, .invokevirtual 306, 3, [0, 226, 3, 0, 21], 0),
  (29, .goto 4, 3, [], 0),
  (32, .iconst (-1), 1, [], 0),
  (33, .ireturn, 1, [], 0)]
/-- 228: HiccupTownModel.meet(II)I -/
def T_X12_meet : List mm_E := [(0, .aload_n 0, 1, [], 0),
  (1, .iconst 0, 1, [], 0),
  (2, .putfield 1, 3, [21, 0, 0], 0),
  (5, .aload_n 0, 1, [], 0),
  (6, .iload_n 1, 1, [], 0),
  (7, .invokevirtual 255, 3, [0, 198, 2, 0, 21], 0),
  (10, .ifCond .eq 11, 3, [], 0),
  (13, .aload_n 0, 1, [], 0),
  (14, .iload_n 2, 1, [], 0),
  (15, .invokevirtual 255, 3, [0, 198, 2, 0, 21], 0),
  (18, .ifCond .ne 5, 3, [], 0),
  (21, .iconst (-1), 1, [], 0),
  (22, .ireturn, 1, [], 0),
  (23, .iconst 0, 1, [], 0),
  (24, .istore_n 3, 1, [], 0),
  (25, .iload_n 3, 1, [], 0),
  (26, .aload_n 0, 1, [], 0),
  (27, .getfield 98, 3, [21, 14, 3, 37, 2], 0),
  (30, .iconst 0, 1, [], 0),
  (31, .iaload, 1, [], 0),
  (32, .if_icmp .ge 26, 3, [], 0),
  (35, .aload_n 0, 1, [], 0),
  (36, .iload_n 1, 1, [], 0),
  (37, .iload_n 3, 1, [], 0),
  (38, .invokevirtual 306, 3, [0, 226, 3, 0, 21], 0),
  (41, .aload_n 0, 1, [], 0),
  (42, .iload_n 2, 1, [], 0),
  (43, .iload_n 3, 1, [], 0),
  (44, .invokevirtual 306, 3, [0, 226, 3, 0, 21], 0),
  (47, .if_icmp .ne 5, 3, [], 0),
  (50, .iload_n 3, 1, [], 0),
  (51, .ireturn, 1, [], 0),
  (52, .iinc 3 1, 3, [], 0),
  (55, .goto (-30), 3, [], 0),
  (58, .iconst (-1), 1, [], 0),
  (59, .ireturn, 1, [], 0)]
/-- 229: HiccupTownModel.layAside()V -/
def T_X12_layAside : List mm_E := [(0, .iconst 0, 1, [], 0),
  (1, .istore_n 1, 1, [], 0),
  (2, .iload_n 1, 1, [], 0),
  (3, .bipush 26, 2, [], 0),
  (5, .if_icmp .ge 24, 3, [], 0),
  (8, .aload_n 0, 1, [], 0),
  (9, .getfield 110, 3, [21, 18, 3, 41, 6], 0),
  (12, .iload_n 1, 1, [], 0),
  (13, .aload_n 0, 1, [], 0),
  (14, .getfield 98, 3, [21, 14, 3, 37, 2], 0),
  (17, .bipush 48, 2, [], 0),
  (19, .iload_n 1, 1, [], 0),
  (20, .iadd, 1, [], 0),
  (21, .iaload, 1, [], 0),
  (22, .iastore, 1, [], 0),
  (23, .iinc 1 1, 3, [], 0),
  (26, .goto (-24), 3, [], 0),
  (29, .return_, 1, [], 0)]
/-- 230: HiccupTownModel.takeBack()V -/
def T_X12_takeBack : List mm_E := [(0, .iconst 0, 1, [], 0),
  (1, .istore_n 1, 1, [], 0),
  (2, .iload_n 1, 1, [], 0),
  (3, .bipush 26, 2, [], 0),
  (5, .if_icmp .ge 24, 3, [], 0),
  (8, .aload_n 0, 1, [], 0),
  (9, .getfield 98, 3, [21, 14, 3, 37, 2], 0),
  (12, .bipush 48, 2, [], 0),
  (14, .iload_n 1, 1, [], 0),
  (15, .iadd, 1, [], 0),
  (16, .aload_n 0, 1, [], 0),
  (17, .getfield 110, 3, [21, 18, 3, 41, 6], 0),
  (20, .iload_n 1, 1, [], 0),
  (21, .iaload, 1, [], 0),
  (22, .iastore, 1, [], 0),
  (23, .iinc 1 1, 3, [], 0),
  (26, .goto (-24), 3, [], 0),
  (29, .return_, 1, [], 0)]
/-- 231: HiccupTownModel.doneBy(II)I -/
def T_X12_doneBy : List mm_E := [(0, .aload_n 0, 1, [], 0),
  (1, .invokevirtual 309, 3, [0, 229, 1, 8, 21], 0),
  (4, .iload_n 2, 1, [], 0),
  (5, .aload_n 0, 1, [], 0),
  (6, .getfield 98, 3, [21, 14, 3, 37, 2], 0),
  (9, .bipush 49, 2, [], 0),
  (11, .iaload, 1, [], 0),
  (12, .if_icmp .eq 8, 3, [], 0),
  (15, .aload_n 0, 1, [], 0),
  (16, .iload_n 2, 1, [], 0),
  (17, .invokevirtual 277, 3, [0, 212, 2, 8, 21], 0),
  (20, .aload_n 0, 1, [], 0),
  (21, .getfield 98, 3, [21, 14, 3, 37, 2], 0),
  (24, .bipush 68, 2, [], 0),
  (26, .iload_n 1, 1, [], 0),
  (27, .iadd, 1, [], 0),
  (28, .iaload, 1, [], 0),
  (29, .ifCond .le 30, 3, [], 0),
  (32, .aload_n 0, 1, [], 0),
  (33, .getfield 98, 3, [21, 14, 3, 37, 2], 0),
  (36, .bipush 48, 2, [], 0),
  (38, .iaload, 1, [], 0),
  (39, .sipush 600, 3, [], 0),
  (42, .if_icmp .ge 17, 3, [], 0),
  (45, .aload_n 0, 1, [], 0),
  (46, .invokevirtual 294, 3, [0, 201, 1, 0, 21], 0),
  (49, .ifCond .ne 10, 3, [], 0),
  (52, .aload_n 0, 1, [], 0),
  (53, .invokevirtual 300, 3, [0, 223, 1, 8, 21], 0),
  (56, .goto (-36), 3, [], 0),
  (59, .aload_n 0, 1, [], 0),
  (60, .getfield 98, 3, [21, 14, 3, 37, 2], 0),
  (63, .bipush 68, 2, [], 0),
  (65, .iload_n 1, 1, [], 0),
  (66, .iadd, 1, [], 0),
  (67, .iaload, 1, [], 0),
  (68, .ifCond .ne 13, 3, [], 0),
  (71, .aload_n 0, 1, [], 0),
  (72, .getfield 98, 3, [21, 14, 3, 37, 2], 0),
  (75, .bipush 48, 2, [], 0),
  (77, .iaload, 1, [], 0),
  (78, .goto 6, 3, [], 0),
  (81, .ldc_w 312, 3, [0], 100000),
  (84, .istore_n 3, 1, [], 0),
  (85, .aload_n 0, 1, [], 0),
  (86, .invokevirtual 313, 3, [0, 230, 1, 8, 21], 0),
  (89, .iload_n 3, 1, [], 0),
  (90, .ldc_w 312, 3, [0], 100000),
  (93, .if_icmp .ne 9, 3, [], 0),
  (96, .ldc_w 312, 3, [0], 100000),
  (99, .goto 12, 3, [], 0),
  (102, .iload_n 3, 1, [], 0),
  (103, .aload_n 0, 1, [], 0),
  (104, .getfield 98, 3, [21, 14, 3, 37, 2], 0),
  (107, .bipush 48, 2, [], 0),
  (109, .iaload, 1, [], 0),
  (110, .isub, 1, [], 0),
  (111, .ireturn, 1, [], 0)]
/-- 232: HiccupTownModel.when(I)I -/
def T_X12_when : List mm_E := [(0, .aload_n 0, 1, [], 0),
  (1, .iconst 0, 1, [], 0),
  (2, .putfield 1, 3, [21, 0, 0], 0),
  (5, .aload_n 0, 1, [], 0),
  (6, .iload_n 1, 1, [], 0),
  (7, .invokevirtual 264, 3, [0, 199, 2, 0, 21], 0),
  (10, .ifCond .ne 5, 3, [], 0),
  (13, .iconst (-1), 1, [], 0),
  (14, .ireturn, 1, [], 0),
  (15, .aload_n 0, 1, [], 0),
  (16, .iload_n 1, 1, [], 0),
  (17, .aload_n 0, 1, [], 0),
  (18, .getfield 98, 3, [21, 14, 3, 37, 2], 0),
  (21, .bipush 49, 2, [], 0),
  (23, .iaload, 1, [], 0),
  (24, .invokevirtual 316, 3, [0, 231, 3, 0, 21], 0),
  (27, .istore_n 2, 1, [], 0),
  (28, .iload_n 2, 1, [], 0),
  (29, .ldc_w 312, 3, [0], 100000),
  (32, .if_icmp .ne 7, 3, [], 0),
  (35, .iconst (-1), 1, [], 0),
  (36, .goto 4, 3, [], 0),
  (39, .iload_n 2, 1, [], 0),
  (40, .ireturn, 1, [], 0)]
/-- 233: HiccupTownModel.swift(I)I -/
def T_X12_swift : List mm_E := [(0, .aload_n 0, 1, [], 0),
  (1, .iconst 0, 1, [], 0),
  (2, .putfield 1, 3, [21, 0, 0], 0),
  (5, .aload_n 0, 1, [], 0),
  (6, .iload_n 1, 1, [], 0),
  (7, .invokevirtual 264, 3, [0, 199, 2, 0, 21], 0),
  (10, .ifCond .eq 15, 3, [], 0),
  (13, .aload_n 0, 1, [], 0),
  (14, .getfield 98, 3, [21, 14, 3, 37, 2], 0),
  (17, .bipush 68, 2, [], 0),
  (19, .iload_n 1, 1, [], 0),
  (20, .iadd, 1, [], 0),
  (21, .iaload, 1, [], 0),
  (22, .ifCond .ne 5, 3, [], 0),
  (25, .iconst (-1), 1, [], 0),
  (26, .ireturn, 1, [], 0),
  (27, .iconst (-1), 1, [], 0),
  (28, .istore_n 2, 1, [], 0),
  (29, .ldc_w 312, 3, [0], 100000),
  (32, .istore_n 3, 1, [], 0),
  (33, .iconst 0, 1, [], 0),
  (34, .istore 4, 2, [], 0),
  (36, .iload 4, 2, [], 0),
  (38, .aload_n 0, 1, [], 0),
  (39, .getfield 98, 3, [21, 14, 3, 37, 2], 0),
  (42, .iconst 1, 1, [], 0),
  (43, .iaload, 1, [], 0),
  (44, .if_icmp .gt 33, 3, [], 0),
  (47, .aload_n 0, 1, [], 0),
  (48, .iload_n 1, 1, [], 0),
  (49, .iload 4, 2, [], 0),
  (51, .invokevirtual 316, 3, [0, 231, 3, 0, 21], 0),
  (54, .istore 5, 2, [], 0),
  (56, .iload 5, 2, [], 0),
  (58, .iload_n 3, 1, [], 0),
  (59, .if_icmp .lt 6, 3, [], 0),
  (62, .goto 9, 3, [], 0),
  (65, .iload 5, 2, [], 0),
  (67, .istore_n 3, 1, [], 0),
  (68, .iload 4, 2, [], 0),
  (70, .istore_n 2, 1, [], 0),
  (71, .iinc 4 1, 3, [], 0),
  (74, .goto (-38), 3, [], 0),
  (77, .iload_n 2, 1, [], 0),
  (78, .ireturn, 1, [], 0)]
/-- 234: HiccupTownModel.joins(I)I -/
def T_X12_joins : List mm_E := [(0, .aload_n 0, 1, [], 0),
  (1, .iconst 0, 1, [], 0),
  (2, .putfield 1, 3, [21, 0, 0], 0),
  (5, .aload_n 0, 1, [], 0),
  (6, .iload_n 1, 1, [], 0),
  (7, .invokevirtual 255, 3, [0, 198, 2, 0, 21], 0),
  (10, .ifCond .eq 11, 3, [], 0),
  (13, .aload_n 0, 1, [], 0),
  (14, .iload_n 1, 1, [], 0),
  (15, .invokevirtual 249, 3, [0, 200, 2, 0, 21], 0),
  (18, .ifCond .ne 5, 3, [], 0),
  (21, .iconst (-1), 1, [], 0),
  (22, .ireturn, 1, [], 0),
  (23, .aload_n 0, 1, [], 0),
  (24, .invokevirtual 309, 3, [0, 229, 1, 8, 21], 0),
  (27, .aload_n 0, 1, [], 0),
  (28, .iload_n 1, 1, [], 0),
  (29, .invokevirtual 270, 3, [0, 210, 2, 0, 21], 0),
  (32, .ifCond .eq 23, 3, [], 0),
  (35, .aload_n 0, 1, [], 0),
  (36, .getfield 98, 3, [21, 14, 3, 37, 2], 0),
  (39, .bipush 48, 2, [], 0),
  (41, .iaload, 1, [], 0),
  (42, .sipush 600, 3, [], 0),
  (45, .if_icmp .ge 10, 3, [], 0),
  (48, .aload_n 0, 1, [], 0),
  (49, .invokevirtual 300, 3, [0, 223, 1, 8, 21], 0),
  (52, .goto (-25), 3, [], 0),
  (55, .aload_n 0, 1, [], 0),
  (56, .iload_n 1, 1, [], 0),
  (57, .invokevirtual 270, 3, [0, 210, 2, 0, 21], 0),
  (60, .ifCond .eq 7, 3, [], 0),
  (63, .iconst (-1), 1, [], 0),
  (64, .goto 10, 3, [], 0),
  (67, .aload_n 0, 1, [], 0),
  (68, .getfield 98, 3, [21, 14, 3, 37, 2], 0),
  (71, .bipush 48, 2, [], 0),
  (73, .iaload, 1, [], 0),
  (74, .istore_n 2, 1, [], 0),
  (75, .aload_n 0, 1, [], 0),
  (76, .invokevirtual 313, 3, [0, 230, 1, 8, 21], 0),
  (79, .iload_n 2, 1, [], 0),
  (80, .iconst (-1), 1, [], 0),
  (81, .if_icmp .ne 7, 3, [], 0),
  (84, .iconst (-1), 1, [], 0),
  (85, .goto 12, 3, [], 0),
  (88, .iload_n 2, 1, [], 0),
  (89, .aload_n 0, 1, [], 0),
  (90, .getfield 98, 3, [21, 14, 3, 37, 2], 0),
  (93, .bipush 48, 2, [], 0),
  (95, .iaload, 1, [], 0),
  (96, .isub, 1, [], 0),
  (97, .ireturn, 1, [], 0)]
/-- 235: HiccupTownModel.once(II)I -/
def T_X12_once : List mm_E := [(0, .aload_n 0, 1, [], 0),
  (1, .iconst 0, 1, [], 0),
  (2, .putfield 1, 3, [21, 0, 0], 0),
  (5, .aload_n 0, 1, [], 0),
  (6, .iload_n 1, 1, [], 0),
  (7, .invokevirtual 267, 3, [0, 197, 2, 0, 21], 0),
  (10, .ifCond .eq 51, 3, [], 0),
  (13, .aload_n 0, 1, [], 0),
  (14, .iload_n 2, 1, [], 0),
  (15, .invokevirtual 267, 3, [0, 197, 2, 0, 21], 0),
  (18, .ifCond .eq 43, 3, [], 0),
  (21, .aload_n 0, 1, [], 0),
  (22, .getfield 98, 3, [21, 14, 3, 37, 2], 0),
  (25, .iconst 5, 1, [], 0),
  (26, .iload_n 1, 1, [], 0),
  (27, .iadd, 1, [], 0),
  (28, .iaload, 1, [], 0),
  (29, .aload_n 0, 1, [], 0),
  (30, .getfield 98, 3, [21, 14, 3, 37, 2], 0),
  (33, .iconst 5, 1, [], 0),
  (34, .iload_n 1, 1, [], 0),
  (35, .iadd, 1, [], 0),
  (36, .iaload, 1, [], 0),
  (37, .aload_n 0, 1, [], 0),
  (38, .getfield 98, 3, [21, 14, 3, 37, 2], 0),
  (41, .iconst 5, 1, [], 0),
  (42, .iload_n 2, 1, [], 0),
  (43, .iadd, 1, [], 0),
  (44, .iaload, 1, [], 0),
  (45, .invokestatic 319, 3, [0, 164, 2, 0], 0),
  (48, .idiv, 1, [], 0),
  (49, .aload_n 0, 1, [], 0),
  (50, .getfield 98, 3, [21, 14, 3, 37, 2], 0),
  (53, .iconst 5, 1, [], 0),
  (54, .iload_n 2, 1, [], 0),
  (55, .iadd, 1, [], 0),
  (56, .iaload, 1, [], 0),
  (57, .imul, 1, [], 0),
  (58, .goto 4, 3, [], 0),
  (61, .iconst (-1), 1, [], 0),
  (62, .ireturn, 1, [], 0)]
/-- 236: HiccupTownModel.hasStood(II)Z -/
def T_X12_hasStood : List mm_E := [(0, .iconst 0, 1, [], 0),
  (1, .istore_n 3, 1, [], 0),
  (2, .iload_n 3, 1, [], 0),
  (3, .iload_n 2, 1, [], 0),
  (4, .if_icmp .ge 38, 3, [], 0),
  (7, .iload_n 1, 1, [], 0),
  (8, .aload_n 0, 1, [], 0),
  (9, .getfield 98, 3, [21, 14, 3, 37, 2], 0),
  (12, .bipush 43, 2, [], 0),
  (14, .aload_n 0, 1, [], 0),
  (15, .getfield 7, 3, [21, 1, 3, 36, 1], 0),
  (18, .iload_n 3, 1, [], 0),
  (19, .iaload, 1, [], 0),
  (20, .iadd, 1, [], 0),
  (21, .iaload, 1, [], 0),
  (22, .irem, 1, [], 0),
  (23, .aload_n 0, 1, [], 0),
  (24, .getfield 7, 3, [21, 1, 3, 36, 1], 0),
  (27, .iload_n 3, 1, [], 0),
  (28, .iconst 1, 1, [], 0),
  (29, .iadd, 1, [], 0),
  (30, .iaload, 1, [], 0),
  (31, .if_icmp .eq 5, 3, [], 0),
  (34, .iconst 0, 1, [], 0),
  (35, .ireturn, 1, [5], 0),
  (36, .iinc 3 2, 3, [], 0),
  (39, .goto (-37), 3, [], 0),
  (42, .iconst 1, 1, [], 0),
  (43, .ireturn, 1, [5], 0)]
/-- 237: HiccupTownModel.leftBy(II)I -/
def T_X12_leftBy : List mm_E := [(0, .iconst 0, 1, [], 0),
  (1, .istore_n 3, 1, [], 0),
  (2, .iload_n 3, 1, [], 0),
  (3, .bipush 60, 2, [], 0),
  (5, .if_icmp .ge 16, 3, [], 0),
  (8, .aload_n 0, 1, [], 0),
  (9, .getfield 133, 3, [21, 27, 3, 46, 13], 0),
  (12, .iload_n 3, 1, [], 0),
  (13, .iconst 0, 1, [], 0),
  (14, .iastore, 1, [], 0),
  (15, .iinc 3 1, 3, [], 0),
  (18, .goto (-16), 3, [], 0),
  (21, .iconst 0, 1, [], 0),
  (22, .istore_n 3, 1, [], 0),
  (23, .iconst 0, 1, [], 0),
  (24, .istore 4, 2, [], 0),
  (26, .iload 4, 2, [], 0),
  (28, .iload_n 2, 1, [], 0),
  (29, .if_icmp .ge 58, 3, [], 0),
  (32, .aload_n 0, 1, [], 0),
  (33, .getfield 130, 3, [21, 26, 3, 45, 12], 0),
  (36, .iload 4, 2, [], 0),
  (38, .iaload, 1, [], 0),
  (39, .aload_n 0, 1, [], 0),
  (40, .getfield 98, 3, [21, 14, 3, 37, 2], 0),
  (43, .bipush 43, 2, [], 0),
  (45, .iload_n 1, 1, [], 0),
  (46, .iadd, 1, [], 0),
  (47, .iaload, 1, [], 0),
  (48, .irem, 1, [], 0),
  (49, .istore 5, 2, [], 0),
  (51, .aload_n 0, 1, [], 0),
  (52, .getfield 133, 3, [21, 27, 3, 46, 13], 0),
  (55, .iload 5, 2, [], 0),
  (57, .dup2, 1, [], 0),
  (58, .iaload, 1, [], 0),
  (59, .iconst 1, 1, [], 0),
  (60, .iadd, 1, [], 0),
  (61, .iastore, 1, [], 0),
  (62, .aload_n 0, 1, [], 0),
  (63, .getfield 133, 3, [21, 27, 3, 46, 13], 0),
  (66, .iload 5, 2, [], 0),
  (68, .iaload, 1, [], 0),
  (69, .iload_n 3, 1, [], 0),
  (70, .if_icmp .le 11, 3, [], 0),
  (73, .aload_n 0, 1, [], 0),
  (74, .getfield 133, 3, [21, 27, 3, 46, 13], 0),
  (77, .iload 5, 2, [], 0),
  (79, .iaload, 1, [], 0),
  (80, .istore_n 3, 1, [], 0),
  (81, .iinc 4 1, 3, [], 0),
  (84, .goto (-58), 3, [], 0),
  (87, .iload_n 3, 1, [], 0),
  (88, .ireturn, 1, [], 0)]
/-- 238: HiccupTownModel.stood()I -/
def T_X12_stood : List mm_E := [(0, .aload_n 0, 1, [], 0),
  (1, .iconst 0, 1, [], 0),
  (2, .putfield 1, 3, [21, 0, 0], 0),
  (5, .aload_n 0, 1, [], 0),
  (6, .invokevirtual 89, 3, [0, 159, 1, 0, 21], 0),
  (9, .istore_n 1, 1, [], 0),
  (10, .iload_n 1, 1, [], 0),
  (11, .iconst 2, 1, [], 0),
  (12, .irem, 1, [], 0),
  (13, .ifCond .ne 15, 3, [], 0),
  (16, .iload_n 1, 1, [], 0),
  (17, .iconst 2, 1, [], 0),
  (18, .idiv, 1, [], 0),
  (19, .iconst 1, 1, [], 0),
  (20, .bipush 8, 2, [], 0),
  (22, .invokestatic 75, 3, [0, 160, 3, 0], 0),
  (25, .ifCond .ne 5, 3, [], 0),
  (28, .iconst (-1), 1, [], 0),
  (29, .ireturn, 1, [], 0),
  (30, .iconst 0, 1, [], 0),
  (31, .istore_n 2, 1, [], 0),
  (32, .iload_n 2, 1, [], 0),
  (33, .iload_n 1, 1, [], 0),
  (34, .if_icmp .ge 32, 3, [], 0),
  (37, .aload_n 0, 1, [], 0),
  (38, .getfield 7, 3, [21, 1, 3, 36, 1], 0),
  (41, .iload_n 2, 1, [], 0),
  (42, .iaload, 1, [], 0),
  (43, .iconst 0, 1, [], 0),
  (44, .aload_n 0, 1, [], 0),
  (45, .getfield 98, 3, [21, 14, 3, 37, 2], 0),
  (48, .iconst 4, 1, [], 0),
  (49, .iaload, 1, [], 0),
  (50, .iconst 1, 1, [], 0),
  (51, .isub, 1, [], 0),
  (52, .invokestatic 75, 3, [0, 160, 3, 0], 0),
  (55, .ifCond .ne 5, 3, [], 0),
  (58, .iconst (-1), 1, [], 0),
  (59, .ireturn, 1, [], 0),
  (60, .iinc 2 2, 3, [], 0),
  (63, .goto (-31), 3, [], 0),
  (66, .iconst 0, 1, [], 0),
  (67, .istore_n 2, 1, [], 0),
  (68, .iconst 0, 1, [], 0),
  (69, .istore_n 3, 1, [], 0),
  (70, .iload_n 3, 1, [], 0),
  (71, .sipush 256, 3, [], 0),
  (74, .if_icmp .ge 31, 3, [], 0),
  (77, .aload_n 0, 1, [], 0),
  (78, .iload_n 3, 1, [], 0),
  (79, .iload_n 1, 1, [], 0),
  (80, .invokevirtual 322, 3, [0, 236, 3, 0, 21], 0),
  (83, .ifCond .ne 6, 3, [], 0),
  (86, .goto 13, 3, [], 0),
  (89, .aload_n 0, 1, [], 0),
  (90, .getfield 130, 3, [21, 26, 3, 45, 12], 0),
  (93, .iload_n 2, 1, [], 0),
  (94, .iload_n 3, 1, [], 0),
  (95, .iastore, 1, [], 0),
  (96, .iinc 2 1, 3, [], 0),
  (99, .iinc 3 1, 3, [], 0),
  (102, .goto (-32), 3, [], 0),
  (105, .iload_n 2, 1, [], 0),
  (106, .ifCond .ne 5, 3, [], 0),
  (109, .iconst 0, 1, [], 0),
  (110, .ireturn, 1, [], 0),
  (111, .aload_n 0, 1, [], 0),
  (112, .aload_n 0, 1, [], 0),
  (113, .getfield 130, 3, [21, 26, 3, 45, 12], 0),
  (116, .iconst 0, 1, [], 0),
  (117, .iaload, 1, [], 0),
  (118, .putfield 136, 3, [21, 28, 0], 0),
  (121, .aload_n 0, 1, [], 0),
  (122, .aload_n 0, 1, [], 0),
  (123, .getfield 130, 3, [21, 26, 3, 45, 12], 0),
  (126, .iload_n 2, 1, [], 0),
  (127, .iconst 1, 1, [], 0),
  (128, .isub, 1, [], 0),
  (129, .iaload, 1, [], 0),
  (130, .putfield 139, 3, [21, 29, 0], 0),
  (133, .aload_n 0, 1, [], 0),
  (134, .iconst 0, 1, [], 0),
  (135, .putfield 142, 3, [21, 30, 0], 0),
  (138, .iconst 1, 1, [], 0),
  (139, .istore_n 3, 1, [], 0),
  (140, .iload_n 3, 1, [], 0),
  (141, .aload_n 0, 1, [], 0),
  (142, .getfield 98, 3, [21, 14, 3, 37, 2], 0),
  (145, .iconst 4, 1, [], 0),
  (146, .iaload, 1, [], 0),
  (147, .if_icmp .ge 32, 3, [], 0),
  (150, .aload_n 0, 1, [], 0),
  (151, .iload_n 3, 1, [], 0),
  (152, .iload_n 2, 1, [], 0),
  (153, .invokevirtual 325, 3, [0, 237, 3, 0, 21], 0),
  (156, .aload_n 0, 1, [], 0),
  (157, .aload_n 0, 1, [], 0),
  (158, .getfield 142, 3, [21, 30, 0], 0),
  (161, .iload_n 2, 1, [], 0),
  (162, .invokevirtual 325, 3, [0, 237, 3, 0, 21], 0),
  (165, .if_icmp .ge 8, 3, [], 0),
  (168, .aload_n 0, 1, [], 0),
  (169, .iload_n 3, 1, [], 0),
  (170, .putfield 142, 3, [21, 30, 0], 0),
  (173, .iinc 3 1, 3, [], 0),
  (176, .goto (-36), 3, [], 0),
  (179, .iload_n 2, 1, [], 0),
  (180, .ireturn, 1, [], 0)]
/-- 239: HiccupTownModel.stoodLeast()I -/
def T_X12_stoodLeast : List mm_E := [(0, .aload_n 0, 1, [], 0),
  (1, .iconst 0, 1, [], 0),
  (2, .putfield 1, 3, [21, 0, 0], 0),
  (5, .aload_n 0, 1, [], 0),
  (6, .getfield 136, 3, [21, 28, 0], 0),
  (9, .ireturn, 1, [], 0)]
/-- 240: HiccupTownModel.stoodMost()I -/
def T_X12_stoodMost : List mm_E := [(0, .aload_n 0, 1, [], 0),
  (1, .iconst 0, 1, [], 0),
  (2, .putfield 1, 3, [21, 0, 0], 0),
  (5, .aload_n 0, 1, [], 0),
  (6, .getfield 139, 3, [21, 29, 0], 0),
  (9, .ireturn, 1, [], 0)]
/-- 241: HiccupTownModel.next()I -/
def T_X12_next : List mm_E := [(0, .aload_n 0, 1, [], 0),
  (1, .iconst 0, 1, [], 0),
  (2, .putfield 1, 3, [21, 0, 0], 0),
  (5, .aload_n 0, 1, [], 0),
  (6, .getfield 142, 3, [21, 30, 0], 0),
  (9, .ireturn, 1, [], 0)]
/-- 242: HiccupTownModel.rowsOf(II)I -/
def T_X12_rowsOf : List mm_E := [(0, .iload_n 1, 1, [], 0),
  (1, .ifCond .ge 7, 3, [], 0),
  (4, .iconst 0, 1, [], 0),
  (5, .goto 14, 3, [], 0),
  (8, .aload_n 0, 1, [], 0),
  (9, .getfield 145, 3, [21, 31, 3, 47, 14], 0),
  (12, .bipush 61, 2, [], 0),
  (14, .iload_n 2, 1, [], 0),
  (15, .imul, 1, [], 0),
  (16, .iload_n 1, 1, [], 0),
  (17, .iadd, 1, [], 0),
  (18, .iaload, 1, [], 0),
  (19, .ireturn, 1, [], 0)]
/-- 243: HiccupTownModel.layRows(I)V -/
def T_X12_layRows : List mm_E := [(0, .iconst 0, 1, [], 0),
  (1, .istore_n 2, 1, [], 0),
  (2, .iload_n 2, 1, [], 0),
  (3, .bipush 60, 2, [], 0),
  (5, .if_icmp .gt 24, 3, [], 0),
  (8, .aload_n 0, 1, [], 0),
  (9, .getfield 145, 3, [21, 31, 3, 47, 14], 0),
  (12, .iload_n 2, 1, [], 0),
  (13, .iload_n 2, 1, [], 0),
  (14, .ifCond .ne 7, 3, [], 0),
  (17, .iconst 1, 1, [], 0),
  (18, .goto 4, 3, [], 0),
  (21, .iconst 0, 1, [], 0),
  (22, .iastore, 1, [], 0),
  (23, .iinc 2 1, 3, [], 0),
  (26, .goto (-24), 3, [], 0),
  (29, .iconst 1, 1, [], 0),
  (30, .istore_n 2, 1, [], 0),
  (31, .iload_n 2, 1, [], 0),
  (32, .iload_n 1, 1, [], 0),
  (33, .if_icmp .gt 82, 3, [], 0),
  (36, .iconst 0, 1, [], 0),
  (37, .istore_n 3, 1, [], 0),
  (38, .iload_n 3, 1, [], 0),
  (39, .bipush 60, 2, [], 0),
  (41, .if_icmp .gt 68, 3, [], 0),
  (44, .iconst 0, 1, [], 0),
  (45, .istore 4, 2, [], 0),
  (47, .iconst 0, 1, [], 0),
  (48, .istore 5, 2, [], 0),
  (50, .iload 5, 2, [], 0),
  (52, .aload_n 0, 1, [], 0),
  (53, .getfield 98, 3, [21, 14, 3, 37, 2], 0),
  (56, .iconst 1, 1, [], 0),
  (57, .iaload, 1, [], 0),
  (58, .if_icmp .gt 32, 3, [], 0),
  (61, .iload 4, 2, [], 0),
  (63, .aload_n 0, 1, [], 0),
  (64, .iload_n 3, 1, [], 0),
  (65, .aload_n 0, 1, [], 0),
  (66, .getfield 98, 3, [21, 14, 3, 37, 2], 0),
  (69, .iconst 5, 1, [], 0),
  (70, .iload 5, 2, [], 0),
  (72, .iadd, 1, [], 0),
  (73, .iaload, 1, [], 0),
  (74, .isub, 1, [], 0),
  (75, .iload_n 2, 1, [], 0),
  (76, .iconst 1, 1, [], 0),
  (77, .isub, 1, [], 0),
  (78, .invokevirtual 328, 3, [0, 242, 3, 0, 21], 0),
  (81, .iadd, 1, [], 0),
  (82, .istore 4, 2, [], 0),
  (84, .iinc 5 1, 3, [], 0),
  (87, .goto (-37), 3, [], 0),
  (90, .aload_n 0, 1, [], 0),
  (91, .getfield 145, 3, [21, 31, 3, 47, 14], 0),
  (94, .bipush 61, 2, [], 0),
  (96, .iload_n 2, 1, [], 0),
  (97, .imul, 1, [], 0),
  (98, .iload_n 3, 1, [], 0),
  (99, .iadd, 1, [], 0),
  (100, .iload 4, 2, [], 0),
  (102, .iastore, 1, [], 0),
  (103, .iinc 3 1, 3, [], 0),
  (106, .goto (-68), 3, [], 0),
  (109, .iinc 2 1, 3, [], 0),
  (112, .goto (-81), 3, [], 0),
  (115, .return_, 1, [], 0)]
/-- 244: HiccupTownModel.rows(II)I -/
def T_X12_rows : List mm_E := [(0, .aload_n 0, 1, [], 0),
  (1, .iconst 0, 1, [], 0),
  (2, .putfield 1, 3, [21, 0, 0], 0),
  (5, .iload_n 1, 1, [], 0),
  (6, .iconst 1, 1, [], 0),
  (7, .bipush 60, 2, [], 0),
  (9, .invokestatic 75, 3, [0, 160, 3, 0], 0),
  (12, .ifCond .eq 12, 3, [], 0),
  (15, .iload_n 2, 1, [], 0),
  (16, .iconst 1, 1, [], 0),
  (17, .iconst 5, 1, [], 0),
  (18, .invokestatic 75, 3, [0, 160, 3, 0], 0),
  (21, .ifCond .ne 5, 3, [], 0),
  (24, .iconst (-1), 1, [], 0),
  (25, .ireturn, 1, [], 0),
  (26, .aload_n 0, 1, [], 0),
  (27, .iload_n 2, 1, [], 0),
  (28, .invokevirtual 331, 3, [0, 243, 2, 8, 21], 0),
  (31, .aload_n 0, 1, [], 0),
  (32, .iload_n 1, 1, [], 0),
  (33, .iload_n 2, 1, [], 0),
  (34, .invokevirtual 328, 3, [0, 242, 3, 0, 21], 0),
  (37, .ifCond .ne 5, 3, [], 0),
  (40, .iconst 0, 1, [], 0),
  (41, .ireturn, 1, [], 0),
  (42, .iload_n 1, 1, [], 0),
  (43, .istore_n 3, 1, [], 0),
  (44, .iconst 0, 1, [], 0),
  (45, .istore 4, 2, [], 0),
  (47, .iload 4, 2, [], 0),
  (49, .iload_n 2, 1, [], 0),
  (50, .if_icmp .ge 63, 3, [], 0),
  (53, .iconst 0, 1, [], 0),
  (54, .istore 5, 2, [], 0),
  (56, .aload_n 0, 1, [], 0),
  (57, .iload_n 3, 1, [], 0),
  (58, .aload_n 0, 1, [], 0),
  (59, .getfield 98, 3, [21, 14, 3, 37, 2], 0),
  (62, .iconst 5, 1, [], 0),
  (63, .iload 5, 2, [], 0),
  (65, .iadd, 1, [], 0),
  (66, .iaload, 1, [], 0),
  (67, .isub, 1, [], 0),
  (68, .iload_n 2, 1, [], 0),
  (69, .iconst 1, 1, [], 0),
  (70, .isub, 1, [], 0),
  (71, .iload 4, 2, [], 0),
  (73, .isub, 1, [], 0),
  (74, .invokevirtual 328, 3, [0, 242, 3, 0, 21], 0),
  (77, .ifCond .ne 9, 3, [], 0),
  (80, .iinc 5 1, 3, [], 0),
  (83, .goto (-27), 3, [], 0),
  (86, .aload_n 0, 1, [], 0),
  (87, .getfield 148, 3, [21, 32, 3, 23, 15], 0),
  (90, .iload 4, 2, [], 0),
  (92, .iload 5, 2, [], 0),
  (94, .iastore, 1, [], 0),
  (95, .iload_n 3, 1, [], 0),
  (96, .aload_n 0, 1, [], 0),
  (97, .getfield 98, 3, [21, 14, 3, 37, 2], 0),
  (100, .iconst 5, 1, [], 0),
  (101, .iload 5, 2, [], 0),
  (103, .iadd, 1, [], 0),
  (104, .iaload, 1, [], 0),
  (105, .isub, 1, [], 0),
  (106, .istore_n 3, 1, [], 0),
  (107, .iinc 4 1, 3, [], 0),
  (110, .goto (-63), 3, [], 0),
  (113, .aload_n 0, 1, [], 0),
  (114, .iload_n 2, 1, [], 0),
  (115, .putfield 334, 3, [21, 33, 0], 0),
  (118, .aload_n 0, 1, [], 0),
  (119, .iload_n 1, 1, [], 0),
  (120, .iload_n 2, 1, [], 0),
  (121, .invokevirtual 328, 3, [0, 242, 3, 0, 21], 0),
  (124, .ireturn, 1, [], 0)]
/-- 245: HiccupTownModel.rowAt(I)I -/
def T_X12_rowAt : List mm_E := [(0, .aload_n 0, 1, [], 0),
  (1, .iconst 0, 1, [], 0),
  (2, .putfield 1, 3, [21, 0, 0], 0),
  (5, .iload_n 1, 1, [], 0),
  (6, .iconst 0, 1, [], 0),
  (7, .aload_n 0, 1, [], 0),
  (8, .getfield 334, 3, [21, 33, 0], 0),
  (11, .iconst 1, 1, [], 0),
  (12, .isub, 1, [], 0),
  (13, .invokestatic 75, 3, [0, 160, 3, 0], 0),
  (16, .ifCond .eq 12, 3, [], 0),
  (19, .aload_n 0, 1, [], 0),
  (20, .getfield 148, 3, [21, 32, 3, 23, 15], 0),
  (23, .iload_n 1, 1, [], 0),
  (24, .iaload, 1, [], 0),
  (25, .goto 4, 3, [], 0),
  (28, .iconst (-1), 1, [], 0),
  (29, .ireturn, 1, [], 0)]
/-- 246: HiccupTownModel.areNear(II)Z -/
def T_X12_areNear : List mm_E := [(0, .aload_n 0, 1, [], 0),
  (1, .iload_n 1, 1, [], 0),
  (2, .iconst 1, 1, [], 0),
  (3, .invokevirtual 306, 3, [0, 226, 3, 0, 21], 0),
  (6, .aload_n 0, 1, [], 0),
  (7, .iload_n 2, 1, [], 0),
  (8, .iconst 1, 1, [], 0),
  (9, .invokevirtual 306, 3, [0, 226, 3, 0, 21], 0),
  (12, .isub, 1, [], 0),
  (13, .invokestatic 337, 3, [0, 163, 1, 0], 0),
  (16, .istore_n 3, 1, [], 0),
  (17, .iload_n 3, 1, [], 0),
  (18, .iconst 2, 1, [], 0),
  (19, .if_icmp .lt 15, 3, [], 0),
  (22, .iload_n 3, 1, [], 0),
  (23, .aload_n 0, 1, [], 0),
  (24, .getfield 98, 3, [21, 14, 3, 37, 2], 0),
  (27, .iconst 0, 1, [], 0),
  (28, .iaload, 1, [], 0),
  (29, .iconst 1, 1, [], 0),
  (30, .isub, 1, [], 0),
  (31, .if_icmp .ne 7, 3, [], 0),
  (34, .iconst 1, 1, [], 0),
  (35, .goto 4, 3, [], 0),
  (38, .iconst 0, 1, [], 0),
  (39, .ireturn, 1, [5], 0)]
/-- 247: HiccupTownModel.isFor(II)Z -/
def T_X12_isFor : List mm_E := [(0, .iconst 0, 1, [], 0),
  (1, .istore_n 3, 1, [], 0),
  (2, .iconst 0, 1, [], 0),
  (3, .istore 4, 2, [], 0),
  (5, .iload 4, 2, [], 0),
  (7, .aload_n 0, 1, [], 0),
  (8, .getfield 98, 3, [21, 14, 3, 37, 2], 0),
  (11, .iconst 2, 1, [], 0),
  (12, .iaload, 1, [], 0),
  (13, .if_icmp .ge 42, 3, [], 0),
  (16, .iload 4, 2, [], 0),
  (18, .iload_n 1, 1, [], 0),
  (19, .if_icmp .eq 30, 3, [], 0),
  (22, .aload_n 0, 1, [], 0),
  (23, .iload_n 1, 1, [], 0),
  (24, .iload 4, 2, [], 0),
  (26, .invokevirtual 339, 3, [0, 246, 3, 0, 21], 0),
  (29, .ifCond .eq 20, 3, [], 0),
  (32, .iload_n 3, 1, [], 0),
  (33, .iload_n 2, 1, [], 0),
  (34, .iload 4, 2, [], 0),
  (36, .invokestatic 213, 3, [0, 161, 2, 0], 0),
  (39, .ifCond .eq 7, 3, [], 0),
  (42, .iconst 1, 1, [], 0),
  (43, .goto 4, 3, [], 0),
  (46, .iconst (-1), 1, [], 0),
  (47, .iadd, 1, [], 0),
  (48, .istore_n 3, 1, [], 0),
  (49, .iinc 4 1, 3, [], 0),
  (52, .goto (-47), 3, [], 0),
  (55, .iload_n 3, 1, [], 0),
  (56, .ifCond .ne 11, 3, [], 0),
  (59, .iload_n 2, 1, [], 0),
  (60, .iload_n 1, 1, [], 0),
  (61, .invokestatic 213, 3, [0, 161, 2, 0], 0),
  (64, .goto 12, 3, [], 0),
  (67, .iload_n 3, 1, [], 0),
  (68, .ifCond .le 7, 3, [], 0),
  (71, .iconst 1, 1, [], 0),
  (72, .goto 4, 3, [], 0),
  (75, .iconst 0, 1, [], 0),
  (76, .ireturn, 1, [5], 0)]
/-- 248: HiccupTownModel.vote()I -/
def T_X12_vote : List mm_E := [(0, .aload_n 0, 1, [], 0),
  (1, .iconst 0, 1, [], 0),
  (2, .putfield 1, 3, [21, 0, 0], 0),
  (5, .aload_n 0, 1, [], 0),
  (6, .getfield 98, 3, [21, 14, 3, 37, 2], 0),
  (9, .bipush 53, 2, [], 0),
  (11, .iaload, 1, [], 0),
  (12, .istore_n 1, 1, [], 0),
  (13, .iconst 0, 1, [], 0),
  (14, .istore_n 2, 1, [], 0),
  (15, .iconst 1, 1, [], 0),
  (16, .istore_n 3, 1, [], 0),
  (17, .iload_n 3, 1, [], 0),
  (18, .ifCond .eq 74, 3, [], 0),
  (21, .iload_n 2, 1, [], 0),
  (22, .bipush 10, 2, [], 0),
  (24, .if_icmp .ge 68, 3, [], 0),
  (27, .iconst 0, 1, [], 0),
  (28, .istore_n 3, 1, [], 0),
  (29, .iinc 2 1, 3, [], 0),
  (32, .iconst 0, 1, [], 0),
  (33, .istore 4, 2, [], 0),
  (35, .iload 4, 2, [], 0),
  (37, .aload_n 0, 1, [], 0),
  (38, .getfield 98, 3, [21, 14, 3, 37, 2], 0),
  (41, .iconst 2, 1, [], 0),
  (42, .iaload, 1, [], 0),
  (43, .if_icmp .ge 46, 3, [], 0),
  (46, .aload_n 0, 1, [], 0),
  (47, .iload 4, 2, [], 0),
  (49, .invokevirtual 249, 3, [0, 200, 2, 0, 21], 0),
  (52, .ifCond .ne 31, 3, [], 0),
  (55, .aload_n 0, 1, [], 0),
  (56, .iload 4, 2, [], 0),
  (58, .iload_n 1, 1, [], 0),
  (59, .invokevirtual 342, 3, [0, 247, 3, 0, 21], 0),
  (62, .iload_n 1, 1, [], 0),
  (63, .iload 4, 2, [], 0),
  (65, .invokestatic 213, 3, [0, 161, 2, 0], 0),
  (68, .if_icmp .ne 6, 3, [], 0),
  (71, .goto 12, 3, [], 0),
  (74, .iload_n 1, 1, [], 0),
  (75, .iconst 1, 1, [], 0),
  (76, .iload 4, 2, [], 0),
  (78, .ishl, 1, [], 0),
  (79, .ixor, 1, [], 0),
  (80, .istore_n 1, 1, [], 0),
  (81, .iconst 1, 1, [], 0),
  (82, .istore_n 3, 1, [], 0),
  (83, .iinc 4 1, 3, [], 0),
  (86, .goto (-51), 3, [], 0),
  (89, .goto (-72), 3, [], 0),
  (92, .aload_n 0, 1, [], 0),
  (93, .iload_n 1, 1, [], 0),
  (94, .putfield 151, 3, [21, 34, 0], 0),
  (97, .iload_n 2, 1, [], 0),
  (98, .ireturn, 1, [], 0)]
/-- 249: HiccupTownModel.voted()I -/
def T_X12_voted : List mm_E := [(0, .aload_n 0, 1, [], 0),
  (1, .iconst 0, 1, [], 0),
  (2, .putfield 1, 3, [21, 0, 0], 0),
  (5, .aload_n 0, 1, [], 0),
  (6, .getfield 151, 3, [21, 34, 0], 0),
  (9, .ireturn, 1, [], 0)]
/-- 250: HiccupTownModel.write(I)V -/
def T_X12_write : List mm_E := [(0, .aload_n 0, 1, [], 0),
  (1, .getfield 154, 3, [21, 35, 3, 48, 16], 0),
  (4, .aload_n 0, 1, [], 0),
  (5, .getfield 345, 3, [21, 36, 0], 0),
  (8, .iload_n 1, 1, [], 0),
  (9, .iastore, 1, [], 0),
  (10, .aload_n 0, 1, [], 0),
  (11, .dup, 1, [], 0),
  (12, .getfield 345, 3, [21, 36, 0], 0),
  (15, .iconst 1, 1, [], 0),
  (16, .iadd, 1, [], 0),
  (17, .putfield 345, 3, [21, 36, 0], 0),
  (20, .return_, 1, [], 0)]
/-- 251: HiccupTownModel.writeWord(J)V -/
def T_X12_writeWord : List mm_E := [(0, .lload_n 1, 1, [], 0),
  (1, .ldc2_w 54, 3, [], 27),
  (4, .lcmp, 1, [], 0),
  (5, .ifCond .lt 12, 3, [], 0),
  (8, .aload_n 0, 1, [], 0),
  (9, .lload_n 1, 1, [], 0),
  (10, .ldc2_w 54, 3, [], 27),
  (13, .ldiv, 1, [], 0),
  (14, .invokevirtual 348, 3, [0, 251, 2, 8, 21], 0),
  (17, .aload_n 0, 1, [], 0),
  (18, .bipush 96, 2, [], 0),
  (20, .lload_n 1, 1, [], 0),
  (21, .ldc2_w 54, 3, [], 27),
  (24, .lrem, 1, [], 0),
  (25, .l2i, 1, [], 0),
  (26, .iadd, 1, [], 0),
  (27, .invokevirtual 352, 3, [0, 250, 2, 8, 21], 0),
  (30, .return_, 1, [], 0)]
/-- 252: HiccupTownModel.writeNumber(I)V -/
def T_X12_writeNumber : List mm_E := [(0, .iload_n 1, 1, [], 0),
  (1, .bipush 9, 2, [], 0),
  (3, .if_icmp .le 11, 3, [], 0),
  (6, .aload_n 0, 1, [], 0),
  (7, .iload_n 1, 1, [], 0),
  (8, .bipush 10, 2, [], 0),
  (10, .idiv, 1, [], 0),
  (11, .invokevirtual 355, 3, [0, 252, 2, 8, 21], 0),
  (14, .aload_n 0, 1, [], 0),
  (15, .bipush 48, 2, [], 0),
  (17, .iload_n 1, 1, [], 0),
  (18, .bipush 10, 2, [], 0),
  (20, .irem, 1, [], 0),
  (21, .iadd, 1, [], 0),
  (22, .invokevirtual 352, 3, [0, 250, 2, 8, 21], 0),
  (25, .return_, 1, [], 0)]
/-- 253: HiccupTownModel.writeNext(J)V -/
def T_X12_writeNext : List mm_E := [(0, .aload_n 0, 1, [], 0),
  (1, .bipush 32, 2, [], 0),
  (3, .invokevirtual 352, 3, [0, 250, 2, 8, 21], 0),
  (6, .aload_n 0, 1, [], 0),
  (7, .lload_n 1, 1, [], 0),
  (8, .invokevirtual 348, 3, [0, 251, 2, 8, 21], 0),
  (11, .return_, 1, [], 0)]
/-- 254: HiccupTownModel.tag(I)I -/
def T_X12_tag : List mm_E := [(0, .aload_n 0, 1, [], 0),
  (1, .iconst 0, 1, [], 0),
  (2, .putfield 1, 3, [21, 0, 0], 0),
  (5, .aload_n 0, 1, [], 0),
  (6, .iload_n 1, 1, [], 0),
  (7, .invokevirtual 255, 3, [0, 198, 2, 0, 21], 0),
  (10, .ifCond .ne 5, 3, [], 0),
  (13, .iconst (-1), 1, [], 0),
  (14, .ireturn, 1, [], 0),
  (15, .aload_n 0, 1, [], 0),
  (16, .iconst 0, 1, [], 0),
  (17, .putfield 345, 3, [21, 36, 0], 0),
  (20, .aload_n 0, 1, [], 0),
  (21, .aload_n 0, 1, [], 0),
  (22, .getfield 113, 3, [21, 19, 3, 42, 7], 0),
  (25, .iconst 4, 1, [], 0),
  (26, .iload_n 1, 1, [], 0),
  (27, .iadd, 1, [], 0),
  (28, .laload, 1, [], 0),
  (29, .invokevirtual 348, 3, [0, 251, 2, 8, 21], 0),
  (32, .aload_n 0, 1, [], 0),
  (33, .bipush 97, 2, [], 0),
  (35, .bipush 116, 2, [], 0),
  (37, .iconst 0, 1, [], 0),
  (38, .iconst 0, 1, [], 0),
  (39, .iconst 0, 1, [], 0),
  (40, .iconst 0, 1, [], 0),
  (41, .iconst 0, 1, [], 0),
  (42, .invokestatic 58, 3, [0, 169, 7, 1], 0),
  (45, .invokevirtual 358, 3, [0, 253, 2, 8, 21], 0),
  (48, .aload_n 0, 1, [], 0),
  (49, .bipush 32, 2, [], 0),
  (51, .invokevirtual 352, 3, [0, 250, 2, 8, 21], 0),
  (54, .aload_n 0, 1, [], 0),
  (55, .aload_n 0, 1, [], 0),
  (56, .getfield 98, 3, [21, 14, 3, 37, 2], 0),
  (59, .bipush 54, 2, [], 0),
  (61, .iload_n 1, 1, [], 0),
  (62, .iadd, 1, [], 0),
  (63, .iaload, 1, [], 0),
  (64, .invokevirtual 355, 3, [0, 252, 2, 8, 21], 0),
  (67, .aload_n 0, 1, [], 0),
  (68, .iload_n 1, 1, [], 0),
  (69, .invokevirtual 249, 3, [0, 200, 2, 0, 21], 0),
  (72, .ifCond .eq 17, 3, [], 0),
  (75, .aload_n 0, 1, [], 0),
  (76, .bipush 18, 2, [], 0),
  (78, .invokestatic 62, 3, [0, 170, 1, 1], 0),
  (81, .invokevirtual 358, 3, [0, 253, 2, 8, 21], 0),
  (84, .aload_n 0, 1, [], 0),
  (85, .getfield 345, 3, [21, 36, 0], 0),
  (88, .ireturn, 1, [], 0),
  (89, .aload_n 0, 1, [], 0),
  (90, .bipush 105, 2, [], 0),
  (92, .bipush 110, 2, [], 0),
  (94, .iconst 0, 1, [], 0),
  (95, .iconst 0, 1, [], 0),
  (96, .iconst 0, 1, [], 0),
  (97, .iconst 0, 1, [], 0),
  (98, .iconst 0, 1, [], 0),
  (99, .invokestatic 58, 3, [0, 169, 7, 1], 0),
  (102, .invokevirtual 358, 3, [0, 253, 2, 8, 21], 0),
  (105, .aload_n 0, 1, [], 0),
  (106, .aload_n 0, 1, [], 0),
  (107, .invokevirtual 294, 3, [0, 201, 1, 0, 21], 0),
  (110, .ifCond .eq 19, 3, [], 0),
  (113, .bipush 97, 2, [], 0),
  (115, .bipush 105, 2, [], 0),
  (117, .bipush 114, 2, [], 0),
  (119, .iconst 0, 1, [], 0),
  (120, .iconst 0, 1, [], 0),
  (121, .iconst 0, 1, [], 0),
  (122, .iconst 0, 1, [], 0),
  (123, .invokestatic 58, 3, [0, 169, 7, 1], 0),
  (126, .goto 17, 3, [], 0),
  (129, .bipush 115, 2, [], 0),
  (131, .bipush 116, 2, [], 0),
  (133, .bipush 101, 2, [], 0),
  (135, .bipush 112, 2, [], 0),
  (137, .iconst 0, 1, [], 0),
  (138, .iconst 0, 1, [], 0),
  (139, .iconst 0, 1, [], 0),
  (140, .invokestatic 58, 3, [0, 169, 7, 1], 0),
  (143, .invokevirtual 358, 3, [0, 253, 2, 8, 21], 0),
  (146, .aload_n 0, 1, [], 0),
  (147, .getfield 345, 3, [21, 36, 0], 0),
  (150, .ireturn, 1, [], 0)]
/-- 255: HiccupTownModel.byteAt(I)I -/
def T_X12_byteAt : List mm_E := [(0, .aload_n 0, 1, [], 0),
  (1, .iconst 0, 1, [], 0),
  (2, .putfield 1, 3, [21, 0, 0], 0),
  (5, .iload_n 1, 1, [], 0),
  (6, .iconst 0, 1, [], 0),
  (7, .aload_n 0, 1, [], 0),
  (8, .getfield 345, 3, [21, 36, 0], 0),
  (11, .iconst 1, 1, [], 0),
  (12, .isub, 1, [], 0),
  (13, .invokestatic 75, 3, [0, 160, 3, 0], 0),
  (16, .ifCond .eq 12, 3, [], 0),
  (19, .aload_n 0, 1, [], 0),
  (20, .getfield 154, 3, [21, 35, 3, 48, 16], 0),
  (23, .iload_n 1, 1, [], 0),
  (24, .iaload, 1, [], 0),
  (25, .goto 4, 3, [], 0),
  (28, .iconst (-1), 1, [], 0),
  (29, .ireturn, 1, [], 0)]
/-- 256: HiccupTownModel.draw(I)I -/
def T_X12_draw : List mm_E := [(0, .aload_n 0, 1, [], 0),
  (1, .aload_n 0, 1, [], 0),
  (2, .getfield 361, 3, [21, 37, 0], 0),
  (5, .ldc_w 364, 3, [0], 1103515245),
  (8, .imul, 1, [], 0),
  (9, .sipush 12345, 3, [], 0),
  (12, .iadd, 1, [], 0),
  (13, .putfield 361, 3, [21, 37, 0], 0),
  (16, .aload_n 0, 1, [], 0),
  (17, .getfield 361, 3, [21, 37, 0], 0),
  (20, .bipush 8, 2, [], 0),
  (22, .iushr, 1, [], 0),
  (23, .iload_n 1, 1, [], 0),
  (24, .irem, 1, [], 0),
  (25, .ireturn, 1, [], 0)]
/-- 257: HiccupTownModel.drawsFor(II)V -/
def T_X12_drawsFor : List mm_E := [(0, .aload_n 0, 1, [], 0),
  (1, .iload_n 1, 1, [], 0),
  (2, .iload_n 2, 1, [], 0),
  (3, .invokevirtual 280, 3, [0, 211, 3, 0, 21], 0),
  (6, .ifCond .ne 9, 3, [], 0),
  (9, .aload_n 0, 1, [], 0),
  (10, .iload_n 1, 1, [], 0),
  (11, .iload_n 2, 1, [], 0),
  (12, .invokevirtual 286, 3, [0, 213, 3, 8, 21], 0),
  (15, .return_, 1, [], 0)]
/-- 258: HiccupTownModel.drawSeconds(II)I -/
def T_X12_drawSeconds : List mm_E := [(0, .aload_n 0, 1, [], 0),
  (1, .iload_n 2, 1, [], 0),
  (2, .putfield 361, 3, [21, 37, 0], 0),
  (5, .iload_n 1, 1, [], 0),
  (6, .sipush 600, 3, [], 0),
  (9, .aload_n 0, 1, [], 0),
  (10, .getfield 98, 3, [21, 14, 3, 37, 2], 0),
  (13, .bipush 48, 2, [], 0),
  (15, .iaload, 1, [], 0),
  (16, .isub, 1, [], 0),
  (17, .invokestatic 273, 3, [0, 162, 2, 0], 0),
  (20, .istore_n 3, 1, [], 0),
  (21, .iconst 0, 1, [], 0),
  (22, .istore 4, 2, [], 0),
  (24, .iload 4, 2, [], 0),
  (26, .iload_n 3, 1, [], 0),
  (27, .if_icmp .ge 93, 3, [], 0),
  (30, .aload_n 0, 1, [], 0),
  (31, .bipush 20, 2, [], 0),
  (33, .invokevirtual 365, 3, [0, 256, 2, 0, 21], 0),
  (36, .istore 5, 2, [], 0),
  (38, .iload 5, 2, [], 0),
  (40, .iconst 5, 1, [], 0),
  (41, .if_icmp .ge 20, 3, [], 0),
  (44, .aload_n 0, 1, [], 0),
  (45, .iload 5, 2, [], 0),
  (47, .iconst 2, 1, [], 0),
  (48, .if_icmp .ge 8, 3, [], 0),
  (51, .iload 5, 2, [], 0),
  (53, .goto 4, 3, [], 0),
  (56, .iconst 2, 1, [], 0),
  (57, .iconst 0, 1, [], 0),
  (58, .invokevirtual 368, 3, [0, 257, 3, 8, 21], 0),
  (61, .iconst 0, 1, [], 0),
  (62, .istore 6, 2, [], 0),
  (64, .iload 6, 2, [], 0),
  (66, .aload_n 0, 1, [], 0),
  (67, .getfield 98, 3, [21, 14, 3, 37, 2], 0),
  (70, .iconst 2, 1, [], 0),
  (71, .iaload, 1, [], 0),
  (72, .if_icmp .ge 38, 3, [], 0),
  (75, .aload_n 0, 1, [], 0),
  (76, .bipush 12, 2, [], 0),
  (78, .invokevirtual 365, 3, [0, 256, 2, 0, 21], 0),
  (81, .ifCond .ne 23, 3, [], 0),
  (84, .aload_n 0, 1, [], 0),
  (85, .aload_n 0, 1, [], 0),
  (86, .iload 6, 2, [], 0),
  (88, .invokevirtual 249, 3, [0, 200, 2, 0, 21], 0),
  (91, .ifCond .eq 7, 3, [], 0),
  (94, .iconst 5, 1, [], 0),
  (95, .goto 4, 3, [], 0),
  (98, .iconst 4, 1, [], 0),
  (99, .iload 6, 2, [], 0),
  (101, .invokevirtual 368, 3, [0, 257, 3, 8, 21], 0),
  (104, .iinc 6 1, 3, [], 0),
  (107, .goto (-43), 3, [], 0),
  (110, .aload_n 0, 1, [], 0),
  (111, .invokevirtual 300, 3, [0, 223, 1, 8, 21], 0),
  (114, .iinc 4 1, 3, [], 0),
  (117, .goto (-93), 3, [], 0),
  (120, .iload_n 3, 1, [], 0),
  (121, .ireturn, 1, [], 0)]
/-- 259: HiccupTownModel.drawn(II)I -/
def T_X12_drawn : List mm_E := [(0, .aload_n 0, 1, [], 0),
  (1, .iconst 0, 1, [], 0),
  (2, .putfield 1, 3, [21, 0, 0], 0),
  (5, .iload_n 1, 1, [], 0),
  (6, .iconst 1, 1, [], 0),
  (7, .bipush 60, 2, [], 0),
  (9, .invokestatic 75, 3, [0, 160, 3, 0], 0),
  (12, .ifCond .ne 5, 3, [], 0),
  (15, .iconst (-1), 1, [], 0),
  (16, .ireturn, 1, [], 0),
  (17, .aload_n 0, 1, [], 0),
  (18, .getfield 98, 3, [21, 14, 3, 37, 2], 0),
  (21, .bipush 48, 2, [], 0),
  (23, .iaload, 1, [], 0),
  (24, .sipush 600, 3, [], 0),
  (27, .if_icmp .ne 5, 3, [], 0),
  (30, .iconst 0, 1, [], 0),
  (31, .ireturn, 1, [], 0),
  (32, .aload_n 0, 1, [], 0),
  (33, .invokevirtual 283, 3, [0, 209, 1, 8, 21], 0),
  (36, .aload_n 0, 1, [], 0),
  (37, .iload_n 1, 1, [], 0),
  (38, .iload_n 2, 1, [], 0),
  (39, .invokevirtual 371, 3, [0, 258, 3, 0, 21], 0),
  (42, .ireturn, 1, [], 0)]
/-- 260: HiccupTownModel.odds(III)I -/
def T_X12_odds : List mm_E := [(0, .aload_n 0, 1, [], 0),
  (1, .iconst 0, 1, [], 0),
  (2, .putfield 1, 3, [21, 0, 0], 0),
  (5, .aload_n 0, 1, [], 0),
  (6, .iload_n 1, 1, [], 0),
  (7, .invokevirtual 264, 3, [0, 199, 2, 0, 21], 0),
  (10, .ifCond .eq 13, 3, [], 0),
  (13, .iload_n 2, 1, [], 0),
  (14, .iconst 1, 1, [], 0),
  (15, .bipush 30, 2, [], 0),
  (17, .invokestatic 75, 3, [0, 160, 3, 0], 0),
  (20, .ifCond .ne 5, 3, [], 0),
  (23, .iconst (-1), 1, [], 0),
  (24, .ireturn, 1, [], 0),
  (25, .aload_n 0, 1, [], 0),
  (26, .invokevirtual 309, 3, [0, 229, 1, 8, 21], 0),
  (29, .iconst 0, 1, [], 0),
  (30, .istore 4, 2, [], 0),
  (32, .iconst 0, 1, [], 0),
  (33, .istore 5, 2, [], 0),
  (35, .iload 5, 2, [], 0),
  (37, .iload_n 2, 1, [], 0),
  (38, .if_icmp .ge 39, 3, [], 0),
  (41, .aload_n 0, 1, [], 0),
  (42, .bipush 60, 2, [], 0),
  (44, .iload_n 3, 1, [], 0),
  (45, .iload 5, 2, [], 0),
  (47, .iadd, 1, [], 0),
  (48, .invokevirtual 371, 3, [0, 258, 3, 0, 21], 0),
  (51, .pop, 1, [], 0),
  (52, .aload_n 0, 1, [], 0),
  (53, .getfield 98, 3, [21, 14, 3, 37, 2], 0),
  (56, .bipush 68, 2, [], 0),
  (58, .iload_n 1, 1, [], 0),
  (59, .iadd, 1, [], 0),
  (60, .iaload, 1, [], 0),
  (61, .ifCond .ne 6, 3, [], 0),
  (64, .iinc 4 1, 3, [], 0),
  (67, .aload_n 0, 1, [], 0),
  (68, .invokevirtual 313, 3, [0, 230, 1, 8, 21], 0),
  (71, .iinc 5 1, 3, [], 0),
  (74, .goto (-39), 3, [], 0),
  (77, .iload 4, 2, [], 0),
  (79, .ireturn, 1, [], 0)]
/-- 261: HiccupTownModel.keep(IZ)Z -/
def T_X12_keep : List mm_E := [(0, .iload_n 2, 1, [], 0),
  (1, .ifCond .eq 13, 3, [], 0),
  (4, .aload_n 0, 1, [], 0),
  (5, .getfield 157, 3, [21, 38, 3, 49, 17], 0),
  (8, .iload_n 1, 1, [], 0),
  (9, .aload_n 0, 1, [], 0),
  (10, .getfield 79, 3, [21, 13, 0], 0),
  (13, .iastore, 1, [], 0),
  (14, .iload_n 2, 1, [], 0),
  (15, .ireturn, 1, [5], 0)]
/-- 262: HiccupTownModel.readNamed(II)Z -/
def T_X12_readNamed : List mm_E := [(0, .aload_n 0, 1, [], 0),
  (1, .invokevirtual 180, 3, [0, 173, 1, 0, 21], 0),
  (4, .ifCond .ne 9, 3, [], 0),
  (7, .aload_n 0, 1, [], 0),
  (8, .iconst 1, 1, [], 0),
  (9, .invokevirtual 72, 3, [0, 174, 2, 0, 21], 0),
  (12, .ireturn, 1, [5], 0),
  (13, .aload_n 0, 1, [], 0),
  (14, .aload_n 0, 1, [], 0),
  (15, .getfield 113, 3, [21, 19, 3, 42, 7], 0),
  (18, .iload_n 1, 1, [], 0),
  (19, .iload_n 2, 1, [], 0),
  (20, .aload_n 0, 1, [], 0),
  (21, .getfield 43, 3, [21, 12, 1], 0),
  (24, .invokestatic 176, 3, [0, 180, 4, 0], 0),
  (27, .putfield 79, 3, [21, 13, 0], 0),
  (30, .aload_n 0, 1, [], 0),
  (31, .getfield 79, 3, [21, 13, 0], 0),
  (34, .iconst (-1), 1, [], 0),
  (35, .if_icmp .ne 9, 3, [], 0),
  (38, .aload_n 0, 1, [], 0),
  (39, .iconst 3, 1, [], 0),
  (40, .invokevirtual 72, 3, [0, 174, 2, 0, 21], 0),
  (43, .ireturn, 1, [5], 0),
  (44, .aload_n 0, 1, [], 0),
  (45, .invokevirtual 82, 3, [0, 168, 1, 8, 21], 0),
  (48, .iconst 1, 1, [], 0),
  (49, .ireturn, 1, [5], 0)]
/-- 263: HiccupTownModel.readBeater()Z -/
def T_X12_readBeater : List mm_E := [(0, .aload_n 0, 1, [], 0),
  (1, .bipush 11, 2, [], 0),
  (3, .invokevirtual 207, 3, [0, 171, 2, 0, 21], 0),
  (6, .ifCond .eq 14, 3, [], 0),
  (9, .aload_n 0, 1, [], 0),
  (10, .iconst 0, 1, [], 0),
  (11, .putfield 79, 3, [21, 13, 0], 0),
  (14, .aload_n 0, 1, [], 0),
  (15, .invokevirtual 82, 3, [0, 168, 1, 8, 21], 0),
  (18, .iconst 1, 1, [], 0),
  (19, .ireturn, 1, [5], 0),
  (20, .aload_n 0, 1, [], 0),
  (21, .iconst 0, 1, [], 0),
  (22, .aload_n 0, 1, [], 0),
  (23, .getfield 98, 3, [21, 14, 3, 37, 2], 0),
  (26, .iconst 1, 1, [], 0),
  (27, .iaload, 1, [], 0),
  (28, .invokevirtual 374, 3, [0, 262, 3, 0, 21], 0),
  (31, .ifCond .ne 5, 3, [], 0),
  (34, .iconst 0, 1, [], 0),
  (35, .ireturn, 1, [5], 0),
  (36, .aload_n 0, 1, [], 0),
  (37, .dup, 1, [], 0),
  (38, .getfield 79, 3, [21, 13, 0], 0),
  (41, .iconst 1, 1, [], 0),
  (42, .iadd, 1, [], 0),
  (43, .putfield 79, 3, [21, 13, 0], 0),
  (46, .iconst 1, 1, [], 0),
  (47, .ireturn, 1, [5], 0)]
/-- 264: HiccupTownModel.readDoes(I)Z -/
def T_X12_readDoes : List mm_E := [(0, .aload_n 0, 1, [], 0),
  (1, .bipush 12, 2, [], 0),
  (3, .invokevirtual 207, 3, [0, 171, 2, 0, 21], 0),
  (6, .ifCond .ne 18, 3, [], 0),
  (9, .aload_n 0, 1, [], 0),
  (10, .bipush 13, 2, [], 0),
  (12, .invokevirtual 207, 3, [0, 171, 2, 0, 21], 0),
  (15, .ifCond .ne 9, 3, [], 0),
  (18, .aload_n 0, 1, [], 0),
  (19, .iconst 1, 1, [], 0),
  (20, .invokevirtual 72, 3, [0, 174, 2, 0, 21], 0),
  (23, .ireturn, 1, [5], 0),
  (24, .aload_n 0, 1, [], 0),
  (25, .getfield 157, 3, [21, 38, 3, 49, 17], 0),
  (28, .iload_n 1, 1, [], 0),
  (29, .aload_n 0, 1, [], 0),
  (30, .bipush 12, 2, [], 0),
  (32, .invokevirtual 207, 3, [0, 171, 2, 0, 21], 0),
  (35, .ifCond .eq 7, 3, [], 0),
  (38, .iconst 4, 1, [], 0),
  (39, .goto 4, 3, [], 0),
  (42, .iconst 5, 1, [], 0),
  (43, .iastore, 1, [], 0),
  (44, .aload_n 0, 1, [], 0),
  (45, .invokevirtual 82, 3, [0, 168, 1, 8, 21], 0),
  (48, .iconst 1, 1, [], 0),
  (49, .ireturn, 1, [5], 0)]
/-- 265: HiccupTownModel.readBookLine()Z -/
def T_X12_readBookLine : List mm_E := [(0, .aload_n 0, 1, [], 0),
  (1, .bipush 14, 2, [], 0),
  (3, .invokevirtual 207, 3, [0, 171, 2, 0, 21], 0),
  (6, .ifCond .eq 8, 3, [], 0),
  (9, .bipush 6, 2, [], 0),
  (11, .goto 4, 3, [], 0),
  (14, .iconst 4, 1, [], 0),
  (15, .istore_n 1, 1, [], 0),
  (16, .iconst 0, 1, [], 0),
  (17, .istore_n 2, 1, [], 0),
  (18, .iload_n 2, 1, [], 0),
  (19, .iconst 3, 1, [], 0),
  (20, .if_icmp .gt 22, 3, [], 0),
  (23, .aload_n 0, 1, [], 0),
  (24, .bipush 7, 2, [], 0),
  (26, .iload_n 2, 1, [], 0),
  (27, .iadd, 1, [], 0),
  (28, .invokevirtual 207, 3, [0, 171, 2, 0, 21], 0),
  (31, .ifCond .eq 5, 3, [], 0),
  (34, .iload_n 2, 1, [], 0),
  (35, .istore_n 1, 1, [], 0),
  (36, .iinc 2 1, 3, [], 0),
  (39, .goto (-21), 3, [], 0),
  (42, .iload_n 1, 1, [], 0),
  (43, .iconst 4, 1, [], 0),
  (44, .if_icmp .ne 44, 3, [], 0),
  (47, .aload_n 0, 1, [], 0),
  (48, .invokevirtual 180, 3, [0, 173, 1, 0, 21], 0),
  (51, .ifCond .ne 9, 3, [], 0),
  (54, .aload_n 0, 1, [], 0),
  (55, .iconst 1, 1, [], 0),
  (56, .invokevirtual 72, 3, [0, 174, 2, 0, 21], 0),
  (59, .ireturn, 1, [5], 0),
  (60, .aload_n 0, 1, [], 0),
  (61, .getfield 113, 3, [21, 19, 3, 42, 7], 0),
  (64, .iconst 4, 1, [], 0),
  (65, .aload_n 0, 1, [], 0),
  (66, .getfield 98, 3, [21, 14, 3, 37, 2], 0),
  (69, .iconst 2, 1, [], 0),
  (70, .iaload, 1, [], 0),
  (71, .aload_n 0, 1, [], 0),
  (72, .getfield 43, 3, [21, 12, 1], 0),
  (75, .invokestatic 176, 3, [0, 180, 4, 0], 0),
  (78, .iconst (-1), 1, [], 0),
  (79, .if_icmp .ne 9, 3, [], 0),
  (82, .aload_n 0, 1, [], 0),
  (83, .iconst 3, 1, [], 0),
  (84, .invokevirtual 72, 3, [0, 174, 2, 0, 21], 0),
  (87, .ireturn, 1, [5], 0),
  (88, .aload_n 0, 1, [], 0),
  (89, .getfield 377, 3, [21, 40, 0], 0),
  (92, .bipush 40, 2, [], 0),
  (94, .if_icmp .ne 9, 3, [], 0),
  (97, .aload_n 0, 1, [], 0),
  (98, .iconst 4, 1, [], 0),
  (99, .invokevirtual 72, 3, [0, 174, 2, 0, 21], 0),
  (102, .ireturn, 1, [5], 0),
  (103, .iconst 2, 1, [], 0),
  (104, .aload_n 0, 1, [], 0),
  (105, .getfield 377, 3, [21, 40, 0], 0),
  (108, .imul, 1, [], 0),
  (109, .istore_n 2, 1, [], 0),
  (110, .aload_n 0, 1, [], 0),
  (111, .getfield 157, 3, [21, 38, 3, 49, 17], 0),
  (114, .iload_n 2, 1, [], 0),
  (115, .iload_n 1, 1, [], 0),
  (116, .iastore, 1, [], 0),
  (117, .aload_n 0, 1, [], 0),
  (118, .getfield 157, 3, [21, 38, 3, 49, 17], 0),
  (121, .iload_n 2, 1, [], 0),
  (122, .iconst 1, 1, [], 0),
  (123, .iadd, 1, [], 0),
  (124, .iload_n 1, 1, [], 0),
  (125, .iconst 4, 1, [], 0),
  (126, .if_icmp .ne 24, 3, [], 0),
  (129, .aload_n 0, 1, [], 0),
  (130, .getfield 113, 3, [21, 19, 3, 42, 7], 0),
  (133, .iconst 4, 1, [], 0),
  (134, .aload_n 0, 1, [], 0),
  (135, .getfield 98, 3, [21, 14, 3, 37, 2], 0),
  (138, .iconst 2, 1, [], 0),
  (139, .iaload, 1, [], 0),
  (140, .aload_n 0, 1, [], 0),
  (141, .getfield 43, 3, [21, 12, 1], 0),
  (144, .invokestatic 176, 3, [0, 180, 4, 0], 0),
  (147, .goto 4, 3, [], 0),
  (150, .iconst 0, 1, [], 0),
  (151, .iastore, 1, [], 0),
  (152, .aload_n 0, 1, [], 0),
  (153, .invokevirtual 82, 3, [0, 168, 1, 8, 21], 0),
  (156, .iload_n 1, 1, [], 0),
  (157, .tableswitch 109 3 6 #[52, 31, 109, 79], 31, [], 0),
  (188, .aload_n 0, 1, [], 0),
  (189, .iload_n 2, 1, [], 0),
  (190, .invokevirtual 380, 3, [0, 264, 2, 0, 21], 0),
  (193, .ifCond .eq 14, 3, [], 0),
  (196, .aload_n 0, 1, [], 0),
  (197, .invokevirtual 240, 3, [0, 176, 1, 0, 21], 0),
  (200, .ifCond .eq 7, 3, [], 0),
  (203, .iconst 1, 1, [], 0),
  (204, .goto 4, 3, [], 0),
  (207, .iconst 0, 1, [], 0),
  (208, .ireturn, 1, [5], 0),
  (209, .aload_n 0, 1, [], 0),
  (210, .iload_n 2, 1, [], 0),
  (211, .iconst 1, 1, [], 0),
  (212, .iadd, 1, [], 0),
  (213, .aload_n 0, 1, [], 0),
  (214, .invokevirtual 383, 3, [0, 263, 1, 0, 21], 0),
  (217, .invokevirtual 386, 3, [0, 261, 3, 0, 21], 0),
  (220, .ifCond .eq 14, 3, [], 0),
  (223, .aload_n 0, 1, [], 0),
  (224, .invokevirtual 240, 3, [0, 176, 1, 0, 21], 0),
  (227, .ifCond .eq 7, 3, [], 0),
  (230, .iconst 1, 1, [], 0),
  (231, .goto 4, 3, [], 0),
  (234, .iconst 0, 1, [], 0),
  (235, .ireturn, 1, [5], 0),
  (236, .aload_n 0, 1, [], 0),
  (237, .iload_n 2, 1, [], 0),
  (238, .iconst 1, 1, [], 0),
  (239, .iadd, 1, [], 0),
  (240, .aload_n 0, 1, [], 0),
  (241, .iconst 1, 1, [], 0),
  (242, .bipush 60, 2, [], 0),
  (244, .invokevirtual 190, 3, [0, 175, 3, 0, 21], 0),
  (247, .invokevirtual 386, 3, [0, 261, 3, 0, 21], 0),
  (250, .ifCond .eq 14, 3, [], 0),
  (253, .aload_n 0, 1, [], 0),
  (254, .invokevirtual 240, 3, [0, 176, 1, 0, 21], 0),
  (257, .ifCond .eq 7, 3, [], 0),
  (260, .iconst 1, 1, [], 0),
  (261, .goto 4, 3, [], 0),
  (264, .iconst 0, 1, [], 0),
  (265, .ireturn, 1, [5], 0),
  (266, .aload_n 0, 1, [], 0),
  (267, .invokevirtual 240, 3, [0, 176, 1, 0, 21], 0),
  (270, .ireturn, 1, [5], 0)]
/-- 266: HiccupTownModel.goBy(I)I -/
def T_X12_goBy : List mm_E := [(0, .aload_n 0, 1, [], 0),
  (1, .getfield 157, 3, [21, 38, 3, 49, 17], 0),
  (4, .iload_n 1, 1, [], 0),
  (5, .iconst 1, 1, [], 0),
  (6, .iadd, 1, [], 0),
  (7, .iaload, 1, [], 0),
  (8, .istore_n 2, 1, [], 0),
  (9, .aload_n 0, 1, [], 0),
  (10, .getfield 157, 3, [21, 38, 3, 49, 17], 0),
  (13, .iload_n 1, 1, [], 0),
  (14, .iaload, 1, [], 0),
  (15, .bipush 6, 2, [], 0),
  (17, .if_icmp .ne 29, 3, [], 0),
  (20, .aload_n 0, 1, [], 0),
  (21, .getfield 98, 3, [21, 14, 3, 37, 2], 0),
  (24, .bipush 48, 2, [], 0),
  (26, .iaload, 1, [], 0),
  (27, .iload_n 2, 1, [], 0),
  (28, .iadd, 1, [], 0),
  (29, .sipush 600, 3, [], 0),
  (32, .if_icmp .le 6, 3, [], 0),
  (35, .bipush 61, 2, [], 0),
  (37, .ireturn, 1, [], 0),
  (38, .aload_n 0, 1, [], 0),
  (39, .iload_n 2, 1, [], 0),
  (40, .invokevirtual 303, 3, [0, 224, 2, 0, 21], 0),
  (43, .pop, 1, [], 0),
  (44, .iconst 0, 1, [], 0),
  (45, .ireturn, 1, [], 0),
  (46, .aload_n 0, 1, [], 0),
  (47, .aload_n 0, 1, [], 0),
  (48, .getfield 157, 3, [21, 38, 3, 49, 17], 0),
  (51, .iload_n 1, 1, [], 0),
  (52, .iaload, 1, [], 0),
  (53, .iload_n 2, 1, [], 0),
  (54, .invokevirtual 280, 3, [0, 211, 3, 0, 21], 0),
  (57, .istore_n 3, 1, [], 0),
  (58, .iload_n 3, 1, [], 0),
  (59, .ifCond .eq 15, 3, [], 0),
  (62, .bipush 10, 2, [], 0),
  (64, .aload_n 0, 1, [], 0),
  (65, .getfield 157, 3, [21, 38, 3, 49, 17], 0),
  (68, .iload_n 1, 1, [], 0),
  (69, .iaload, 1, [], 0),
  (70, .imul, 1, [], 0),
  (71, .iload_n 3, 1, [], 0),
  (72, .iadd, 1, [], 0),
  (73, .ireturn, 1, [], 0),
  (74, .aload_n 0, 1, [], 0),
  (75, .aload_n 0, 1, [], 0),
  (76, .getfield 157, 3, [21, 38, 3, 49, 17], 0),
  (79, .iload_n 1, 1, [], 0),
  (80, .iaload, 1, [], 0),
  (81, .iload_n 2, 1, [], 0),
  (82, .invokevirtual 286, 3, [0, 213, 3, 8, 21], 0),
  (85, .iconst 0, 1, [], 0),
  (86, .ireturn, 1, [], 0)]
/-- 267: HiccupTownModel.book(I)I -/
def T_X12_book : List mm_E := [(0, .aload_n 0, 1, [], 0),
  (1, .iconst 0, 1, [], 0),
  (2, .putfield 1, 3, [21, 0, 0], 0),
  (5, .iload_n 1, 1, [], 0),
  (6, .iconst 0, 1, [], 0),
  (7, .iconst 1, 1, [], 0),
  (8, .invokestatic 75, 3, [0, 160, 3, 0], 0),
  (11, .ifCond .ne 7, 3, [], 0),
  (14, .sipush (-1000), 3, [], 0),
  (17, .ireturn, 1, [], 0),
  (18, .aload_n 0, 1, [], 0),
  (19, .sipush 400, 3, [], 0),
  (22, .invokevirtual 234, 3, [0, 177, 2, 8, 21], 0),
  (25, .aload_n 0, 1, [], 0),
  (26, .iconst 0, 1, [], 0),
  (27, .putfield 377, 3, [21, 40, 0], 0),
  (30, .aload_n 0, 1, [], 0),
  (31, .getfield 30, 3, [21, 7, 0], 0),
  (34, .ifCond .eq 31, 3, [], 0),
  (37, .aload_n 0, 1, [], 0),
  (38, .invokevirtual 389, 3, [0, 265, 1, 0, 21], 0),
  (41, .ifCond .ne 11, 3, [], 0),
  (44, .bipush (-2), 2, [], 0),
  (46, .aload_n 0, 1, [], 0),
  (47, .getfield 69, 3, [21, 11, 0], 0),
  (50, .isub, 1, [], 0),
  (51, .ireturn, 1, [], 0),
  (52, .aload_n 0, 1, [], 0),
  (53, .dup, 1, [], 0),
  (54, .getfield 377, 3, [21, 40, 0], 0),
  (57, .iconst 1, 1, [], 0),
  (58, .iadd, 1, [], 0),
  (59, .putfield 377, 3, [21, 40, 0], 0),
  (62, .goto (-32), 3, [], 0),
  (65, .aload_n 0, 1, [], 0),
  (66, .invokevirtual 309, 3, [0, 229, 1, 8, 21], 0),
  (69, .iconst 0, 1, [], 0),
  (70, .istore_n 2, 1, [], 0),
  (71, .iconst 0, 1, [], 0),
  (72, .istore_n 3, 1, [], 0),
  (73, .iload_n 2, 1, [], 0),
  (74, .aload_n 0, 1, [], 0),
  (75, .getfield 377, 3, [21, 40, 0], 0),
  (78, .if_icmp .ge 25, 3, [], 0),
  (81, .iload_n 3, 1, [], 0),
  (82, .ifCond .ne 21, 3, [], 0),
  (85, .aload_n 0, 1, [], 0),
  (86, .iconst 2, 1, [], 0),
  (87, .iload_n 2, 1, [], 0),
  (88, .imul, 1, [], 0),
  (89, .invokevirtual 392, 3, [0, 266, 2, 0, 21], 0),
  (92, .istore_n 3, 1, [], 0),
  (93, .iload_n 3, 1, [], 0),
  (94, .ifCond .ne (-21), 3, [], 0),
  (97, .iinc 2 1, 3, [], 0),
  (100, .goto (-27), 3, [], 0),
  (103, .aload_n 0, 1, [], 0),
  (104, .getfield 160, 3, [21, 39, 3, 22, 18], 0),
  (107, .iconst 0, 1, [], 0),
  (108, .iload_n 3, 1, [], 0),
  (109, .iastore, 1, [], 0),
  (110, .aload_n 0, 1, [], 0),
  (111, .getfield 160, 3, [21, 39, 3, 22, 18], 0),
  (114, .iconst 1, 1, [], 0),
  (115, .iload_n 2, 1, [], 0),
  (116, .iastore, 1, [], 0),
  (117, .aload_n 0, 1, [], 0),
  (118, .getfield 160, 3, [21, 39, 3, 22, 18], 0),
  (121, .iconst 2, 1, [], 0),
  (122, .aload_n 0, 1, [], 0),
  (123, .getfield 98, 3, [21, 14, 3, 37, 2], 0),
  (126, .bipush 48, 2, [], 0),
  (128, .iaload, 1, [], 0),
  (129, .iastore, 1, [], 0),
  (130, .aload_n 0, 1, [], 0),
  (131, .getfield 160, 3, [21, 39, 3, 22, 18], 0),
  (134, .iconst 3, 1, [], 0),
  (135, .aload_n 0, 1, [], 0),
  (136, .invokevirtual 246, 3, [0, 202, 1, 0, 21], 0),
  (139, .iastore, 1, [], 0),
  (140, .aload_n 0, 1, [], 0),
  (141, .iconst 1, 1, [], 0),
  (142, .putfield 395, 3, [21, 41, 5], 0),
  (145, .aload_n 0, 1, [], 0),
  (146, .iload_n 1, 1, [], 0),
  (147, .iconst 1, 1, [], 0),
  (148, .if_icmp .ne 11, 3, [], 0),
  (151, .iload_n 2, 1, [], 0),
  (152, .ifCond .le 7, 3, [], 0),
  (155, .iconst 1, 1, [], 0),
  (156, .goto 4, 3, [], 0),
  (159, .iconst 0, 1, [], 0),
  (160, .invokevirtual 398, 3, [0, 268, 2, 8, 21], 0),
  (163, .iload_n 3, 1, [], 0),
  (164, .ifCond .ne 7, 3, [], 0),
  (167, .iconst (-1), 1, [], 0),
  (168, .goto 4, 3, [], 0),
  (171, .iload_n 2, 1, [], 0),
  (172, .ireturn, 1, [], 0)]
/-- 268: HiccupTownModel.stay(Z)V -/
def T_X12_stay : List mm_E := [(0, .iconst 0, 1, [], 0),
  (1, .istore_n 2, 1, [], 0),
  (2, .iload_n 2, 1, [], 0),
  (3, .bipush 26, 2, [], 0),
  (5, .if_icmp .ge 41, 3, [], 0),
  (8, .aload_n 0, 1, [], 0),
  (9, .getfield 98, 3, [21, 14, 3, 37, 2], 0),
  (12, .bipush 48, 2, [], 0),
  (14, .iload_n 2, 1, [], 0),
  (15, .iadd, 1, [], 0),
  (16, .iaload, 1, [], 0),
  (17, .istore_n 3, 1, [], 0),
  (18, .aload_n 0, 1, [], 0),
  (19, .getfield 98, 3, [21, 14, 3, 37, 2], 0),
  (22, .bipush 48, 2, [], 0),
  (24, .iload_n 2, 1, [], 0),
  (25, .iadd, 1, [], 0),
  (26, .aload_n 0, 1, [], 0),
  (27, .getfield 110, 3, [21, 18, 3, 41, 6], 0),
  (30, .iload_n 2, 1, [], 0),
  (31, .iaload, 1, [], 0),
  (32, .iastore, 1, [], 0),
  (33, .aload_n 0, 1, [], 0),
  (34, .getfield 110, 3, [21, 18, 3, 41, 6], 0),
  (37, .iload_n 2, 1, [], 0),
  (38, .iload_n 3, 1, [], 0),
  (39, .iastore, 1, [], 0),
  (40, .iinc 2 1, 3, [], 0),
  (43, .goto (-41), 3, [], 0),
  (46, .iload_n 1, 1, [], 0),
  (47, .ifCond .ne 4, 3, [], 0),
  (50, .return_, 1, [], 0),
  (51, .aload_n 0, 1, [], 0),
  (52, .invokevirtual 283, 3, [0, 209, 1, 8, 21], 0),
  (55, .aload_n 0, 1, [], 0),
  (56, .invokevirtual 313, 3, [0, 230, 1, 8, 21], 0),
  (59, .return_, 1, [], 0)]
/-- 269: HiccupTownModel.told(I)I -/
def T_X12_told : List mm_E := [(0, .aload_n 0, 1, [], 0),
  (1, .iconst 0, 1, [], 0),
  (2, .putfield 1, 3, [21, 0, 0], 0),
  (5, .aload_n 0, 1, [], 0),
  (6, .getfield 395, 3, [21, 41, 0], 0),
  (9, .ifCond .eq 21, 3, [], 0),
  (12, .iload_n 1, 1, [], 0),
  (13, .iconst 0, 1, [], 0),
  (14, .iconst 3, 1, [], 0),
  (15, .invokestatic 75, 3, [0, 160, 3, 0], 0),
  (18, .ifCond .eq 12, 3, [], 0),
  (21, .aload_n 0, 1, [], 0),
  (22, .getfield 160, 3, [21, 39, 3, 22, 18], 0),
  (25, .iload_n 1, 1, [], 0),
  (26, .iaload, 1, [], 0),
  (27, .goto 4, 3, [], 0),
  (30, .iconst (-1), 1, [], 0),
  (31, .ireturn, 1, [], 0)]
/-- 270: HiccupTownModel.saysOne(IIII)I -/
def T_X12_saysOne : List mm_E := [(0, .iconst 4, 1, [], 0),
  (1, .aload_n 0, 1, [], 0),
  (2, .getfield 402, 3, [21, 43, 0], 0),
  (5, .imul, 1, [], 0),
  (6, .istore 5, 2, [], 0),
  (8, .aload_n 0, 1, [], 0),
  (9, .getfield 163, 3, [21, 42, 3, 50, 19], 0),
  (12, .iload 5, 2, [], 0),
  (14, .iload_n 1, 1, [], 0),
  (15, .iastore, 1, [], 0),
  (16, .aload_n 0, 1, [], 0),
  (17, .getfield 163, 3, [21, 42, 3, 50, 19], 0),
  (20, .iload 5, 2, [], 0),
  (22, .iconst 1, 1, [], 0),
  (23, .iadd, 1, [], 0),
  (24, .iload_n 2, 1, [], 0),
  (25, .iastore, 1, [], 0),
  (26, .aload_n 0, 1, [], 0),
  (27, .getfield 163, 3, [21, 42, 3, 50, 19], 0),
  (30, .iload 5, 2, [], 0),
  (32, .iconst 2, 1, [], 0),
  (33, .iadd, 1, [], 0),
  (34, .iload_n 3, 1, [], 0),
  (35, .iastore, 1, [], 0),
  (36, .aload_n 0, 1, [], 0),
  (37, .getfield 163, 3, [21, 42, 3, 50, 19], 0),
  (40, .iload 5, 2, [], 0),
  (42, .iconst 3, 1, [], 0),
  (43, .iadd, 1, [], 0),
  (44, .iload 4, 2, [], 0),
  (46, .iastore, 1, [], 0),
  (47, .aload_n 0, 1, [], 0),
  (48, .dup, 1, [], 0),
  (49, .getfield 402, 3, [21, 43, 0], 0),
  (52, .iconst 1, 1, [], 0),
  (53, .iadd, 1, [], 0),
  (54, .putfield 402, 3, [21, 43, 0], 0),
  (57, .aload_n 0, 1, [], 0),
  (58, .getfield 402, 3, [21, 43, 0], 0),
  (61, .iconst 1, 1, [], 0),
  (62, .isub, 1, [], 0),
  (63, .ireturn, 1, [], 0)]
/-- 271: HiccupTownModel.readOr()Z -/
def T_X12_readOr : List mm_E := [(0, .aload_n 0, 1, [], 0),
  (1, .invokevirtual 405, 3, [0, 272, 1, 0, 21], 0),
  (4, .ifCond .ne 5, 3, [], 0),
  (7, .iconst 0, 1, [], 0),
  (8, .ireturn, 1, [5], 0),
  (9, .aload_n 0, 1, [], 0),
  (10, .getfield 408, 3, [21, 46, 0], 0),
  (13, .istore_n 1, 1, [], 0),
  (14, .aload_n 0, 1, [], 0),
  (15, .bipush 15, 2, [], 0),
  (17, .invokevirtual 207, 3, [0, 171, 2, 0, 21], 0),
  (20, .ifCond .eq 31, 3, [], 0),
  (23, .aload_n 0, 1, [], 0),
  (24, .invokevirtual 82, 3, [0, 168, 1, 8, 21], 0),
  (27, .aload_n 0, 1, [], 0),
  (28, .invokevirtual 405, 3, [0, 272, 1, 0, 21], 0),
  (31, .ifCond .ne 5, 3, [], 0),
  (34, .iconst 0, 1, [], 0),
  (35, .ireturn, 1, [5], 0),
  (36, .aload_n 0, 1, [], 0),
  (37, .iconst 3, 1, [], 0),
  (38, .iload_n 1, 1, [], 0),
  (39, .aload_n 0, 1, [], 0),
  (40, .getfield 408, 3, [21, 46, 0], 0),
  (43, .iconst 0, 1, [], 0),
  (44, .invokevirtual 411, 3, [0, 270, 5, 0, 21], 0),
  (47, .istore_n 1, 1, [], 0),
  (48, .goto (-34), 3, [], 0),
  (51, .aload_n 0, 1, [], 0),
  (52, .iload_n 1, 1, [], 0),
  (53, .putfield 408, 3, [21, 46, 0], 0),
  (56, .iconst 1, 1, [], 0),
  (57, .ireturn, 1, [5], 0)]
/-- 272: HiccupTownModel.readAnd()Z -/
def T_X12_readAnd : List mm_E := [(0, .aload_n 0, 1, [], 0),
  (1, .invokevirtual 415, 3, [0, 273, 1, 0, 21], 0),
  (4, .ifCond .ne 5, 3, [], 0),
  (7, .iconst 0, 1, [], 0),
  (8, .ireturn, 1, [5], 0),
  (9, .aload_n 0, 1, [], 0),
  (10, .getfield 408, 3, [21, 46, 0], 0),
  (13, .istore_n 1, 1, [], 0),
  (14, .aload_n 0, 1, [], 0),
  (15, .bipush 16, 2, [], 0),
  (17, .invokevirtual 207, 3, [0, 171, 2, 0, 21], 0),
  (20, .ifCond .eq 31, 3, [], 0),
  (23, .aload_n 0, 1, [], 0),
  (24, .invokevirtual 82, 3, [0, 168, 1, 8, 21], 0),
  (27, .aload_n 0, 1, [], 0),
  (28, .invokevirtual 415, 3, [0, 273, 1, 0, 21], 0),
  (31, .ifCond .ne 5, 3, [], 0),
  (34, .iconst 0, 1, [], 0),
  (35, .ireturn, 1, [5], 0),
  (36, .aload_n 0, 1, [], 0),
  (37, .iconst 2, 1, [], 0),
  (38, .iload_n 1, 1, [], 0),
  (39, .aload_n 0, 1, [], 0),
  (40, .getfield 408, 3, [21, 46, 0], 0),
  (43, .iconst 0, 1, [], 0),
  (44, .invokevirtual 411, 3, [0, 270, 5, 0, 21], 0),
  (47, .istore_n 1, 1, [], 0),
  (48, .goto (-34), 3, [], 0),
  (51, .aload_n 0, 1, [], 0),
  (52, .iload_n 1, 1, [], 0),
  (53, .putfield 408, 3, [21, 46, 0], 0),
  (56, .iconst 1, 1, [], 0),
  (57, .ireturn, 1, [5], 0)]
/-- 273: HiccupTownModel.readSaid()Z -/
def T_X12_readSaid : List mm_E := [(0, .aload_n 0, 1, [], 0),
  (1, .bipush 40, 2, [], 0),
  (3, .invokevirtual 86, 3, [0, 172, 2, 0, 21], 0),
  (6, .istore_n 1, 1, [], 0),
  (7, .bipush 17, 2, [], 0),
  (9, .istore_n 2, 1, [], 0),
  (10, .iload_n 2, 1, [], 0),
  (11, .bipush 25, 2, [], 0),
  (13, .if_icmp .gt 17, 3, [], 0),
  (16, .aload_n 0, 1, [], 0),
  (17, .iload_n 2, 1, [], 0),
  (18, .invokevirtual 207, 3, [0, 171, 2, 0, 21], 0),
  (21, .ifCond .ne 9, 3, [], 0),
  (24, .iinc 2 1, 3, [], 0),
  (27, .goto (-17), 3, [], 0),
  (30, .iload_n 1, 1, [], 0),
  (31, .ifCond .ne 15, 3, [], 0),
  (34, .iload_n 2, 1, [], 0),
  (35, .bipush 25, 2, [], 0),
  (37, .if_icmp .le 9, 3, [], 0),
  (40, .aload_n 0, 1, [], 0),
  (41, .iconst 1, 1, [], 0),
  (42, .invokevirtual 72, 3, [0, 174, 2, 0, 21], 0),
  (45, .ireturn, 1, [5], 0),
  (46, .aload_n 0, 1, [], 0),
  (47, .getfield 418, 3, [21, 44, 0], 0),
  (50, .bipush 20, 2, [], 0),
  (52, .if_icmp .eq 12, 3, [], 0),
  (55, .aload_n 0, 1, [], 0),
  (56, .getfield 421, 3, [21, 45, 0], 0),
  (59, .bipush 8, 2, [], 0),
  (61, .if_icmp .ne 9, 3, [], 0),
  (64, .aload_n 0, 1, [], 0),
  (65, .iconst 4, 1, [], 0),
  (66, .invokevirtual 72, 3, [0, 174, 2, 0, 21], 0),
  (69, .ireturn, 1, [5], 0),
  (70, .aload_n 0, 1, [], 0),
  (71, .dup, 1, [], 0),
  (72, .getfield 418, 3, [21, 44, 0], 0),
  (75, .iconst 1, 1, [], 0),
  (76, .iadd, 1, [], 0),
  (77, .putfield 418, 3, [21, 44, 0], 0),
  (80, .aload_n 0, 1, [], 0),
  (81, .dup, 1, [], 0),
  (82, .getfield 421, 3, [21, 45, 0], 0),
  (85, .iconst 1, 1, [], 0),
  (86, .iadd, 1, [], 0),
  (87, .putfield 421, 3, [21, 45, 0], 0),
  (90, .aload_n 0, 1, [], 0),
  (91, .invokevirtual 82, 3, [0, 168, 1, 8, 21], 0),
  (94, .iconst 1, 1, [], 0),
  (95, .istore_n 3, 1, [], 0),
  (96, .iload_n 1, 1, [], 0),
  (97, .ifCond .eq 11, 3, [], 0),
  (100, .aload_n 0, 1, [], 0),
  (101, .invokevirtual 424, 3, [0, 275, 1, 0, 21], 0),
  (104, .istore_n 3, 1, [], 0),
  (105, .goto 61, 3, [], 0),
  (108, .iload_n 2, 1, [], 0),
  (109, .bipush 17, 2, [], 0),
  (111, .if_icmp .ne 11, 3, [], 0),
  (114, .aload_n 0, 1, [], 0),
  (115, .invokevirtual 427, 3, [0, 274, 1, 0, 21], 0),
  (118, .istore_n 3, 1, [], 0),
  (119, .goto 47, 3, [], 0),
  (122, .iload_n 2, 1, [], 0),
  (123, .bipush 20, 2, [], 0),
  (125, .if_icmp .ge 21, 3, [], 0),
  (128, .aload_n 0, 1, [], 0),
  (129, .aload_n 0, 1, [], 0),
  (130, .bipush 50, 2, [], 0),
  (132, .iload_n 2, 1, [], 0),
  (133, .iadd, 1, [], 0),
  (134, .iconst 0, 1, [], 0),
  (135, .iconst 0, 1, [], 0),
  (136, .iconst 0, 1, [], 0),
  (137, .invokevirtual 411, 3, [0, 270, 5, 0, 21], 0),
  (140, .putfield 408, 3, [21, 46, 0], 0),
  (143, .goto 23, 3, [], 0),
  (146, .iload_n 2, 1, [], 0),
  (147, .bipush 22, 2, [], 0),
  (149, .if_icmp .ge 11, 3, [], 0),
  (152, .aload_n 0, 1, [], 0),
  (153, .iload_n 2, 1, [], 0),
  (154, .invokevirtual 430, 3, [0, 276, 2, 0, 21], 0),
  (157, .goto 8, 3, [], 0),
  (160, .aload_n 0, 1, [], 0),
  (161, .iload_n 2, 1, [], 0),
  (162, .invokevirtual 433, 3, [0, 277, 2, 0, 21], 0),
  (165, .istore_n 3, 1, [], 0),
  (166, .aload_n 0, 1, [], 0),
  (167, .dup, 1, [], 0),
  (168, .getfield 421, 3, [21, 45, 0], 0),
  (171, .iconst 1, 1, [], 0),
  (172, .isub, 1, [], 0),
  (173, .putfield 421, 3, [21, 45, 0], 0),
  (176, .iload_n 3, 1, [], 0),
  (177, .ireturn, 1, [5], 0)]
/-- 274: HiccupTownModel.readNot()Z -/
def T_X12_readNot : List mm_E := [(0, .aload_n 0, 1, [], 0),
  (1, .invokevirtual 415, 3, [0, 273, 1, 0, 21], 0),
  (4, .ifCond .ne 5, 3, [], 0),
  (7, .iconst 0, 1, [], 0),
  (8, .ireturn, 1, [5], 0),
  (9, .aload_n 0, 1, [], 0),
  (10, .aload_n 0, 1, [], 0),
  (11, .iconst 1, 1, [], 0),
  (12, .aload_n 0, 1, [], 0),
  (13, .getfield 408, 3, [21, 46, 0], 0),
  (16, .iconst 0, 1, [], 0),
  (17, .iconst 0, 1, [], 0),
  (18, .invokevirtual 411, 3, [0, 270, 5, 0, 21], 0),
  (21, .putfield 408, 3, [21, 46, 0], 0),
  (24, .iconst 1, 1, [], 0),
  (25, .ireturn, 1, [5], 0)]
/-- 275: HiccupTownModel.readBracket()Z -/
def T_X12_readBracket : List mm_E := [(0, .aload_n 0, 1, [], 0),
  (1, .invokevirtual 436, 3, [0, 271, 1, 0, 21], 0),
  (4, .ifCond .ne 5, 3, [], 0),
  (7, .iconst 0, 1, [], 0),
  (8, .ireturn, 1, [5], 0),
  (9, .aload_n 0, 1, [], 0),
  (10, .bipush 41, 2, [], 0),
  (12, .invokevirtual 86, 3, [0, 172, 2, 0, 21], 0),
  (15, .ifCond .ne 9, 3, [], 0),
  (18, .aload_n 0, 1, [], 0),
  (19, .iconst 1, 1, [], 0),
  (20, .invokevirtual 72, 3, [0, 174, 2, 0, 21], 0),
  (23, .ireturn, 1, [5], 0),
  (24, .aload_n 0, 1, [], 0),
  (25, .invokevirtual 82, 3, [0, 168, 1, 8, 21], 0),
  (28, .iconst 1, 1, [], 0),
  (29, .ireturn, 1, [5], 0)]
/-- 276: HiccupTownModel.readOf(I)Z -/
def T_X12_readOf : List mm_E := [(0, .aload_n 0, 1, [], 0),
  (1, .iload_n 1, 1, [], 0),
  (2, .bipush 20, 2, [], 0),
  (4, .if_icmp .ne 8, 3, [], 0),
  (7, .bipush 11, 2, [], 0),
  (9, .goto 4, 3, [], 0),
  (12, .iconst 4, 1, [], 0),
  (13, .aload_n 0, 1, [], 0),
  (14, .getfield 98, 3, [21, 14, 3, 37, 2], 0),
  (17, .iload_n 1, 1, [], 0),
  (18, .bipush 20, 2, [], 0),
  (20, .if_icmp .ne 7, 3, [], 0),
  (23, .iconst 3, 1, [], 0),
  (24, .goto 4, 3, [], 0),
  (27, .iconst 2, 1, [], 0),
  (28, .iaload, 1, [], 0),
  (29, .invokevirtual 374, 3, [0, 262, 3, 0, 21], 0),
  (32, .ifCond .ne 5, 3, [], 0),
  (35, .iconst 0, 1, [], 0),
  (36, .ireturn, 1, [5], 0),
  (37, .aload_n 0, 1, [], 0),
  (38, .aload_n 0, 1, [], 0),
  (39, .bipush 50, 2, [], 0),
  (41, .iload_n 1, 1, [], 0),
  (42, .iadd, 1, [], 0),
  (43, .aload_n 0, 1, [], 0),
  (44, .getfield 79, 3, [21, 13, 0], 0),
  (47, .iconst 0, 1, [], 0),
  (48, .iconst 0, 1, [], 0),
  (49, .invokevirtual 411, 3, [0, 270, 5, 0, 21], 0),
  (52, .putfield 408, 3, [21, 46, 0], 0),
  (55, .iconst 1, 1, [], 0),
  (56, .ireturn, 1, [5], 0)]
/-- 277: HiccupTownModel.readCompare(I)Z -/
def T_X12_readCompare : List mm_E := [(0, .aload_n 0, 1, [], 0),
  (1, .bipush 60, 2, [], 0),
  (3, .invokevirtual 86, 3, [0, 172, 2, 0, 21], 0),
  (6, .ifCond .ne 27, 3, [], 0),
  (9, .aload_n 0, 1, [], 0),
  (10, .bipush 61, 2, [], 0),
  (12, .invokevirtual 86, 3, [0, 172, 2, 0, 21], 0),
  (15, .ifCond .ne 18, 3, [], 0),
  (18, .aload_n 0, 1, [], 0),
  (19, .bipush 62, 2, [], 0),
  (21, .invokevirtual 86, 3, [0, 172, 2, 0, 21], 0),
  (24, .ifCond .ne 9, 3, [], 0),
  (27, .aload_n 0, 1, [], 0),
  (28, .iconst 1, 1, [], 0),
  (29, .invokevirtual 72, 3, [0, 174, 2, 0, 21], 0),
  (32, .ireturn, 1, [5], 0),
  (33, .aload_n 0, 1, [], 0),
  (34, .getfield 40, 3, [21, 9, 0], 0),
  (37, .istore_n 2, 1, [], 0),
  (38, .aload_n 0, 1, [], 0),
  (39, .invokevirtual 82, 3, [0, 168, 1, 8, 21], 0),
  (42, .aload_n 0, 1, [], 0),
  (43, .iconst 0, 1, [], 0),
  (44, .sipush 999, 3, [], 0),
  (47, .invokevirtual 190, 3, [0, 175, 3, 0, 21], 0),
  (50, .ifCond .ne 5, 3, [], 0),
  (53, .iconst 0, 1, [], 0),
  (54, .ireturn, 1, [5], 0),
  (55, .aload_n 0, 1, [], 0),
  (56, .aload_n 0, 1, [], 0),
  (57, .bipush 50, 2, [], 0),
  (59, .iload_n 1, 1, [], 0),
  (60, .iadd, 1, [], 0),
  (61, .iconst 0, 1, [], 0),
  (62, .aload_n 0, 1, [], 0),
  (63, .getfield 79, 3, [21, 13, 0], 0),
  (66, .iload_n 2, 1, [], 0),
  (67, .invokevirtual 411, 3, [0, 270, 5, 0, 21], 0),
  (70, .putfield 408, 3, [21, 46, 0], 0),
  (73, .iconst 1, 1, [], 0),
  (74, .ireturn, 1, [5], 0)]
/-- 278: HiccupTownModel.sentence()I -/
def T_X12_sentence : List mm_E := [(0, .aload_n 0, 1, [], 0),
  (1, .sipush 200, 3, [], 0),
  (4, .invokevirtual 234, 3, [0, 177, 2, 8, 21], 0),
  (7, .aload_n 0, 1, [], 0),
  (8, .iconst 0, 1, [], 0),
  (9, .putfield 402, 3, [21, 43, 0], 0),
  (12, .aload_n 0, 1, [], 0),
  (13, .iconst 0, 1, [], 0),
  (14, .putfield 418, 3, [21, 44, 0], 0),
  (17, .aload_n 0, 1, [], 0),
  (18, .iconst 0, 1, [], 0),
  (19, .putfield 421, 3, [21, 45, 0], 0),
  (22, .aload_n 0, 1, [], 0),
  (23, .invokevirtual 436, 3, [0, 271, 1, 0, 21], 0),
  (26, .ifCond .ne 10, 3, [], 0),
  (29, .iconst (-1), 1, [], 0),
  (30, .aload_n 0, 1, [], 0),
  (31, .getfield 69, 3, [21, 11, 0], 0),
  (34, .isub, 1, [], 0),
  (35, .ireturn, 1, [], 0),
  (36, .aload_n 0, 1, [], 0),
  (37, .getfield 30, 3, [21, 7, 0], 0),
  (40, .ifCond .eq 16, 3, [], 0),
  (43, .aload_n 0, 1, [], 0),
  (44, .iconst 1, 1, [], 0),
  (45, .invokevirtual 72, 3, [0, 174, 2, 0, 21], 0),
  (48, .pop, 1, [], 0),
  (49, .iconst (-1), 1, [], 0),
  (50, .aload_n 0, 1, [], 0),
  (51, .getfield 69, 3, [21, 11, 0], 0),
  (54, .isub, 1, [], 0),
  (55, .ireturn, 1, [], 0),
  (56, .aload_n 0, 1, [], 0),
  (57, .getfield 98, 3, [21, 14, 3, 37, 2], 0),
  (60, .bipush 74, 2, [], 0),
  (62, .iconst 1, 1, [], 0),
  (63, .iastore, 1, [], 0),
  (64, .aload_n 0, 1, [], 0),
  (65, .getfield 98, 3, [21, 14, 3, 37, 2], 0),
  (68, .bipush 75, 2, [], 0),
  (70, .aload_n 0, 1, [], 0),
  (71, .getfield 408, 3, [21, 46, 0], 0),
  (74, .iastore, 1, [], 0),
  (75, .iconst 0, 1, [], 0),
  (76, .istore_n 1, 1, [], 0),
  (77, .iload_n 1, 1, [], 0),
  (78, .sipush 240, 3, [], 0),
  (81, .if_icmp .ge 24, 3, [], 0),
  (84, .aload_n 0, 1, [], 0),
  (85, .getfield 98, 3, [21, 14, 3, 37, 2], 0),
  (88, .bipush 76, 2, [], 0),
  (90, .iload_n 1, 1, [], 0),
  (91, .iadd, 1, [], 0),
  (92, .aload_n 0, 1, [], 0),
  (93, .getfield 163, 3, [21, 42, 3, 50, 19], 0),
  (96, .iload_n 1, 1, [], 0),
  (97, .iaload, 1, [], 0),
  (98, .iastore, 1, [], 0),
  (99, .iinc 1 1, 3, [], 0),
  (102, .goto (-25), 3, [], 0),
  (105, .aload_n 0, 1, [], 0),
  (106, .getfield 418, 3, [21, 44, 0], 0),
  (109, .ireturn, 1, [], 0)]
/-- 279: HiccupTownModel.holds(II)Z -/
def T_X12_holds : List mm_E := [(0, .bipush 76, 2, [], 0),
  (2, .iconst 4, 1, [], 0),
  (3, .iload_n 1, 1, [], 0),
  (4, .imul, 1, [], 0),
  (5, .iadd, 1, [], 0),
  (6, .istore_n 3, 1, [], 0),
  (7, .aload_n 0, 1, [], 0),
  (8, .getfield 98, 3, [21, 14, 3, 37, 2], 0),
  (11, .iload_n 3, 1, [], 0),
  (12, .iconst 1, 1, [], 0),
  (13, .iadd, 1, [], 0),
  (14, .iaload, 1, [], 0),
  (15, .istore 4, 2, [], 0),
  (17, .aload_n 0, 1, [], 0),
  (18, .getfield 98, 3, [21, 14, 3, 37, 2], 0),
  (21, .iload_n 3, 1, [], 0),
  (22, .iconst 2, 1, [], 0),
  (23, .iadd, 1, [], 0),
  (24, .iaload, 1, [], 0),
  (25, .istore 5, 2, [], 0),
  (27, .aload_n 0, 1, [], 0),
  (28, .getfield 98, 3, [21, 14, 3, 37, 2], 0),
  (31, .iload_n 3, 1, [], 0),
  (32, .iaload, 1, [], 0),
  (33, .lookupswitch 203 #[(1, 67), (2, 83), (3, 109), (68, 135), (69, 141), (70, 147), (71, 175)], 67, [], 0),
  (100, .aload_n 0, 1, [], 0),
  (101, .iload 4, 2, [], 0),
  (103, .iload_n 2, 1, [], 0),
  (104, .invokevirtual 439, 3, [0, 279, 3, 0, 21], 0),
  (107, .ifCond .ne 7, 3, [], 0),
  (110, .iconst 1, 1, [], 0),
  (111, .goto 4, 3, [], 0),
  (114, .iconst 0, 1, [], 0),
  (115, .ireturn, 1, [5], 0),
  (116, .aload_n 0, 1, [], 0),
  (117, .iload 4, 2, [], 0),
  (119, .iload_n 2, 1, [], 0),
  (120, .invokevirtual 439, 3, [0, 279, 3, 0, 21], 0),
  (123, .ifCond .eq 17, 3, [], 0),
  (126, .aload_n 0, 1, [], 0),
  (127, .iload 5, 2, [], 0),
  (129, .iload_n 2, 1, [], 0),
  (130, .invokevirtual 439, 3, [0, 279, 3, 0, 21], 0),
  (133, .ifCond .eq 7, 3, [], 0),
  (136, .iconst 1, 1, [], 0),
  (137, .goto 4, 3, [], 0),
  (140, .iconst 0, 1, [], 0),
  (141, .ireturn, 1, [5], 0),
  (142, .aload_n 0, 1, [], 0),
  (143, .iload 4, 2, [], 0),
  (145, .iload_n 2, 1, [], 0),
  (146, .invokevirtual 439, 3, [0, 279, 3, 0, 21], 0),
  (149, .ifCond .ne 13, 3, [], 0),
  (152, .aload_n 0, 1, [], 0),
  (153, .iload 5, 2, [], 0),
  (155, .iload_n 2, 1, [], 0),
  (156, .invokevirtual 439, 3, [0, 279, 3, 0, 21], 0),
  (159, .ifCond .eq 7, 3, [], 0),
  (162, .iconst 1, 1, [], 0),
  (163, .goto 4, 3, [], 0),
  (166, .iconst 0, 1, [], 0),
  (167, .ireturn, 1, [5], 0),
  (168, .aload_n 0, 1, [], 0),
  (169, .iload_n 2, 1, [], 0),
  (170, .invokevirtual 249, 3, [0, 200, 2, 0, 21], 0),
  (173, .ireturn, 1, [5], 0),
  (174, .aload_n 0, 1, [], 0),
  (175, .iload_n 2, 1, [], 0),
  (176, .invokevirtual 261, 3, [0, 204, 2, 0, 21], 0),
  (179, .ireturn, 1, [5], 0),
  (180, .aload_n 0, 1, [], 0),
  (181, .getfield 98, 3, [21, 14, 3, 37, 2], 0),
  (184, .bipush 25, 2, [], 0),
  (186, .iload 4, 2, [], 0),
  (188, .iadd, 1, [], 0),
  (189, .iaload, 1, [], 0),
  (190, .aload_n 0, 1, [], 0),
  (191, .getfield 98, 3, [21, 14, 3, 37, 2], 0),
  (194, .bipush 54, 2, [], 0),
  (196, .iload_n 2, 1, [], 0),
  (197, .iadd, 1, [], 0),
  (198, .iaload, 1, [], 0),
  (199, .if_icmp .ne 7, 3, [], 0),
  (202, .iconst 1, 1, [], 0),
  (203, .goto 4, 3, [], 0),
  (206, .iconst 0, 1, [], 0),
  (207, .ireturn, 1, [5], 0),
  (208, .aload_n 0, 1, [], 0),
  (209, .getfield 98, 3, [21, 14, 3, 37, 2], 0),
  (212, .bipush 54, 2, [], 0),
  (214, .iload 4, 2, [], 0),
  (216, .iadd, 1, [], 0),
  (217, .iaload, 1, [], 0),
  (218, .aload_n 0, 1, [], 0),
  (219, .getfield 98, 3, [21, 14, 3, 37, 2], 0),
  (222, .bipush 54, 2, [], 0),
  (224, .iload_n 2, 1, [], 0),
  (225, .iadd, 1, [], 0),
  (226, .iaload, 1, [], 0),
  (227, .if_icmp .ne 7, 3, [], 0),
  (230, .iconst 1, 1, [], 0),
  (231, .goto 4, 3, [], 0),
  (234, .iconst 0, 1, [], 0),
  (235, .ireturn, 1, [5], 0),
  (236, .aload_n 0, 1, [], 0),
  (237, .getfield 98, 3, [21, 14, 3, 37, 2], 0),
  (240, .iload_n 3, 1, [], 0),
  (241, .iaload, 1, [], 0),
  (242, .bipush 50, 2, [], 0),
  (244, .isub, 1, [], 0),
  (245, .istore 6, 2, [], 0),
  (247, .iload 6, 2, [], 0),
  (249, .bipush 22, 2, [], 0),
  (251, .if_icmp .ne 15, 3, [], 0),
  (254, .aload_n 0, 1, [], 0),
  (255, .getfield 98, 3, [21, 14, 3, 37, 2], 0),
  (258, .bipush 54, 2, [], 0),
  (260, .iload_n 2, 1, [], 0),
  (261, .iadd, 1, [], 0),
  (262, .iaload, 1, [], 0),
  (263, .goto 42, 3, [], 0),
  (266, .iload 6, 2, [], 0),
  (268, .bipush 23, 2, [], 0),
  (270, .if_icmp .ne 15, 3, [], 0),
  (273, .aload_n 0, 1, [], 0),
  (274, .getfield 98, 3, [21, 14, 3, 37, 2], 0),
  (277, .bipush 17, 2, [], 0),
  (279, .iload_n 2, 1, [], 0),
  (280, .iadd, 1, [], 0),
  (281, .iaload, 1, [], 0),
  (282, .goto 23, 3, [], 0),
  (285, .iload 6, 2, [], 0),
  (287, .bipush 24, 2, [], 0),
  (289, .if_icmp .ne 15, 3, [], 0),
  (292, .aload_n 0, 1, [], 0),
  (293, .getfield 98, 3, [21, 14, 3, 37, 2], 0),
  (296, .bipush 61, 2, [], 0),
  (298, .iload_n 2, 1, [], 0),
  (299, .iadd, 1, [], 0),
  (300, .iaload, 1, [], 0),
  (301, .goto 4, 3, [], 0),
  (304, .iload_n 2, 1, [], 0),
  (305, .istore 7, 2, [], 0),
  (307, .aload_n 0, 1, [], 0),
  (308, .getfield 98, 3, [21, 14, 3, 37, 2], 0),
  (311, .iload_n 3, 1, [], 0),
  (312, .iconst 3, 1, [], 0),
  (313, .iadd, 1, [], 0),
  (314, .iaload, 1, [], 0),
  (315, .bipush 60, 2, [], 0),
  (317, .if_icmp .ne 18, 3, [], 0),
  (320, .iload 7, 2, [], 0),
  (322, .iload 5, 2, [], 0),
  (324, .if_icmp .ge 7, 3, [], 0),
  (327, .iconst 1, 1, [], 0),
  (328, .goto 47, 3, [], 0),
  (331, .iconst 0, 1, [], 0),
  (332, .goto 43, 3, [], 0),
  (335, .aload_n 0, 1, [], 0),
  (336, .getfield 98, 3, [21, 14, 3, 37, 2], 0),
  (339, .iload_n 3, 1, [], 0),
  (340, .iconst 3, 1, [], 0),
  (341, .iadd, 1, [], 0),
  (342, .iaload, 1, [], 0),
  (343, .bipush 61, 2, [], 0),
  (345, .if_icmp .ne 18, 3, [], 0),
  (348, .iload 7, 2, [], 0),
  (350, .iload 5, 2, [], 0),
  (352, .if_icmp .ne 7, 3, [], 0),
  (355, .iconst 1, 1, [], 0),
  (356, .goto 19, 3, [], 0),
  (359, .iconst 0, 1, [], 0),
  (360, .goto 15, 3, [], 0),
  (363, .iload 7, 2, [], 0),
  (365, .iload 5, 2, [], 0),
  (367, .if_icmp .le 7, 3, [], 0),
  (370, .iconst 1, 1, [], 0),
  (371, .goto 4, 3, [], 0),
  (374, .iconst 0, 1, [], 0),
  (375, .ireturn, 1, [5], 0)]
/-- 280: HiccupTownModel.said(I)I -/
def T_X12_said : List mm_E := [(0, .aload_n 0, 1, [], 0),
  (1, .iconst 0, 1, [], 0),
  (2, .putfield 1, 3, [21, 0, 0], 0),
  (5, .aload_n 0, 1, [], 0),
  (6, .getfield 98, 3, [21, 14, 3, 37, 2], 0),
  (9, .bipush 74, 2, [], 0),
  (11, .iaload, 1, [], 0),
  (12, .ifCond .ne 5, 3, [], 0),
  (15, .iconst (-1), 1, [], 0),
  (16, .ireturn, 1, [], 0),
  (17, .iconst 0, 1, [], 0),
  (18, .istore_n 2, 1, [], 0),
  (19, .iconst 0, 1, [], 0),
  (20, .istore_n 3, 1, [], 0),
  (21, .iload_n 3, 1, [], 0),
  (22, .aload_n 0, 1, [], 0),
  (23, .getfield 98, 3, [21, 14, 3, 37, 2], 0),
  (26, .iconst 2, 1, [], 0),
  (27, .iaload, 1, [], 0),
  (28, .if_icmp .ge 37, 3, [], 0),
  (31, .aload_n 0, 1, [], 0),
  (32, .aload_n 0, 1, [], 0),
  (33, .getfield 98, 3, [21, 14, 3, 37, 2], 0),
  (36, .bipush 75, 2, [], 0),
  (38, .iaload, 1, [], 0),
  (39, .iload_n 3, 1, [], 0),
  (40, .invokevirtual 439, 3, [0, 279, 3, 0, 21], 0),
  (43, .ifCond .ne 6, 3, [], 0),
  (46, .goto 13, 3, [], 0),
  (49, .iload_n 2, 1, [], 0),
  (50, .iload_n 1, 1, [], 0),
  (51, .if_icmp .ne 5, 3, [], 0),
  (54, .iload_n 3, 1, [], 0),
  (55, .ireturn, 1, [], 0),
  (56, .iinc 2 1, 3, [], 0),
  (59, .iinc 3 1, 3, [], 0),
  (62, .goto (-41), 3, [], 0),
  (65, .iload_n 1, 1, [], 0),
  (66, .iconst (-1), 1, [], 0),
  (67, .if_icmp .ne 7, 3, [], 0),
  (70, .iload_n 2, 1, [], 0),
  (71, .goto 4, 3, [], 0),
  (74, .iconst (-1), 1, [], 0),
  (75, .ireturn, 1, [], 0)]
/-- 281: HiccupTownModel.image(I)Z -/
def T_X12_image : List mm_E := [(0, .aload_n 0, 1, [], 0),
  (1, .iconst 0, 1, [], 0),
  (2, .putfield 1, 3, [21, 0, 0], 0),
  (5, .iload_n 1, 1, [], 0),
  (6, .iconst 0, 1, [], 0),
  (7, .iconst 1, 1, [], 0),
  (8, .invokestatic 75, 3, [0, 160, 3, 0], 0),
  (11, .ifCond .ne 5, 3, [], 0),
  (14, .iconst 0, 1, [], 0),
  (15, .ireturn, 1, [5], 0),
  (16, .iconst 0, 1, [], 0),
  (17, .istore_n 2, 1, [], 0),
  (18, .iload_n 2, 1, [], 0),
  (19, .sipush 316, 3, [], 0),
  (22, .if_icmp .ge 27, 3, [], 0),
  (25, .aload_n 0, 1, [], 0),
  (26, .getfield 104, 3, [21, 16, 3, 39, 4], 0),
  (29, .sipush 316, 3, [], 0),
  (32, .iload_n 1, 1, [], 0),
  (33, .imul, 1, [], 0),
  (34, .iload_n 2, 1, [], 0),
  (35, .iadd, 1, [], 0),
  (36, .aload_n 0, 1, [], 0),
  (37, .getfield 98, 3, [21, 14, 3, 37, 2], 0),
  (40, .iload_n 2, 1, [], 0),
  (41, .iaload, 1, [], 0),
  (42, .iastore, 1, [], 0),
  (43, .iinc 2 1, 3, [], 0),
  (46, .goto (-28), 3, [], 0),
  (49, .iconst 0, 1, [], 0),
  (50, .istore_n 2, 1, [], 0),
  (51, .iload_n 2, 1, [], 0),
  (52, .bipush 22, 2, [], 0),
  (54, .if_icmp .ge 26, 3, [], 0),
  (57, .aload_n 0, 1, [], 0),
  (58, .getfield 120, 3, [21, 21, 3, 43, 9], 0),
  (61, .bipush 22, 2, [], 0),
  (63, .iload_n 1, 1, [], 0),
  (64, .imul, 1, [], 0),
  (65, .iload_n 2, 1, [], 0),
  (66, .iadd, 1, [], 0),
  (67, .aload_n 0, 1, [], 0),
  (68, .getfield 113, 3, [21, 19, 3, 42, 7], 0),
  (71, .iload_n 2, 1, [], 0),
  (72, .laload, 1, [], 0),
  (73, .lastore, 1, [], 0),
  (74, .iinc 2 1, 3, [], 0),
  (77, .goto (-26), 3, [], 0),
  (80, .aload_n 0, 1, [], 0),
  (81, .getfield 123, 3, [21, 22, 3, 44, 10], 0),
  (84, .iload_n 1, 1, [], 0),
  (85, .iconst 1, 1, [], 0),
  (86, .bastore, 1, [], 0),
  (87, .iconst 1, 1, [], 0),
  (88, .ireturn, 1, [5], 0)]
/-- 282: HiccupTownModel.restore(I)Z -/
def T_X12_restore : List mm_E := [(0, .aload_n 0, 1, [], 0),
  (1, .iconst 0, 1, [], 0),
  (2, .putfield 1, 3, [21, 0, 0], 0),
  (5, .iload_n 1, 1, [], 0),
  (6, .iconst 0, 1, [], 0),
  (7, .iconst 1, 1, [], 0),
  (8, .invokestatic 75, 3, [0, 160, 3, 0], 0),
  (11, .ifCond .eq 12, 3, [], 0),
  (14, .aload_n 0, 1, [], 0),
  (15, .getfield 123, 3, [21, 22, 3, 44, 10], 0),
  (18, .iload_n 1, 1, [], 0),
  (19, .baload, 1, [], 0),
  (20, .ifCond .ne 5, 3, [], 0),
  (23, .iconst 0, 1, [], 0),
  (24, .ireturn, 1, [5], 0),
  (25, .iconst 0, 1, [], 0),
  (26, .istore_n 2, 1, [], 0),
  (27, .iload_n 2, 1, [], 0),
  (28, .sipush 316, 3, [], 0),
  (31, .if_icmp .ge 27, 3, [], 0),
  (34, .aload_n 0, 1, [], 0),
  (35, .getfield 98, 3, [21, 14, 3, 37, 2], 0),
  (38, .iload_n 2, 1, [], 0),
  (39, .aload_n 0, 1, [], 0),
  (40, .getfield 104, 3, [21, 16, 3, 39, 4], 0),
  (43, .sipush 316, 3, [], 0),
  (46, .iload_n 1, 1, [], 0),
  (47, .imul, 1, [], 0),
  (48, .iload_n 2, 1, [], 0),
  (49, .iadd, 1, [], 0),
  (50, .iaload, 1, [], 0),
  (51, .iastore, 1, [], 0),
  (52, .iinc 2 1, 3, [], 0),
  (55, .goto (-28), 3, [], 0),
  (58, .iconst 0, 1, [], 0),
  (59, .istore_n 2, 1, [], 0),
  (60, .iload_n 2, 1, [], 0),
  (61, .bipush 22, 2, [], 0),
  (63, .if_icmp .ge 26, 3, [], 0),
  (66, .aload_n 0, 1, [], 0),
  (67, .getfield 113, 3, [21, 19, 3, 42, 7], 0),
  (70, .iload_n 2, 1, [], 0),
  (71, .aload_n 0, 1, [], 0),
  (72, .getfield 120, 3, [21, 21, 3, 43, 9], 0),
  (75, .bipush 22, 2, [], 0),
  (77, .iload_n 1, 1, [], 0),
  (78, .imul, 1, [], 0),
  (79, .iload_n 2, 1, [], 0),
  (80, .iadd, 1, [], 0),
  (81, .laload, 1, [], 0),
  (82, .lastore, 1, [], 0),
  (83, .iinc 2 1, 3, [], 0),
  (86, .goto (-26), 3, [], 0),
  (89, .aload_n 0, 1, [], 0),
  (90, .iconst 0, 1, [], 0),
  (91, .putfield 243, 3, [21, 24, 0], 0),
  (94, .iconst 1, 1, [], 0),
  (95, .ireturn, 1, [5], 0)]
/-- 283: HiccupTownModel.count(I)I -/
def T_X12_count : List mm_E := [(0, .aload_n 0, 1, [], 0),
  (1, .iconst 0, 1, [], 0),
  (2, .putfield 1, 3, [21, 0, 0], 0),
  (5, .iload_n 1, 1, [], 0),
  (6, .tableswitch 78 0 5 #[38, 45, 52, 59, 66, 73], 38, [], 0),
  (44, .aload_n 0, 1, [], 0),
  (45, .getfield 98, 3, [21, 14, 3, 37, 2], 0),
  (48, .iconst 0, 1, [], 0),
  (49, .iaload, 1, [], 0),
  (50, .ireturn, 1, [], 0),
  (51, .aload_n 0, 1, [], 0),
  (52, .getfield 98, 3, [21, 14, 3, 37, 2], 0),
  (55, .iconst 1, 1, [], 0),
  (56, .iaload, 1, [], 0),
  (57, .ireturn, 1, [], 0),
  (58, .aload_n 0, 1, [], 0),
  (59, .getfield 98, 3, [21, 14, 3, 37, 2], 0),
  (62, .iconst 2, 1, [], 0),
  (63, .iaload, 1, [], 0),
  (64, .ireturn, 1, [], 0),
  (65, .aload_n 0, 1, [], 0),
  (66, .getfield 98, 3, [21, 14, 3, 37, 2], 0),
  (69, .iconst 3, 1, [], 0),
  (70, .iaload, 1, [], 0),
  (71, .ireturn, 1, [], 0),
  (72, .aload_n 0, 1, [], 0),
  (73, .getfield 98, 3, [21, 14, 3, 37, 2], 0),
  (76, .iconst 4, 1, [], 0),
  (77, .iaload, 1, [], 0),
  (78, .ireturn, 1, [], 0),
  (79, .aload_n 0, 1, [], 0),
  (80, .getfield 11, 3, [21, 2, 0], 0),
  (83, .ireturn, 1, [], 0),
  (84, .iconst (-1), 1, [], 0),
  (85, .ireturn, 1, [], 0)]
def mm_tab : List (List mm_E × Nat) := [(T_X0_readBook, 4),
  (T_X0_readLine, 6),
  (T_X0_isAct, 1),
  (T_X0_actOf, 1),
  (T_X0_readRelieve, 4),
  (T_X0_readWalk, 3),
  (T_X0_add, 3),
  (T_X0_live, 5),
  (T_X0_tell, 2),
  (T_X1_judge, 5),
  (T_X1_arePairs, 3),
  (T_X1_leavesRests, 5),
  (T_X1_keepBounds, 2),
  (T_X1_thingToLookAt, 6),
  (T_X1_mostLeftBy, 6),
  (T_X2_begin, 3),
  (T_X2_copyFrom, 2),
  (T_X2_isOut, 2),
  (T_X2_isDone, 2),
  (T_X2_secondsLeft, 1),
  (T_X2_doneWorks, 4),
  (T_X2_openWorks, 5),
  (T_X2_howWorkIs, 3),
  (T_X2_isBusy, 5),
  (T_X2_placeBehind, 4),
  (T_X2_somebodyWalksAt, 4),
  (T_X2_act, 4),
  (T_X2_takeFright, 2),
  (T_X2_takeCure, 1),
  (T_X2_takeFly, 1),
  (T_X2_changeBeater, 3),
  (T_X2_goOut, 2),
  (T_X2_comeIn, 3),
  (T_X2_passAll, 4),
  (T_X2_passSecond, 2),
  (T_X2_beat, 4),
  (T_X2_secondsTillDone, 5),
  (T_X2_secondsTillFree, 5),
  (T_X2_passDrawn, 7),
  (T_X2_passDrawnSecond, 6),
  (T_X2_leaveOrJoin, 3),
  (T_X2_stir, 1),
  (T_X2_drawOf, 2),
  (T_X2_votesBehindRound, 5),
  (T_X2_votesBehind, 6),
  (T_X2_willBeNear, 5),
  (T_X3_forget, 1),
  (T_X3_keep, 2),
  (T_X3_takeBack, 2),
  (T_X4_clear, 2),
  (T_X4_copyFrom, 2),
  (T_X4_has, 3),
  (T_X4_isFull, 2),
  (T_X4_beaters, 1),
  (T_X4_mayBeat, 2),
  (T_X4_gapOf, 2),
  (T_X4_addName, 5),
  (T_X4_nameOf, 3),
  (T_X4_numberOf, 5),
  (T_X4_knows, 4),
  (T_X4_placeOn, 3),
  (T_X5_countFor, 6),
  (T_X5_waysWithOneMore, 7),
  (T_X5_keepFirst, 7),
  (T_X5_leastBeater, 6),
  (T_X6_begin, 2),
  (T_X6_copyFrom, 2),
  (T_X7_clear, 1),
  (T_X7_isTold, 1),
  (T_X7_copyFrom, 3),
  (T_X7_readSentence, 3),
  (T_X7_readCond, 5),
  (T_X7_readAll, 5),
  (T_X7_readOne, 6),
  (T_X7_beginsOne, 1),
  (T_X7_readCompared, 5),
  (T_X7_add, 4),
  (T_X7_holds, 7),
  (T_X7_holdsAlone, 6),
  (T_X7_measure, 4),
  (T_X7_compares, 3),
  (T_X8_append, 3),
  (T_X8_get, 2),
  (T_X8_beginText, 2),
  (T_X8_advance, 1),
  (T_X8_skipBlanks, 1),
  (T_X8_readToken, 4),
  (T_X8_joinLetters, 2),
  (T_X8_joinDigits, 2),
  (T_X8_failAt, 3),
  (T_X8_fail, 2),
  (T_X8_take, 2),
  (T_X8_takeNumber, 4),
  (T_X8_takeOneOf, 4),
  (T_X9_readTown, 3),
  (T_X9_readLine, 3),
  (T_X9_readRing, 3),
  (T_X9_readGap, 3),
  (T_X9_readNewOne, 4),
  (T_X9_readCousin, 4),
  (T_X9_readPerson, 5),
  (T_X9_readWork, 5),
  (T_X9_readAfter, 5),
  (T_X9_readThing, 4),
  (T_X10_find, 7),
  (T_X11_feed, 6),
  (T_X11_end, 2),
  (T_X11_town, 2),
  (T_X11_fault, 1),
  (T_X11_work, 3),
  (T_X11_gap, 2),
  (T_X11_now, 2),
  (T_X11_fright, 1),
  (T_X11_cure, 1),
  (T_X11_fly, 1),
  (T_X11_relieve, 2),
  (T_X11_leave, 2),
  (T_X11_join, 2),
  (T_X11_seconds, 3),
  (T_X11_undo, 1),
  (T_X11_at, 3),
  (T_X11_meet, 4),
  (T_X11_when, 2),
  (T_X11_once, 6),
  (T_X11_stood, 2),
  (T_X11_stoodLeast, 1),
  (T_X11_stoodMost, 1),
  (T_X11_next, 1),
  (T_X11_rows, 3),
  (T_X11_rowAt, 2),
  (T_X11_swift, 6),
  (T_X11_joins, 2),
  (T_X11_vote, 3),
  (T_X11_voted, 1),
  (T_X11_tag, 2),
  (T_X11_byteAt, 2),
  (T_X11_drawn, 4),
  (T_X11_odds, 6),
  (T_X11_book, 3),
  (T_X11_told, 2),
  (T_X11_sentence, 1),
  (T_X11_said, 4),
  (T_X11_image, 2),
  (T_X11_restore, 2),
  (T_X11_count, 2),
  (T_X11_endText, 1),
  (T_X11_actKept, 4),
  (T_X11_keepBefore, 2),
  (T_X11_tagByte, 2),
  (T_X11_tagName, 5),
  (T_X11_tagText, 3),
  (T_X11_tagNumber, 2),
  (T_X11_hasBit, 2),
  (T_X11_remainder, 2),
  (T_X12_thrown, 1),
  (T_X12_refuse, 1),
  (T_X12_come, 3),
  (T_X12_feed, 6),
  (T_X12_end, 2),
  (T_X12_take, 2),
  (T_X12_isIn, 3),
  (T_X12_has, 2),
  (T_X12_least, 2),
  (T_X12_size, 1),
  (T_X12_common, 5),
  (T_X12_tapeAt, 2),
  (T_X12_isDigit, 1),
  (T_X12_isLetter, 1),
  (T_X12_go, 5),
  (T_X12_spelt, 9),
  (T_X12_wordOf, 1),
  (T_X12_isWord, 2),
  (T_X12_isSign, 2),
  (T_X12_isName, 2),
  (T_X12_bad, 2),
  (T_X12_readNumber, 3),
  (T_X12_readEnd, 1),
  (T_X12_begin, 2),
  (T_X12_startRead, 2),
  (T_X12_startSo, 2),
  (T_X12_findIn, 6),
  (T_X12_isTaken, 1),
  (T_X12_readNew, 2),
  (T_X12_readFirst, 3),
  (T_X12_put, 3),
  (T_X12_isFresh, 2),
  (T_X12_readRing, 1),
  (T_X12_readCousin, 2),
  (T_X12_readPlace, 2),
  (T_X12_readPerson, 2),
  (T_X12_readWork, 2),
  (T_X12_isWorkHere, 1),
  (T_X12_readAfter, 2),
  (T_X12_readThing, 2),
  (T_X12_readLine, 1),
  (T_X12_town, 3),
  (T_X12_fault, 1),
  (T_X12_isBeater, 2),
  (T_X12_isPerson, 2),
  (T_X12_isWork, 2),
  (T_X12_isOut, 2),
  (T_X12_isStanding, 1),
  (T_X12_doneWorks, 3),
  (T_X12_openWorks, 4),
  (T_X12_isBusy, 4),
  (T_X12_person, 3),
  (T_X12_work, 3),
  (T_X12_gap, 2),
  (T_X12_now, 2),
  (T_X12_snap, 2),
  (T_X12_isCrowded, 3),
  (T_X12_why, 3),
  (T_X12_relieved, 2),
  (T_X12_live, 3),
  (T_X12_act, 5),
  (T_X12_fright, 1),
  (T_X12_cure, 1),
  (T_X12_fly, 1),
  (T_X12_relieve, 2),
  (T_X12_leave, 2),
  (T_X12_join, 2),
  (T_X12_undo, 2),
  (T_X12_beat, 4),
  (T_X12_oneSecond, 1),
  (T_X12_passSeconds, 4),
  (T_X12_seconds, 2),
  (T_X12_placeBehind, 3),
  (T_X12_at, 3),
  (T_X12_meet, 4),
  (T_X12_layAside, 2),
  (T_X12_takeBack, 2),
  (T_X12_doneBy, 4),
  (T_X12_when, 3),
  (T_X12_swift, 6),
  (T_X12_joins, 3),
  (T_X12_once, 3),
  (T_X12_hasStood, 4),
  (T_X12_leftBy, 6),
  (T_X12_stood, 4),
  (T_X12_stoodLeast, 1),
  (T_X12_stoodMost, 1),
  (T_X12_next, 1),
  (T_X12_rowsOf, 3),
  (T_X12_layRows, 6),
  (T_X12_rows, 6),
  (T_X12_rowAt, 2),
  (T_X12_areNear, 4),
  (T_X12_isFor, 5),
  (T_X12_vote, 5),
  (T_X12_voted, 1),
  (T_X12_write, 2),
  (T_X12_writeWord, 3),
  (T_X12_writeNumber, 2),
  (T_X12_writeNext, 3),
  (T_X12_tag, 2),
  (T_X12_byteAt, 2),
  (T_X12_draw, 2),
  (T_X12_drawsFor, 3),
  (T_X12_drawSeconds, 7),
  (T_X12_drawn, 3),
  (T_X12_odds, 6),
  (T_X12_keep, 3),
  (T_X12_readNamed, 3),
  (T_X12_readBeater, 1),
  (T_X12_readDoes, 2),
  (T_X12_readBookLine, 3),
  (T_X12_goBy, 4),
  (T_X12_book, 4),
  (T_X12_stay, 4),
  (T_X12_told, 2),
  (T_X12_saysOne, 6),
  (T_X12_readOr, 2),
  (T_X12_readAnd, 2),
  (T_X12_readSaid, 4),
  (T_X12_readNot, 1),
  (T_X12_readBracket, 1),
  (T_X12_readOf, 2),
  (T_X12_readCompare, 3),
  (T_X12_sentence, 2),
  (T_X12_holds, 8),
  (T_X12_said, 4),
  (T_X12_image, 3),
  (T_X12_restore, 3),
  (T_X12_count, 2)]
def mm_prog : mm_P := fun q => mm_tab.getD q ([], 0)
end
section
/-! The words of the tables that carry over to every call, and what they say of the rows of the methods -/
abbrev vwCl : List vw_C := [(RX0, TX0, 8), (RX1, TX1, 4), (RX2, TX2, 9), (RX3, TX3, 3), (RX4, TX4, 11), (RX5, TX5, 3), (RX6, TX6, 4), (RX7, TX7, 5), (RX8, TX8, 10), (RX9, TX9, 3), (RX11, TX11, 15), (RX12, TX12, 47)]
def mm_TW : List Cond := lw_tbl.filter goodWord
theorem mm_tw {w : Cond} (i : Nat) (h : tables_1[i]? = some w) (hg : goodWord w = true) : w ∈ mm_TW := List.mem_filter.mpr ⟨List.mem_append_right _ (List.mem_of_getElem? h), hg⟩
theorem mm_tp {w : Cond} (i : Nat) (h : (k2_sels lw_privs)[i]? = some w) (hg : goodWord w = true) : w ∈ mm_TW := List.mem_filter.mpr ⟨List.mem_append_left _ (List.mem_of_getElem? h), hg⟩
def mm_xl : List String := [RX0, RX1, RX2, RX3, RX4, RX5, RX6, RX7, RX8, RX9, RX10, RX11, RX12]
def mm_xn (x : Nat) : String := mm_xl.getD x ""
def mm_ms : List (MethodName × ByteArray × Option FieldType × Nat × Nat × Nat) := [(yX0_readBook, cX0_readBook, (some .boolean), 0, 2, 0),
  (yX0_readLine, cX0_readLine, (some .boolean), 0, 2, 0),
  (yX0_isAct, cX0_isAct, (some .boolean), 0, 1, 1),
  (yX0_actOf, cX0_actOf, (some .int), 0, 1, 1),
  (yX0_readRelieve, cX0_readRelieve, (some .boolean), 0, 2, 0),
  (yX0_readWalk, cX0_readWalk, (some .boolean), 0, 2, 0),
  (yX0_add, cX0_add, (some .boolean), 0, 2, 0),
  (yX0_live, cX0_live, (some .int), 0, 2, 0),
  (yX0_tell, cX0_tell, (some .int), 0, 1, 0),
  (yX1_judge, cX1_judge, (some .int), 1, 2, 0),
  (yX1_arePairs, cX1_arePairs, (some .boolean), 1, 2, 1),
  (yX1_leavesRests, cX1_leavesRests, (some .boolean), 1, 3, 1),
  (yX1_keepBounds, cX1_keepBounds, none, 1, 0, 0),
  (yX1_thingToLookAt, cX1_thingToLookAt, (some .int), 1, 1, 0),
  (yX1_mostLeftBy, cX1_mostLeftBy, (some .int), 1, 1, 0),
  (yX2_begin, cX2_begin, none, 2, 1, 0),
  (yX2_copyFrom, cX2_copyFrom, none, 2, 1, 0),
  (yX2_isOut, cX2_isOut, (some .boolean), 2, 1, 0),
  (yX2_isDone, cX2_isDone, (some .boolean), 2, 1, 0),
  (yX2_secondsLeft, cX2_secondsLeft, (some .int), 2, 0, 0),
  (yX2_doneWorks, cX2_doneWorks, (some .int), 2, 1, 0),
  (yX2_openWorks, cX2_openWorks, (some .int), 2, 1, 0),
  (yX2_howWorkIs, cX2_howWorkIs, (some .int), 2, 2, 0),
  (yX2_isBusy, cX2_isBusy, (some .boolean), 2, 2, 0),
  (yX2_placeBehind, cX2_placeBehind, (some .int), 2, 3, 0),
  (yX2_somebodyWalksAt, cX2_somebodyWalksAt, (some .boolean), 2, 2, 0),
  (yX2_act, cX2_act, (some .int), 2, 3, 0),
  (yX2_takeFright, cX2_takeFright, (some .int), 2, 1, 0),
  (yX2_takeCure, cX2_takeCure, (some .int), 2, 0, 0),
  (yX2_takeFly, cX2_takeFly, (some .int), 2, 0, 0),
  (yX2_changeBeater, cX2_changeBeater, (some .int), 2, 2, 0),
  (yX2_goOut, cX2_goOut, (some .int), 2, 1, 0),
  (yX2_comeIn, cX2_comeIn, (some .int), 2, 2, 0),
  (yX2_passAll, cX2_passAll, (some .int), 2, 2, 0),
  (yX2_passSecond, cX2_passSecond, none, 2, 1, 0),
  (yX2_beat, cX2_beat, none, 2, 1, 0),
  (yX2_secondsTillDone, cX2_secondsTillDone, (some .int), 2, 2, 0),
  (yX2_secondsTillFree, cX2_secondsTillFree, (some .int), 2, 2, 0),
  (yX2_passDrawn, cX2_passDrawn, (some .int), 2, 3, 0),
  (yX2_passDrawnSecond, cX2_passDrawnSecond, (some .int), 2, 2, 0),
  (yX2_leaveOrJoin, cX2_leaveOrJoin, none, 2, 2, 0),
  (yX2_stir, cX2_stir, (some .int), 2, 1, 1),
  (yX2_drawOf, cX2_drawOf, (some .int), 2, 2, 1),
  (yX2_votesBehindRound, cX2_votesBehindRound, (some .int), 2, 2, 0),
  (yX2_votesBehind, cX2_votesBehind, (some .int), 2, 3, 0),
  (yX2_willBeNear, cX2_willBeNear, (some .boolean), 2, 3, 0),
  (yX3_forget, cX3_forget, none, 3, 0, 0),
  (yX3_keep, cX3_keep, none, 3, 1, 0),
  (yX3_takeBack, cX3_takeBack, (some .int), 3, 1, 0),
  (yX4_clear, cX4_clear, none, 4, 0, 0),
  (yX4_copyFrom, cX4_copyFrom, none, 4, 1, 0),
  (yX4_has, cX4_has, (some .boolean), 4, 2, 0),
  (yX4_isFull, cX4_isFull, (some .boolean), 4, 1, 0),
  (yX4_beaters, cX4_beaters, (some .int), 4, 0, 0),
  (yX4_mayBeat, cX4_mayBeat, (some .boolean), 4, 1, 0),
  (yX4_gapOf, cX4_gapOf, (some .int), 4, 1, 0),
  (yX4_addName, cX4_addName, (some .int), 4, 2, 0),
  (yX4_nameOf, cX4_nameOf, (some .long), 4, 2, 0),
  (yX4_numberOf, cX4_numberOf, (some .int), 4, 2, 0),
  (yX4_knows, cX4_knows, (some .boolean), 4, 1, 0),
  (yX4_placeOn, cX4_placeOn, (some .int), 4, 2, 0),
  (yX5_countFor, cX5_countFor, (some .int), 5, 3, 0),
  (yX5_waysWithOneMore, cX5_waysWithOneMore, (some .int), 5, 3, 0),
  (yX5_keepFirst, cX5_keepFirst, none, 5, 3, 0),
  (yX5_leastBeater, cX5_leastBeater, (some .int), 5, 3, 0),
  (yX6_begin, cX6_begin, none, 6, 1, 0),
  (yX6_copyFrom, cX6_copyFrom, none, 6, 1, 0),
  (yX7_clear, cX7_clear, none, 7, 0, 0),
  (yX7_isTold, cX7_isTold, (some .boolean), 7, 0, 0),
  (yX7_copyFrom, cX7_copyFrom, none, 7, 1, 0),
  (yX7_readSentence, cX7_readSentence, (some .boolean), 7, 2, 0),
  (yX7_readCond, cX7_readCond, (some .boolean), 7, 3, 0),
  (yX7_readAll, cX7_readAll, (some .boolean), 7, 3, 0),
  (yX7_readOne, cX7_readOne, (some .boolean), 7, 3, 0),
  (yX7_beginsOne, cX7_beginsOne, (some .boolean), 7, 1, 1),
  (yX7_readCompared, cX7_readCompared, (some .boolean), 7, 2, 0),
  (yX7_add, cX7_add, (some .boolean), 7, 3, 0),
  (yX7_holds, cX7_holds, (some .boolean), 7, 3, 0),
  (yX7_holdsAlone, cX7_holdsAlone, (some .boolean), 7, 4, 0),
  (yX7_measure, cX7_measure, (some .int), 7, 4, 1),
  (yX7_compares, cX7_compares, (some .boolean), 7, 3, 1),
  (yX8_append, cX8_append, none, 8, 1, 0),
  (yX8_get, cX8_get, (some .int), 8, 1, 0),
  (yX8_beginText, cX8_beginText, none, 8, 1, 0),
  (yX8_advance, cX8_advance, none, 8, 0, 0),
  (yX8_skipBlanks, cX8_skipBlanks, none, 8, 0, 0),
  (yX8_readToken, cX8_readToken, none, 8, 0, 0),
  (yX8_joinLetters, cX8_joinLetters, none, 8, 0, 0),
  (yX8_joinDigits, cX8_joinDigits, none, 8, 0, 0),
  (yX8_failAt, cX8_failAt, (some .boolean), 8, 2, 0),
  (yX8_fail, cX8_fail, (some .boolean), 8, 1, 0),
  (yX8_take, cX8_take, (some .boolean), 8, 1, 0),
  (yX8_takeNumber, cX8_takeNumber, (some .int), 8, 2, 0),
  (yX8_takeOneOf, cX8_takeOneOf, (some .int), 8, 2, 0),
  (yX9_readTown, cX9_readTown, (some .int), 9, 1, 0),
  (yX9_readLine, cX9_readLine, (some .boolean), 9, 1, 0),
  (yX9_readRing, cX9_readRing, (some .boolean), 9, 1, 0),
  (yX9_readGap, cX9_readGap, (some .boolean), 9, 1, 0),
  (yX9_readNewOne, cX9_readNewOne, (some .int), 9, 2, 0),
  (yX9_readCousin, cX9_readCousin, (some .boolean), 9, 1, 0),
  (yX9_readPerson, cX9_readPerson, (some .boolean), 9, 1, 0),
  (yX9_readWork, cX9_readWork, (some .boolean), 9, 1, 0),
  (yX9_readAfter, cX9_readAfter, (some .boolean), 9, 1, 0),
  (yX9_readThing, cX9_readThing, (some .boolean), 9, 1, 0),
  (yX10_find, cX10_find, (some (.object "HiccupTown$Word")), 10, 2, 1),
  (yX11_feed, cX11_feed, (some .int), 11, 5, 0),
  (yX11_end, cX11_end, (some .boolean), 11, 1, 0),
  (yX11_town, cX11_town, (some .int), 11, 0, 0),
  (yX11_fault, cX11_fault, (some .int), 11, 0, 0),
  (yX11_work, cX11_work, (some .int), 11, 2, 0),
  (yX11_gap, cX11_gap, (some .int), 11, 1, 0),
  (yX11_now, cX11_now, (some .int), 11, 1, 0),
  (yX11_fright, cX11_fright, (some .int), 11, 0, 0),
  (yX11_cure, cX11_cure, (some .int), 11, 0, 0),
  (yX11_fly, cX11_fly, (some .int), 11, 0, 0),
  (yX11_relieve, cX11_relieve, (some .int), 11, 1, 0),
  (yX11_leave, cX11_leave, (some .int), 11, 1, 0),
  (yX11_join, cX11_join, (some .int), 11, 1, 0),
  (yX11_seconds, cX11_seconds, (some .int), 11, 1, 0),
  (yX11_undo, cX11_undo, (some .int), 11, 0, 0),
  (yX11_at, cX11_at, (some .int), 11, 2, 0),
  (yX11_meet, cX11_meet, (some .int), 11, 2, 0),
  (yX11_when, cX11_when, (some .int), 11, 1, 0),
  (yX11_once, cX11_once, (some .int), 11, 2, 0),
  (yX11_stood, cX11_stood, (some .int), 11, 0, 0),
  (yX11_stoodLeast, cX11_stoodLeast, (some .int), 11, 0, 0),
  (yX11_stoodMost, cX11_stoodMost, (some .int), 11, 0, 0),
  (yX11_next, cX11_next, (some .int), 11, 0, 0),
  (yX11_rows, cX11_rows, (some .int), 11, 2, 0),
  (yX11_rowAt, cX11_rowAt, (some .int), 11, 1, 0),
  (yX11_swift, cX11_swift, (some .int), 11, 1, 0),
  (yX11_joins, cX11_joins, (some .int), 11, 1, 0),
  (yX11_vote, cX11_vote, (some .int), 11, 0, 0),
  (yX11_voted, cX11_voted, (some .int), 11, 0, 0),
  (yX11_tag, cX11_tag, (some .int), 11, 1, 0),
  (yX11_byteAt, cX11_byteAt, (some .int), 11, 1, 0),
  (yX11_drawn, cX11_drawn, (some .int), 11, 2, 0),
  (yX11_odds, cX11_odds, (some .int), 11, 3, 0),
  (yX11_book, cX11_book, (some .int), 11, 1, 0),
  (yX11_told, cX11_told, (some .int), 11, 1, 0),
  (yX11_sentence, cX11_sentence, (some .int), 11, 0, 0),
  (yX11_said, cX11_said, (some .int), 11, 1, 0),
  (yX11_image, cX11_image, (some .boolean), 11, 1, 0),
  (yX11_restore, cX11_restore, (some .boolean), 11, 1, 0),
  (yX11_count, cX11_count, (some .int), 11, 1, 0),
  (yX11_endText, cX11_endText, (some .boolean), 11, 0, 0),
  (yX11_actKept, cX11_actKept, (some .int), 11, 2, 0),
  (yX11_keepBefore, cX11_keepBefore, none, 11, 1, 0),
  (yX11_tagByte, cX11_tagByte, none, 11, 1, 0),
  (yX11_tagName, cX11_tagName, none, 11, 1, 0),
  (yX11_tagText, cX11_tagText, none, 11, 1, 0),
  (yX11_tagNumber, cX11_tagNumber, none, 11, 1, 0),
  (yX11_hasBit, cX11_hasBit, (some .boolean), 11, 2, 1),
  (yX11_remainder, cX11_remainder, (some .int), 11, 2, 1),
  (yX12_thrown, cX12_thrown, (some .int), 12, 0, 0),
  (yX12_refuse, cX12_refuse, (some .int), 12, 0, 0),
  (yX12_come, cX12_come, none, 12, 1, 0),
  (yX12_feed, cX12_feed, (some .int), 12, 5, 0),
  (yX12_end, cX12_end, (some .boolean), 12, 1, 0),
  (yX12_take, cX12_take, (some .int), 12, 0, 0),
  (yX12_isIn, cX12_isIn, (some .boolean), 12, 3, 1),
  (yX12_has, cX12_has, (some .boolean), 12, 2, 1),
  (yX12_least, cX12_least, (some .int), 12, 2, 1),
  (yX12_size, cX12_size, (some .int), 12, 1, 1),
  (yX12_common, cX12_common, (some .int), 12, 2, 1),
  (yX12_tapeAt, cX12_tapeAt, (some .int), 12, 1, 0),
  (yX12_isDigit, cX12_isDigit, (some .boolean), 12, 1, 1),
  (yX12_isLetter, cX12_isLetter, (some .boolean), 12, 1, 1),
  (yX12_go, cX12_go, none, 12, 0, 0),
  (yX12_spelt, cX12_spelt, (some .long), 12, 7, 1),
  (yX12_wordOf, cX12_wordOf, (some .long), 12, 1, 1),
  (yX12_isWord, cX12_isWord, (some .boolean), 12, 1, 0),
  (yX12_isSign, cX12_isSign, (some .boolean), 12, 1, 0),
  (yX12_isName, cX12_isName, (some .boolean), 12, 0, 0),
  (yX12_bad, cX12_bad, (some .boolean), 12, 1, 0),
  (yX12_readNumber, cX12_readNumber, (some .boolean), 12, 2, 0),
  (yX12_readEnd, cX12_readEnd, (some .boolean), 12, 0, 0),
  (yX12_begin, cX12_begin, none, 12, 1, 0),
  (yX12_startRead, cX12_startRead, none, 12, 0, 0),
  (yX12_startSo, cX12_startSo, none, 12, 0, 0),
  (yX12_findIn, cX12_findIn, (some .int), 12, 4, 1),
  (yX12_isTaken, cX12_isTaken, (some .boolean), 12, 0, 0),
  (yX12_readNew, cX12_readNew, (some .boolean), 12, 1, 0),
  (yX12_readFirst, cX12_readFirst, (some .boolean), 12, 2, 0),
  (yX12_put, cX12_put, (some .boolean), 12, 2, 0),
  (yX12_isFresh, cX12_isFresh, (some .boolean), 12, 1, 0),
  (yX12_readRing, cX12_readRing, (some .boolean), 12, 0, 0),
  (yX12_readCousin, cX12_readCousin, (some .boolean), 12, 0, 0),
  (yX12_readPlace, cX12_readPlace, (some .boolean), 12, 1, 0),
  (yX12_readPerson, cX12_readPerson, (some .boolean), 12, 0, 0),
  (yX12_readWork, cX12_readWork, (some .boolean), 12, 0, 0),
  (yX12_isWorkHere, cX12_isWorkHere, (some .boolean), 12, 0, 0),
  (yX12_readAfter, cX12_readAfter, (some .boolean), 12, 0, 0),
  (yX12_readThing, cX12_readThing, (some .boolean), 12, 0, 0),
  (yX12_readLine, cX12_readLine, (some .boolean), 12, 0, 0),
  (yX12_town, cX12_town, (some .int), 12, 0, 0),
  (yX12_fault, cX12_fault, (some .int), 12, 0, 0),
  (yX12_isBeater, cX12_isBeater, (some .boolean), 12, 1, 0),
  (yX12_isPerson, cX12_isPerson, (some .boolean), 12, 1, 0),
  (yX12_isWork, cX12_isWork, (some .boolean), 12, 1, 0),
  (yX12_isOut, cX12_isOut, (some .boolean), 12, 1, 0),
  (yX12_isStanding, cX12_isStanding, (some .boolean), 12, 0, 0),
  (yX12_doneWorks, cX12_doneWorks, (some .int), 12, 0, 0),
  (yX12_openWorks, cX12_openWorks, (some .int), 12, 0, 0),
  (yX12_isBusy, cX12_isBusy, (some .boolean), 12, 1, 0),
  (yX12_person, cX12_person, (some .int), 12, 2, 0),
  (yX12_work, cX12_work, (some .int), 12, 2, 0),
  (yX12_gap, cX12_gap, (some .int), 12, 1, 0),
  (yX12_now, cX12_now, (some .int), 12, 1, 0),
  (yX12_snap, cX12_snap, none, 12, 0, 0),
  (yX12_isCrowded, cX12_isCrowded, (some .boolean), 12, 1, 0),
  (yX12_why, cX12_why, (some .int), 12, 2, 0),
  (yX12_relieved, cX12_relieved, none, 12, 1, 0),
  (yX12_live, cX12_live, none, 12, 2, 0),
  (yX12_act, cX12_act, (some .int), 12, 3, 0),
  (yX12_fright, cX12_fright, (some .int), 12, 0, 0),
  (yX12_cure, cX12_cure, (some .int), 12, 0, 0),
  (yX12_fly, cX12_fly, (some .int), 12, 0, 0),
  (yX12_relieve, cX12_relieve, (some .int), 12, 1, 0),
  (yX12_leave, cX12_leave, (some .int), 12, 1, 0),
  (yX12_join, cX12_join, (some .int), 12, 1, 0),
  (yX12_undo, cX12_undo, (some .int), 12, 0, 0),
  (yX12_beat, cX12_beat, none, 12, 0, 0),
  (yX12_oneSecond, cX12_oneSecond, none, 12, 0, 0),
  (yX12_passSeconds, cX12_passSeconds, (some .int), 12, 1, 0),
  (yX12_seconds, cX12_seconds, (some .int), 12, 1, 0),
  (yX12_placeBehind, cX12_placeBehind, (some .int), 12, 2, 0),
  (yX12_at, cX12_at, (some .int), 12, 2, 0),
  (yX12_meet, cX12_meet, (some .int), 12, 2, 0),
  (yX12_layAside, cX12_layAside, none, 12, 0, 0),
  (yX12_takeBack, cX12_takeBack, none, 12, 0, 0),
  (yX12_doneBy, cX12_doneBy, (some .int), 12, 2, 0),
  (yX12_when, cX12_when, (some .int), 12, 1, 0),
  (yX12_swift, cX12_swift, (some .int), 12, 1, 0),
  (yX12_joins, cX12_joins, (some .int), 12, 1, 0),
  (yX12_once, cX12_once, (some .int), 12, 2, 0),
  (yX12_hasStood, cX12_hasStood, (some .boolean), 12, 2, 0),
  (yX12_leftBy, cX12_leftBy, (some .int), 12, 2, 0),
  (yX12_stood, cX12_stood, (some .int), 12, 0, 0),
  (yX12_stoodLeast, cX12_stoodLeast, (some .int), 12, 0, 0),
  (yX12_stoodMost, cX12_stoodMost, (some .int), 12, 0, 0),
  (yX12_next, cX12_next, (some .int), 12, 0, 0),
  (yX12_rowsOf, cX12_rowsOf, (some .int), 12, 2, 0),
  (yX12_layRows, cX12_layRows, none, 12, 1, 0),
  (yX12_rows, cX12_rows, (some .int), 12, 2, 0),
  (yX12_rowAt, cX12_rowAt, (some .int), 12, 1, 0),
  (yX12_areNear, cX12_areNear, (some .boolean), 12, 2, 0),
  (yX12_isFor, cX12_isFor, (some .boolean), 12, 2, 0),
  (yX12_vote, cX12_vote, (some .int), 12, 0, 0),
  (yX12_voted, cX12_voted, (some .int), 12, 0, 0),
  (yX12_write, cX12_write, none, 12, 1, 0),
  (yX12_writeWord, cX12_writeWord, none, 12, 1, 0),
  (yX12_writeNumber, cX12_writeNumber, none, 12, 1, 0),
  (yX12_writeNext, cX12_writeNext, none, 12, 1, 0),
  (yX12_tag, cX12_tag, (some .int), 12, 1, 0),
  (yX12_byteAt, cX12_byteAt, (some .int), 12, 1, 0),
  (yX12_draw, cX12_draw, (some .int), 12, 1, 0),
  (yX12_drawsFor, cX12_drawsFor, none, 12, 2, 0),
  (yX12_drawSeconds, cX12_drawSeconds, (some .int), 12, 2, 0),
  (yX12_drawn, cX12_drawn, (some .int), 12, 2, 0),
  (yX12_odds, cX12_odds, (some .int), 12, 3, 0),
  (yX12_keep, cX12_keep, (some .boolean), 12, 2, 0),
  (yX12_readNamed, cX12_readNamed, (some .boolean), 12, 2, 0),
  (yX12_readBeater, cX12_readBeater, (some .boolean), 12, 0, 0),
  (yX12_readDoes, cX12_readDoes, (some .boolean), 12, 1, 0),
  (yX12_readBookLine, cX12_readBookLine, (some .boolean), 12, 0, 0),
  (yX12_goBy, cX12_goBy, (some .int), 12, 1, 0),
  (yX12_book, cX12_book, (some .int), 12, 1, 0),
  (yX12_stay, cX12_stay, none, 12, 1, 0),
  (yX12_told, cX12_told, (some .int), 12, 1, 0),
  (yX12_saysOne, cX12_saysOne, (some .int), 12, 4, 0),
  (yX12_readOr, cX12_readOr, (some .boolean), 12, 0, 0),
  (yX12_readAnd, cX12_readAnd, (some .boolean), 12, 0, 0),
  (yX12_readSaid, cX12_readSaid, (some .boolean), 12, 0, 0),
  (yX12_readNot, cX12_readNot, (some .boolean), 12, 0, 0),
  (yX12_readBracket, cX12_readBracket, (some .boolean), 12, 0, 0),
  (yX12_readOf, cX12_readOf, (some .boolean), 12, 1, 0),
  (yX12_readCompare, cX12_readCompare, (some .boolean), 12, 1, 0),
  (yX12_sentence, cX12_sentence, (some .int), 12, 0, 0),
  (yX12_holds, cX12_holds, (some .boolean), 12, 2, 0),
  (yX12_said, cX12_said, (some .int), 12, 1, 0),
  (yX12_image, cX12_image, (some .boolean), 12, 1, 0),
  (yX12_restore, cX12_restore, (some .boolean), 12, 1, 0),
  (yX12_count, cX12_count, (some .int), 12, 1, 0)]
def mm_mq (q : Nat) : MethodName × ByteArray × Option FieldType × Nat × Nat × Nat := mm_ms.getD q (⟨"", "", ""⟩, ⟨#[]⟩, none, 0, 0, 0)
def mm_y (q : Nat) : MethodName := (mm_mq q).1
def mm_b (q : Nat) : ByteArray := (mm_mq q).2.1
def mm_r (q : Nat) : Option FieldType := (mm_mq q).2.2.1
/-- the number of its class -/
def mm_xq (q : Nat) : Nat := (mm_mq q).2.2.2.1
/-- how many parameters -/
def mm_na (q : Nat) : Nat := (mm_mq q).2.2.2.2.1
/-- 1: static -/
def mm_sq (q : Nat) : Nat := (mm_mq q).2.2.2.2.2
/-- the tag of what comes back; 8: nothing -/
def mm_rt (q : Nat) : Nat := match mm_r q with
  | none => 8
  | some .int => 0
  | some .boolean => 0
  | some .long => 1
  | _ => 2
/-- the kind of the objects of the class of a number (0: none) -/
def mm_xt (x : Nat) : Nat := [10, 11, 12, 13, 14, 15, 16, 17, 18, 19, 0, 20, 21].getD x 0
/-- the fields of the kinds 10 and on: 0 int, 1 long, 2 a Word, 5 boolean, 3 what lies at a distance (its kind, the distance) -/
def mm_fcl : List (List (Nat × Nat × Nat)) := [[(3, 26, 1), (3, 26, 2), (0, 0, 0), (5, 0, 0), (0, 0, 0), (0, 0, 0), (0, 0, 0), (0, 0, 0)],
  [(3, 31, 1), (0, 0, 0), (0, 0, 0), (0, 0, 0)],
  [(0, 0, 0), (0, 0, 0), (0, 0, 0), (5, 0, 0), (0, 0, 0), (0, 0, 0), (3, 25, 1), (3, 25, 2), (3, 24, 3)],
  [(3, 33, 1), (0, 0, 0), (0, 0, 0)],
  [(0, 0, 0), (0, 0, 0), (3, 22, 1), (3, 28, 2), (3, 23, 3), (3, 25, 4), (3, 25, 5), (3, 24, 6), (3, 24, 7), (3, 24, 8), (3, 23, 9)],
  [(3, 35, 1), (3, 23, 8), (0, 0, 0)],
  [(3, 14, 1), (3, 12, 11), (3, 17, 15), (5, 0, 0)],
  [(3, 32, 1), (3, 32, 2), (3, 26, 3), (0, 0, 0), (0, 0, 0)],
  [(3, 29, 1), (0, 0, 0), (0, 0, 0), (0, 0, 0), (2, 0, 0), (0, 0, 0), (0, 0, 0), (1, 0, 0), (0, 0, 0), (0, 0, 0)],
  [(3, 14, 1), (5, 0, 0), (5, 0, 0)],
  [(3, 18, 1), (3, 19, 3), (3, 16, 14), (3, 34, 33), (3, 13, 34), (3, 12, 68), (3, 12, 72), (3, 11, 76), (3, 15, 78), (3, 10, 87), (3, 17, 90), (3, 30, 94), (0, 0, 0), (0, 0, 0), (0, 0, 0)],
  [(0, 0, 0), (3, 36, 1), (0, 0, 0), (0, 0, 0), (0, 0, 0), (0, 0, 0), (0, 0, 0), (0, 0, 0), (0, 0, 0), (0, 0, 0), (0, 0, 0), (0, 0, 0), (1, 0, 0), (0, 0, 0), (3, 37, 2), (3, 38, 3), (3, 39, 4), (3, 40, 5), (3, 41, 6), (3, 42, 7), (3, 42, 8), (3, 43, 9), (3, 44, 10), (3, 44, 11), (0, 0, 0), (5, 0, 0), (3, 45, 12), (3, 46, 13), (0, 0, 0), (0, 0, 0), (0, 0, 0), (3, 47, 14), (3, 23, 15), (0, 0, 0), (0, 0, 0), (3, 48, 16), (0, 0, 0), (0, 0, 0), (3, 49, 17), (3, 22, 18), (0, 0, 0), (5, 0, 0), (3, 50, 19), (0, 0, 0), (0, 0, 0), (0, 0, 0), (0, 0, 0)]]
def mm_fcd (t k : Nat) : Nat × Nat × Nat := (mm_fcl.getD (t - 10) []).getD k (9, 0, 0)
def mm_fn (t : Nat) : Nat := (mm_fcl.getD (t - 10) []).length
/-- the kinds of the objects, by their numbers -/
def mm_kdl : List Nat := [20, 18, 29, 19, 14, 22, 28, 23, 25, 25, 24, 24, 24, 23, 16, 14, 22, 28, 23, 25, 25, 24, 24, 24, 23, 12, 25, 25, 24, 17, 32, 32, 26, 34, 13, 33, 12, 25, 25, 24, 12, 25, 25, 24, 12, 25, 25, 24, 12, 25, 25, 24, 12, 25, 25, 24, 12, 25, 25, 24, 12, 25, 25, 24, 12, 25, 25, 24, 12, 25, 25, 24, 12, 25, 25, 24, 11, 31, 15, 35, 27, 27, 27, 27, 27, 27, 23, 10, 26, 26, 17, 32, 32, 26, 30, 16, 14, 22, 28, 23, 25, 25, 24, 24, 24, 23, 12, 25, 25, 24, 17, 32, 32, 26, 16, 14, 22, 28, 23, 25, 25, 24, 24, 24, 23, 12, 25, 25, 24, 17, 32, 32, 26, 21, 36, 37, 38, 39, 40, 41, 42, 42, 43, 44, 44, 45, 46, 47, 23, 48, 49, 22, 50]
def mm_kd (o : Nat) : Nat := mm_kdl.getD o 0
/-- fields: class, pool place, kind, slot -/
def mm_pf : List (Nat × Nat × Nat × Nat) := [(0, 11, 10, 0), (0, 15, 10, 1), (0, 18, 10, 2), (0, 22, 18, 4), (0, 47, 18, 7), (0, 114, 10, 3), (0, 118, 10, 4), (0, 121, 10, 5), (0, 130, 12, 0), (0, 133, 10, 6), (0, 140, 10, 7), (1, 11, 11, 0), (1, 15, 11, 1), (1, 19, 11, 2), (1, 22, 11, 3), (1, 40, 18, 1), (1, 55, 14, 10), (1, 63, 14, 2), (2, 11, 12, 2), (2, 17, 12, 6), (2, 21, 12, 7), (2, 24, 12, 8), (2, 27, 12, 0), (2, 30, 12, 1), (2, 37, 12, 3), (2, 41, 12, 4), (2, 44, 14, 1), (2, 47, 12, 5), (2, 50, 14, 5), (2, 53, 14, 8), (2, 62, 14, 2), (2, 69, 14, 9), (2, 86, 14, 7), (2, 89, 14, 6), (2, 169, 14, 0), (3, 13, 13, 0), (3, 18, 13, 2), (3, 22, 13, 1), (4, 11, 14, 0), (4, 15, 14, 2), (4, 19, 14, 3), (4, 23, 14, 4), (4, 26, 14, 5), (4, 29, 14, 6), (4, 32, 14, 7), (4, 35, 14, 8), (4, 38, 14, 9), (4, 41, 14, 10), (4, 44, 14, 1), (5, 11, 15, 0), (5, 14, 15, 1), (5, 32, 14, 4), (5, 38, 15, 2), (6, 10, 16, 0), (6, 19, 16, 1), (6, 26, 16, 2), (7, 13, 17, 0), (7, 17, 17, 1), (7, 20, 17, 2), (7, 24, 17, 3), (7, 28, 17, 4), (7, 51, 18, 4), (7, 150, 12, 6), (7, 153, 14, 7), (7, 164, 14, 6), (7, 167, 12, 7), (8, 9, 18, 0), (8, 21, 18, 4), (8, 24, 18, 1), (8, 28, 18, 2), (8, 31, 18, 3), (8, 34, 18, 8), (8, 37, 18, 9), (8, 46, 18, 5), (8, 49, 18, 6), (8, 52, 18, 7), (9, 12, 19, 0), (9, 21, 19, 1), (9, 25, 19, 2), (9, 28, 18, 4), (9, 96, 14, 2), (9, 107, 14, 0), (9, 111, 14, 4), (9, 120, 18, 7), (9, 136, 14, 5), (9, 139, 14, 6), (9, 145, 14, 1), (9, 148, 14, 7), (9, 151, 14, 8), (9, 154, 14, 9), (9, 161, 18, 5), (9, 171, 14, 10), (11, 10, 20, 0), (11, 19, 20, 1), (11, 26, 20, 2), (11, 30, 20, 3), (11, 37, 20, 4), (11, 44, 20, 5), (11, 48, 20, 6), (11, 54, 20, 7), (11, 61, 20, 8), (11, 68, 20, 9), (11, 75, 20, 10), (11, 79, 20, 11), (11, 83, 20, 14), (11, 87, 18, 1), (11, 105, 18, 9), (11, 108, 19, 0), (11, 119, 20, 13), (11, 122, 16, 0), (11, 136, 16, 1), (11, 139, 12, 6), (11, 159, 14, 7), (11, 162, 14, 8), (11, 165, 12, 8), (11, 172, 14, 9), (11, 179, 12, 0), (11, 182, 12, 1), (11, 185, 12, 2), (11, 188, 12, 3), (11, 192, 12, 4), (11, 195, 12, 5), (11, 240, 14, 0), (11, 253, 11, 1), (11, 256, 11, 2), (11, 259, 11, 3), (11, 265, 15, 2), (11, 268, 15, 1), (11, 283, 20, 12), (11, 319, 10, 5), (11, 328, 16, 2), (11, 334, 17, 4), (11, 340, 14, 2), (11, 350, 16, 3), (11, 353, 18, 8), (12, 1, 21, 0), (12, 7, 21, 1), (12, 11, 21, 2), (12, 18, 21, 3), (12, 21, 21, 5), (12, 24, 21, 6), (12, 27, 21, 4), (12, 30, 21, 7), (12, 40, 21, 9), (12, 43, 21, 12), (12, 47, 21, 8), (12, 66, 21, 10), (12, 69, 21, 11), (12, 79, 21, 13), (12, 98, 21, 14), (12, 101, 21, 15), (12, 104, 21, 16), (12, 107, 21, 17), (12, 110, 21, 18), (12, 113, 21, 19), (12, 117, 21, 20), (12, 120, 21, 21), (12, 123, 21, 22), (12, 127, 21, 23), (12, 130, 21, 26), (12, 133, 21, 27), (12, 136, 21, 28), (12, 139, 21, 29), (12, 142, 21, 30), (12, 145, 21, 31), (12, 148, 21, 32), (12, 151, 21, 34), (12, 154, 21, 35), (12, 157, 21, 38), (12, 160, 21, 39), (12, 163, 21, 42), (12, 172, 21, 25), (12, 243, 21, 24), (12, 334, 21, 33), (12, 345, 21, 36), (12, 361, 21, 37), (12, 377, 21, 40), (12, 395, 21, 41), (12, 402, 21, 43), (12, 408, 21, 46), (12, 418, 21, 44), (12, 421, 21, 45)]
/-- calls: class, pool place, method, 0 virtual, 1 static, 2 static of a nest mate -/
def mm_pm : List (Nat × Nat × Nat × Nat) := [(0, 33, 1, 0), (0, 40, 91, 0), (0, 51, 58, 0), (0, 57, 90, 0), (0, 61, 2, 1), (0, 64, 84, 0), (0, 70, 4, 0), (0, 76, 92, 0), (0, 80, 6, 0), (0, 84, 5, 0), (0, 88, 3, 1), (0, 104, 93, 0), (0, 124, 26, 0), (0, 136, 20, 0), (1, 25, 10, 1), (1, 29, 11, 1), (1, 33, 12, 0), (1, 36, 13, 0), (1, 45, 82, 0), (1, 49, 51, 0), (1, 59, 153, 2), (1, 66, 14, 0), (2, 33, 55, 0), (2, 65, 20, 0), (2, 72, 18, 0), (2, 76, 21, 0), (2, 79, 152, 2), (2, 83, 17, 0), (2, 92, 60, 0), (2, 96, 27, 0), (2, 99, 28, 0), (2, 103, 29, 0), (2, 106, 30, 0), (2, 110, 31, 0), (2, 113, 32, 0), (2, 116, 33, 0), (2, 124, 25, 0), (2, 128, 19, 0), (2, 131, 34, 0), (2, 135, 35, 0), (2, 138, 39, 0), (2, 141, 41, 1), (2, 144, 42, 1), (2, 147, 40, 0), (2, 152, 153, 2), (2, 155, 44, 0), (2, 159, 45, 0), (2, 163, 24, 0), (3, 25, 16, 0), (4, 56, 54, 0), (4, 60, 51, 0), (4, 64, 58, 0), (4, 68, 153, 2), (5, 18, 62, 0), (5, 22, 63, 0), (5, 26, 53, 0), (5, 35, 64, 0), (6, 30, 50, 0), (6, 34, 15, 0), (6, 37, 67, 0), (6, 40, 16, 0), (6, 43, 69, 0), (7, 31, 67, 0), (7, 34, 71, 0), (7, 42, 91, 0), (7, 48, 72, 0), (7, 57, 84, 0), (7, 60, 76, 0), (7, 64, 73, 0), (7, 70, 74, 1), (7, 73, 90, 0), (7, 98, 93, 0), (7, 102, 75, 0), (7, 127, 92, 0), (7, 131, 78, 0), (7, 135, 17, 0), (7, 140, 23, 0), (7, 144, 51, 0), (7, 156, 79, 1), (7, 160, 80, 1), (8, 40, 84, 0), (8, 43, 85, 0), (8, 59, 86, 0), (8, 62, 104, 1), (8, 66, 82, 0), (8, 70, 87, 0), (8, 76, 88, 0), (8, 82, 89, 0), (8, 86, 90, 0), (8, 90, 58, 0), (9, 18, 49, 0), (9, 39, 95, 0), (9, 46, 91, 0), (9, 53, 96, 0), (9, 59, 97, 0), (9, 65, 99, 0), (9, 71, 100, 0), (9, 77, 101, 0), (9, 83, 102, 0), (9, 89, 103, 0), (9, 92, 90, 0), (9, 100, 84, 0), (9, 103, 92, 0), (9, 114, 52, 0), (9, 124, 59, 0), (9, 128, 56, 0), (9, 132, 98, 0), (9, 157, 93, 0), (9, 164, 152, 2), (9, 168, 89, 0), (11, 90, 81, 0), (11, 94, 83, 0), (11, 97, 94, 0), (11, 101, 145, 0), (11, 112, 65, 0), (11, 116, 46, 0), (11, 123, 51, 0), (11, 146, 17, 0), (11, 168, 22, 0), (11, 175, 55, 0), (11, 198, 20, 0), (11, 202, 21, 0), (11, 205, 146, 0), (11, 209, 54, 0), (11, 212, 16, 0), (11, 216, 19, 0), (11, 225, 26, 0), (11, 229, 147, 0), (11, 233, 48, 0), (11, 237, 24, 0), (11, 243, 36, 0), (11, 246, 153, 1), (11, 249, 9, 0), (11, 262, 61, 0), (11, 271, 18, 0), (11, 274, 53, 0), (11, 277, 37, 0), (11, 280, 43, 0), (11, 286, 57, 0), (11, 290, 149, 0), (11, 296, 150, 0), (11, 299, 151, 0), (11, 308, 38, 0), (11, 311, 0, 0), (11, 315, 7, 0), (11, 322, 8, 0), (11, 325, 70, 0), (11, 331, 69, 0), (11, 337, 68, 0), (11, 343, 77, 0), (11, 347, 66, 0), (11, 356, 47, 0), (11, 361, 148, 0), (12, 14, 156, 0), (12, 33, 167, 1), (12, 37, 166, 1), (12, 50, 165, 0), (12, 58, 169, 1), (12, 62, 170, 1), (12, 72, 174, 0), (12, 75, 160, 1), (12, 82, 168, 0), (12, 86, 172, 0), (12, 89, 159, 0), (12, 166, 178, 0), (12, 169, 179, 0), (12, 176, 180, 1), (12, 180, 173, 0), (12, 184, 181, 0), (12, 187, 185, 0), (12, 190, 175, 0), (12, 194, 184, 0), (12, 198, 183, 0), (12, 201, 182, 0), (12, 204, 188, 0), (12, 207, 171, 0), (12, 210, 191, 0), (12, 213, 161, 1), (12, 216, 186, 0), (12, 219, 187, 0), (12, 222, 189, 0), (12, 225, 190, 0), (12, 228, 192, 0), (12, 231, 193, 0), (12, 234, 177, 0), (12, 237, 194, 0), (12, 240, 176, 0), (12, 246, 202, 0), (12, 249, 200, 0), (12, 252, 203, 0), (12, 255, 198, 0), (12, 258, 155, 0), (12, 261, 204, 0), (12, 264, 199, 0), (12, 267, 197, 0), (12, 270, 210, 0), (12, 273, 162, 1), (12, 277, 212, 0), (12, 280, 211, 0), (12, 283, 209, 0), (12, 286, 213, 0), (12, 290, 214, 0), (12, 294, 201, 0), (12, 297, 222, 0), (12, 300, 223, 0), (12, 303, 224, 0), (12, 306, 226, 0), (12, 309, 229, 0), (12, 313, 230, 0), (12, 316, 231, 0), (12, 319, 164, 1), (12, 322, 236, 0), (12, 325, 237, 0), (12, 328, 242, 0), (12, 331, 243, 0), (12, 337, 163, 1), (12, 339, 246, 0), (12, 342, 247, 0), (12, 348, 251, 0), (12, 352, 250, 0), (12, 355, 252, 0), (12, 358, 253, 0), (12, 365, 256, 0), (12, 368, 257, 0), (12, 371, 258, 0), (12, 374, 262, 0), (12, 380, 264, 0), (12, 383, 263, 0), (12, 386, 261, 0), (12, 389, 265, 0), (12, 392, 266, 0), (12, 398, 268, 0), (12, 405, 272, 0), (12, 411, 270, 0), (12, 415, 273, 0), (12, 424, 275, 0), (12, 427, 274, 0), (12, 430, 276, 0), (12, 433, 277, 0), (12, 436, 271, 0), (12, 439, 279, 0)]
/-- statics: class, pool place, tag, number -/
def mm_pz : List (Nat × Nat × Nat × Int) := [(0, 28, 2, 0), (0, 37, 2, 4), (0, 44, 2, 2), (0, 67, 2, 21), (0, 73, 2, 25), (0, 92, 2, 18), (0, 95, 2, 19), (0, 98, 2, 20), (0, 101, 2, 22), (0, 108, 2, 23), (0, 111, 2, 24), (4, 53, 5, 0), (7, 38, 2, 0), (7, 54, 2, 26), (7, 67, 2, 27), (7, 77, 2, 28), (7, 80, 2, 8), (7, 83, 2, 9), (7, 86, 2, 17), (7, 89, 2, 31), (7, 92, 2, 29), (7, 95, 2, 30), (7, 106, 2, 32), (7, 109, 2, 33), (7, 112, 2, 34), (7, 115, 2, 35), (7, 118, 2, 5), (7, 121, 2, 6), (7, 124, 2, 7), (8, 15, 2, 0), (8, 56, 2, 1), (8, 73, 2, 2), (8, 79, 2, 3), (9, 34, 2, 0), (9, 43, 2, 4), (9, 50, 2, 10), (9, 56, 2, 11), (9, 62, 2, 12), (9, 68, 2, 13), (9, 74, 2, 14), (9, 80, 2, 15), (9, 86, 2, 16), (9, 117, 2, 2), (9, 142, 2, 17), (10, 149, 4, 0)]
def mm_pk : List (Nat × Nat × Int) := [(2, 151, 1103515245), (12, 312, 100000), (12, 364, 1103515245)]
def mm_pl : List (Nat × Nat × Int) := [(12, 54, 27), (12, 56, 96)]
/-- text constants: class, pool place, which -/
def mm_ps : List (Nat × Nat × Int) := [(11, 294, 0), (11, 302, 1), (11, 304, 2), (11, 306, 3)]
/-- members of the JDK, and the key of a Word (9): class, pool place, which -/
def mm_pi : List (Nat × Nat × Nat) := [(1, 69, 2), (2, 56, 4), (2, 119, 1), (2, 166, 3), (3, 29, 1), (4, 47, 4), (10, 135, 9), (11, 220, 1), (11, 364, 11), (11, 368, 12)]
def mm_chk (x q : Nat) (e : mm_E) : Bool := match e.2.1 with
  | .getfield i => bif e.2.2.2.1.getD 2 9 == 4 then e.2.2.2.1.getD 0 9 == 2 && mm_pi.elem (x, i, 9) else mm_pf.elem (x, i, e.2.2.2.1.getD 0 9, e.2.2.2.1.getD 1 0) && (match e.2.2.2.1.getD 2 9 with
      | 0 => (mm_fcd (e.2.2.2.1.getD 0 9) (e.2.2.2.1.getD 1 0)).1 == 0 || (mm_fcd (e.2.2.2.1.getD 0 9) (e.2.2.2.1.getD 1 0)).1 == 5
      | 1 => (mm_fcd (e.2.2.2.1.getD 0 9) (e.2.2.2.1.getD 1 0)).1 == 1
      | 2 => (mm_fcd (e.2.2.2.1.getD 0 9) (e.2.2.2.1.getD 1 0)).1 == 2
      | 3 => mm_fcd (e.2.2.2.1.getD 0 9) (e.2.2.2.1.getD 1 0) == (3, e.2.2.2.1.getD 3 9, e.2.2.2.1.getD 4 0)
      | _ => false)
  | .putfield i => mm_pf.elem (x, i, e.2.2.2.1.getD 0 9, e.2.2.2.1.getD 1 0) && (mm_fcd (e.2.2.2.1.getD 0 9) (e.2.2.2.1.getD 1 0)).1 == e.2.2.2.1.getD 2 9 && !(e.2.2.2.1.getD 2 9 == 3)
  | .getstatic i => mm_pz.elem (x, i, e.2.2.2.1.headD 9, e.2.2.2.2)
  | .ldc i => (e.2.2.2.1.headD 0 == 0 && mm_pk.elem (x, i, e.2.2.2.2))
  | .ldc_w i => (e.2.2.2.1.headD 0 == 0 && mm_pk.elem (x, i, e.2.2.2.2)) || (e.2.2.2.1.headD 0 == 3 && mm_ps.elem (x, i, e.2.2.2.2))
  | .ldc2_w i => mm_pl.elem (x, i, e.2.2.2.2)
  | .invokevirtual i => match e.2.2.2.1.getD 0 9 with
      | 0 => mm_pm.elem (x, i, e.2.2.2.1.getD 1 0, 0) && e.2.2.2.1.getD 2 0 == mm_na (e.2.2.2.1.getD 1 0) + 1 && e.2.2.2.1.getD 3 9 == mm_rt (e.2.2.2.1.getD 1 0) && e.2.2.2.1.getD 4 9 == mm_xt (mm_xq (e.2.2.2.1.getD 1 0))
      | k => mm_pi.elem (x, i, k + 10)
  | .invokestatic i => match e.2.2.2.1.getD 0 9 with
      | 0 => (mm_pm.elem (x, i, e.2.2.2.1.getD 1 0, 1) || mm_pm.elem (x, i, e.2.2.2.1.getD 1 0, 2)) && e.2.2.2.1.getD 2 0 == mm_na (e.2.2.2.1.getD 1 0) && e.2.2.2.1.getD 3 9 == mm_rt (e.2.2.2.1.getD 1 0)
      | k => mm_pi.elem (x, i, k)
  | .ireturn => match mm_r q with
      | some .int => !(e.2.2.2.1.headD 0 == 5)
      | some .boolean => e.2.2.2.1.headD 0 == 5
      | _ => false
  | .lreturn => mm_rt q == 1
  | .areturn => decide (mm_r q = some (.object "HiccupTown$Word"))
  | .return_ => mm_rt q == 8
  | _ => true
/-- what holds of a method's rows -/
def mm_rok (q : Nat) : Prop := ((mm_prog q).1.all fun e => decide (decode (mm_b q) e.1 = .ok (e.2.1, e.2.2.1)) && mm_chk (mm_xq q) q e) = true
set_option maxRecDepth 100000 in
theorem mm_rk0 : mm_rok 0 := by show (T_X0_readBook.all fun e => decide (decode cX0_readBook e.1 = .ok (e.2.1, e.2.2.1)) && mm_chk 0 0 e) = true; decide +kernel
set_option maxRecDepth 100000 in
theorem mm_rk1 : mm_rok 1 := by show (T_X0_readLine.all fun e => decide (decode cX0_readLine e.1 = .ok (e.2.1, e.2.2.1)) && mm_chk 0 1 e) = true; decide +kernel
set_option maxRecDepth 100000 in
theorem mm_rk2 : mm_rok 2 := by show (T_X0_isAct.all fun e => decide (decode cX0_isAct e.1 = .ok (e.2.1, e.2.2.1)) && mm_chk 0 2 e) = true; decide +kernel
set_option maxRecDepth 100000 in
theorem mm_rk3 : mm_rok 3 := by show (T_X0_actOf.all fun e => decide (decode cX0_actOf e.1 = .ok (e.2.1, e.2.2.1)) && mm_chk 0 3 e) = true; decide +kernel
set_option maxRecDepth 100000 in
theorem mm_rk4 : mm_rok 4 := by show (T_X0_readRelieve.all fun e => decide (decode cX0_readRelieve e.1 = .ok (e.2.1, e.2.2.1)) && mm_chk 0 4 e) = true; decide +kernel
set_option maxRecDepth 100000 in
theorem mm_rk5 : mm_rok 5 := by show (T_X0_readWalk.all fun e => decide (decode cX0_readWalk e.1 = .ok (e.2.1, e.2.2.1)) && mm_chk 0 5 e) = true; decide +kernel
set_option maxRecDepth 100000 in
theorem mm_rk6 : mm_rok 6 := by show (T_X0_add.all fun e => decide (decode cX0_add e.1 = .ok (e.2.1, e.2.2.1)) && mm_chk 0 6 e) = true; decide +kernel
set_option maxRecDepth 100000 in
theorem mm_rk7 : mm_rok 7 := by show (T_X0_live.all fun e => decide (decode cX0_live e.1 = .ok (e.2.1, e.2.2.1)) && mm_chk 0 7 e) = true; decide +kernel
set_option maxRecDepth 100000 in
theorem mm_rk8 : mm_rok 8 := by show (T_X0_tell.all fun e => decide (decode cX0_tell e.1 = .ok (e.2.1, e.2.2.1)) && mm_chk 0 8 e) = true; decide +kernel
set_option maxRecDepth 100000 in
theorem mm_rk9 : mm_rok 9 := by show (T_X1_judge.all fun e => decide (decode cX1_judge e.1 = .ok (e.2.1, e.2.2.1)) && mm_chk 1 9 e) = true; decide +kernel
set_option maxRecDepth 100000 in
theorem mm_rk10 : mm_rok 10 := by show (T_X1_arePairs.all fun e => decide (decode cX1_arePairs e.1 = .ok (e.2.1, e.2.2.1)) && mm_chk 1 10 e) = true; decide +kernel
set_option maxRecDepth 100000 in
theorem mm_rk11 : mm_rok 11 := by show (T_X1_leavesRests.all fun e => decide (decode cX1_leavesRests e.1 = .ok (e.2.1, e.2.2.1)) && mm_chk 1 11 e) = true; decide +kernel
set_option maxRecDepth 100000 in
theorem mm_rk12 : mm_rok 12 := by show (T_X1_keepBounds.all fun e => decide (decode cX1_keepBounds e.1 = .ok (e.2.1, e.2.2.1)) && mm_chk 1 12 e) = true; decide +kernel
set_option maxRecDepth 100000 in
theorem mm_rk13 : mm_rok 13 := by show (T_X1_thingToLookAt.all fun e => decide (decode cX1_thingToLookAt e.1 = .ok (e.2.1, e.2.2.1)) && mm_chk 1 13 e) = true; decide +kernel
set_option maxRecDepth 100000 in
theorem mm_rk14 : mm_rok 14 := by show (T_X1_mostLeftBy.all fun e => decide (decode cX1_mostLeftBy e.1 = .ok (e.2.1, e.2.2.1)) && mm_chk 1 14 e) = true; decide +kernel
set_option maxRecDepth 100000 in
theorem mm_rk15 : mm_rok 15 := by show (T_X2_begin.all fun e => decide (decode cX2_begin e.1 = .ok (e.2.1, e.2.2.1)) && mm_chk 2 15 e) = true; decide +kernel
set_option maxRecDepth 100000 in
theorem mm_rk16 : mm_rok 16 := by show (T_X2_copyFrom.all fun e => decide (decode cX2_copyFrom e.1 = .ok (e.2.1, e.2.2.1)) && mm_chk 2 16 e) = true; decide +kernel
set_option maxRecDepth 100000 in
theorem mm_rk17 : mm_rok 17 := by show (T_X2_isOut.all fun e => decide (decode cX2_isOut e.1 = .ok (e.2.1, e.2.2.1)) && mm_chk 2 17 e) = true; decide +kernel
set_option maxRecDepth 100000 in
theorem mm_rk18 : mm_rok 18 := by show (T_X2_isDone.all fun e => decide (decode cX2_isDone e.1 = .ok (e.2.1, e.2.2.1)) && mm_chk 2 18 e) = true; decide +kernel
set_option maxRecDepth 100000 in
theorem mm_rk19 : mm_rok 19 := by show (T_X2_secondsLeft.all fun e => decide (decode cX2_secondsLeft e.1 = .ok (e.2.1, e.2.2.1)) && mm_chk 2 19 e) = true; decide +kernel
set_option maxRecDepth 100000 in
theorem mm_rk20 : mm_rok 20 := by show (T_X2_doneWorks.all fun e => decide (decode cX2_doneWorks e.1 = .ok (e.2.1, e.2.2.1)) && mm_chk 2 20 e) = true; decide +kernel
set_option maxRecDepth 100000 in
theorem mm_rk21 : mm_rok 21 := by show (T_X2_openWorks.all fun e => decide (decode cX2_openWorks e.1 = .ok (e.2.1, e.2.2.1)) && mm_chk 2 21 e) = true; decide +kernel
set_option maxRecDepth 100000 in
theorem mm_rk22 : mm_rok 22 := by show (T_X2_howWorkIs.all fun e => decide (decode cX2_howWorkIs e.1 = .ok (e.2.1, e.2.2.1)) && mm_chk 2 22 e) = true; decide +kernel
set_option maxRecDepth 100000 in
theorem mm_rk23 : mm_rok 23 := by show (T_X2_isBusy.all fun e => decide (decode cX2_isBusy e.1 = .ok (e.2.1, e.2.2.1)) && mm_chk 2 23 e) = true; decide +kernel
set_option maxRecDepth 100000 in
theorem mm_rk24 : mm_rok 24 := by show (T_X2_placeBehind.all fun e => decide (decode cX2_placeBehind e.1 = .ok (e.2.1, e.2.2.1)) && mm_chk 2 24 e) = true; decide +kernel
set_option maxRecDepth 100000 in
theorem mm_rk25 : mm_rok 25 := by show (T_X2_somebodyWalksAt.all fun e => decide (decode cX2_somebodyWalksAt e.1 = .ok (e.2.1, e.2.2.1)) && mm_chk 2 25 e) = true; decide +kernel
set_option maxRecDepth 100000 in
theorem mm_rk26 : mm_rok 26 := by show (T_X2_act.all fun e => decide (decode cX2_act e.1 = .ok (e.2.1, e.2.2.1)) && mm_chk 2 26 e) = true; decide +kernel
set_option maxRecDepth 100000 in
theorem mm_rk27 : mm_rok 27 := by show (T_X2_takeFright.all fun e => decide (decode cX2_takeFright e.1 = .ok (e.2.1, e.2.2.1)) && mm_chk 2 27 e) = true; decide +kernel
set_option maxRecDepth 100000 in
theorem mm_rk28 : mm_rok 28 := by show (T_X2_takeCure.all fun e => decide (decode cX2_takeCure e.1 = .ok (e.2.1, e.2.2.1)) && mm_chk 2 28 e) = true; decide +kernel
set_option maxRecDepth 100000 in
theorem mm_rk29 : mm_rok 29 := by show (T_X2_takeFly.all fun e => decide (decode cX2_takeFly e.1 = .ok (e.2.1, e.2.2.1)) && mm_chk 2 29 e) = true; decide +kernel
set_option maxRecDepth 100000 in
theorem mm_rk30 : mm_rok 30 := by show (T_X2_changeBeater.all fun e => decide (decode cX2_changeBeater e.1 = .ok (e.2.1, e.2.2.1)) && mm_chk 2 30 e) = true; decide +kernel
set_option maxRecDepth 100000 in
theorem mm_rk31 : mm_rok 31 := by show (T_X2_goOut.all fun e => decide (decode cX2_goOut e.1 = .ok (e.2.1, e.2.2.1)) && mm_chk 2 31 e) = true; decide +kernel
set_option maxRecDepth 100000 in
theorem mm_rk32 : mm_rok 32 := by show (T_X2_comeIn.all fun e => decide (decode cX2_comeIn e.1 = .ok (e.2.1, e.2.2.1)) && mm_chk 2 32 e) = true; decide +kernel
set_option maxRecDepth 100000 in
theorem mm_rk33 : mm_rok 33 := by show (T_X2_passAll.all fun e => decide (decode cX2_passAll e.1 = .ok (e.2.1, e.2.2.1)) && mm_chk 2 33 e) = true; decide +kernel
set_option maxRecDepth 100000 in
theorem mm_rk34 : mm_rok 34 := by show (T_X2_passSecond.all fun e => decide (decode cX2_passSecond e.1 = .ok (e.2.1, e.2.2.1)) && mm_chk 2 34 e) = true; decide +kernel
set_option maxRecDepth 100000 in
theorem mm_rk35 : mm_rok 35 := by show (T_X2_beat.all fun e => decide (decode cX2_beat e.1 = .ok (e.2.1, e.2.2.1)) && mm_chk 2 35 e) = true; decide +kernel
set_option maxRecDepth 100000 in
theorem mm_rk36 : mm_rok 36 := by show (T_X2_secondsTillDone.all fun e => decide (decode cX2_secondsTillDone e.1 = .ok (e.2.1, e.2.2.1)) && mm_chk 2 36 e) = true; decide +kernel
set_option maxRecDepth 100000 in
theorem mm_rk37 : mm_rok 37 := by show (T_X2_secondsTillFree.all fun e => decide (decode cX2_secondsTillFree e.1 = .ok (e.2.1, e.2.2.1)) && mm_chk 2 37 e) = true; decide +kernel
set_option maxRecDepth 100000 in
theorem mm_rk38 : mm_rok 38 := by show (T_X2_passDrawn.all fun e => decide (decode cX2_passDrawn e.1 = .ok (e.2.1, e.2.2.1)) && mm_chk 2 38 e) = true; decide +kernel
set_option maxRecDepth 100000 in
theorem mm_rk39 : mm_rok 39 := by show (T_X2_passDrawnSecond.all fun e => decide (decode cX2_passDrawnSecond e.1 = .ok (e.2.1, e.2.2.1)) && mm_chk 2 39 e) = true; decide +kernel
set_option maxRecDepth 100000 in
theorem mm_rk40 : mm_rok 40 := by show (T_X2_leaveOrJoin.all fun e => decide (decode cX2_leaveOrJoin e.1 = .ok (e.2.1, e.2.2.1)) && mm_chk 2 40 e) = true; decide +kernel
set_option maxRecDepth 100000 in
theorem mm_rk41 : mm_rok 41 := by show (T_X2_stir.all fun e => decide (decode cX2_stir e.1 = .ok (e.2.1, e.2.2.1)) && mm_chk 2 41 e) = true; decide +kernel
set_option maxRecDepth 100000 in
theorem mm_rk42 : mm_rok 42 := by show (T_X2_drawOf.all fun e => decide (decode cX2_drawOf e.1 = .ok (e.2.1, e.2.2.1)) && mm_chk 2 42 e) = true; decide +kernel
set_option maxRecDepth 100000 in
theorem mm_rk43 : mm_rok 43 := by show (T_X2_votesBehindRound.all fun e => decide (decode cX2_votesBehindRound e.1 = .ok (e.2.1, e.2.2.1)) && mm_chk 2 43 e) = true; decide +kernel
set_option maxRecDepth 100000 in
theorem mm_rk44 : mm_rok 44 := by show (T_X2_votesBehind.all fun e => decide (decode cX2_votesBehind e.1 = .ok (e.2.1, e.2.2.1)) && mm_chk 2 44 e) = true; decide +kernel
set_option maxRecDepth 100000 in
theorem mm_rk45 : mm_rok 45 := by show (T_X2_willBeNear.all fun e => decide (decode cX2_willBeNear e.1 = .ok (e.2.1, e.2.2.1)) && mm_chk 2 45 e) = true; decide +kernel
set_option maxRecDepth 100000 in
theorem mm_rk46 : mm_rok 46 := by show (T_X3_forget.all fun e => decide (decode cX3_forget e.1 = .ok (e.2.1, e.2.2.1)) && mm_chk 3 46 e) = true; decide +kernel
set_option maxRecDepth 100000 in
theorem mm_rk47 : mm_rok 47 := by show (T_X3_keep.all fun e => decide (decode cX3_keep e.1 = .ok (e.2.1, e.2.2.1)) && mm_chk 3 47 e) = true; decide +kernel
set_option maxRecDepth 100000 in
theorem mm_rk48 : mm_rok 48 := by show (T_X3_takeBack.all fun e => decide (decode cX3_takeBack e.1 = .ok (e.2.1, e.2.2.1)) && mm_chk 3 48 e) = true; decide +kernel
set_option maxRecDepth 100000 in
theorem mm_rk49 : mm_rok 49 := by show (T_X4_clear.all fun e => decide (decode cX4_clear e.1 = .ok (e.2.1, e.2.2.1)) && mm_chk 4 49 e) = true; decide +kernel
set_option maxRecDepth 100000 in
theorem mm_rk50 : mm_rok 50 := by show (T_X4_copyFrom.all fun e => decide (decode cX4_copyFrom e.1 = .ok (e.2.1, e.2.2.1)) && mm_chk 4 50 e) = true; decide +kernel
set_option maxRecDepth 100000 in
theorem mm_rk51 : mm_rok 51 := by show (T_X4_has.all fun e => decide (decode cX4_has e.1 = .ok (e.2.1, e.2.2.1)) && mm_chk 4 51 e) = true; decide +kernel
set_option maxRecDepth 100000 in
theorem mm_rk52 : mm_rok 52 := by show (T_X4_isFull.all fun e => decide (decode cX4_isFull e.1 = .ok (e.2.1, e.2.2.1)) && mm_chk 4 52 e) = true; decide +kernel
set_option maxRecDepth 100000 in
theorem mm_rk53 : mm_rok 53 := by show (T_X4_beaters.all fun e => decide (decode cX4_beaters e.1 = .ok (e.2.1, e.2.2.1)) && mm_chk 4 53 e) = true; decide +kernel
set_option maxRecDepth 100000 in
theorem mm_rk54 : mm_rok 54 := by show (T_X4_mayBeat.all fun e => decide (decode cX4_mayBeat e.1 = .ok (e.2.1, e.2.2.1)) && mm_chk 4 54 e) = true; decide +kernel
set_option maxRecDepth 100000 in
theorem mm_rk55 : mm_rok 55 := by show (T_X4_gapOf.all fun e => decide (decode cX4_gapOf e.1 = .ok (e.2.1, e.2.2.1)) && mm_chk 4 55 e) = true; decide +kernel
set_option maxRecDepth 100000 in
theorem mm_rk56 : mm_rok 56 := by show (T_X4_addName.all fun e => decide (decode cX4_addName e.1 = .ok (e.2.1, e.2.2.1)) && mm_chk 4 56 e) = true; decide +kernel
set_option maxRecDepth 100000 in
theorem mm_rk57 : mm_rok 57 := by show (T_X4_nameOf.all fun e => decide (decode cX4_nameOf e.1 = .ok (e.2.1, e.2.2.1)) && mm_chk 4 57 e) = true; decide +kernel
set_option maxRecDepth 100000 in
theorem mm_rk58 : mm_rok 58 := by show (T_X4_numberOf.all fun e => decide (decode cX4_numberOf e.1 = .ok (e.2.1, e.2.2.1)) && mm_chk 4 58 e) = true; decide +kernel
set_option maxRecDepth 100000 in
theorem mm_rk59 : mm_rok 59 := by show (T_X4_knows.all fun e => decide (decode cX4_knows e.1 = .ok (e.2.1, e.2.2.1)) && mm_chk 4 59 e) = true; decide +kernel
set_option maxRecDepth 100000 in
theorem mm_rk60 : mm_rok 60 := by show (T_X4_placeOn.all fun e => decide (decode cX4_placeOn e.1 = .ok (e.2.1, e.2.2.1)) && mm_chk 4 60 e) = true; decide +kernel
set_option maxRecDepth 100000 in
theorem mm_rk61 : mm_rok 61 := by show (T_X5_countFor.all fun e => decide (decode cX5_countFor e.1 = .ok (e.2.1, e.2.2.1)) && mm_chk 5 61 e) = true; decide +kernel
set_option maxRecDepth 100000 in
theorem mm_rk62 : mm_rok 62 := by show (T_X5_waysWithOneMore.all fun e => decide (decode cX5_waysWithOneMore e.1 = .ok (e.2.1, e.2.2.1)) && mm_chk 5 62 e) = true; decide +kernel
set_option maxRecDepth 100000 in
theorem mm_rk63 : mm_rok 63 := by show (T_X5_keepFirst.all fun e => decide (decode cX5_keepFirst e.1 = .ok (e.2.1, e.2.2.1)) && mm_chk 5 63 e) = true; decide +kernel
set_option maxRecDepth 100000 in
theorem mm_rk64 : mm_rok 64 := by show (T_X5_leastBeater.all fun e => decide (decode cX5_leastBeater e.1 = .ok (e.2.1, e.2.2.1)) && mm_chk 5 64 e) = true; decide +kernel
set_option maxRecDepth 100000 in
theorem mm_rk65 : mm_rok 65 := by show (T_X6_begin.all fun e => decide (decode cX6_begin e.1 = .ok (e.2.1, e.2.2.1)) && mm_chk 6 65 e) = true; decide +kernel
set_option maxRecDepth 100000 in
theorem mm_rk66 : mm_rok 66 := by show (T_X6_copyFrom.all fun e => decide (decode cX6_copyFrom e.1 = .ok (e.2.1, e.2.2.1)) && mm_chk 6 66 e) = true; decide +kernel
set_option maxRecDepth 100000 in
theorem mm_rk67 : mm_rok 67 := by show (T_X7_clear.all fun e => decide (decode cX7_clear e.1 = .ok (e.2.1, e.2.2.1)) && mm_chk 7 67 e) = true; decide +kernel
set_option maxRecDepth 100000 in
theorem mm_rk68 : mm_rok 68 := by show (T_X7_isTold.all fun e => decide (decode cX7_isTold e.1 = .ok (e.2.1, e.2.2.1)) && mm_chk 7 68 e) = true; decide +kernel
set_option maxRecDepth 100000 in
theorem mm_rk69 : mm_rok 69 := by show (T_X7_copyFrom.all fun e => decide (decode cX7_copyFrom e.1 = .ok (e.2.1, e.2.2.1)) && mm_chk 7 69 e) = true; decide +kernel
set_option maxRecDepth 100000 in
theorem mm_rk70 : mm_rok 70 := by show (T_X7_readSentence.all fun e => decide (decode cX7_readSentence e.1 = .ok (e.2.1, e.2.2.1)) && mm_chk 7 70 e) = true; decide +kernel
set_option maxRecDepth 100000 in
theorem mm_rk71 : mm_rok 71 := by show (T_X7_readCond.all fun e => decide (decode cX7_readCond e.1 = .ok (e.2.1, e.2.2.1)) && mm_chk 7 71 e) = true; decide +kernel
set_option maxRecDepth 100000 in
theorem mm_rk72 : mm_rok 72 := by show (T_X7_readAll.all fun e => decide (decode cX7_readAll e.1 = .ok (e.2.1, e.2.2.1)) && mm_chk 7 72 e) = true; decide +kernel
set_option maxRecDepth 100000 in
theorem mm_rk73 : mm_rok 73 := by show (T_X7_readOne.all fun e => decide (decode cX7_readOne e.1 = .ok (e.2.1, e.2.2.1)) && mm_chk 7 73 e) = true; decide +kernel
set_option maxRecDepth 100000 in
theorem mm_rk74 : mm_rok 74 := by show (T_X7_beginsOne.all fun e => decide (decode cX7_beginsOne e.1 = .ok (e.2.1, e.2.2.1)) && mm_chk 7 74 e) = true; decide +kernel
set_option maxRecDepth 100000 in
theorem mm_rk75 : mm_rok 75 := by show (T_X7_readCompared.all fun e => decide (decode cX7_readCompared e.1 = .ok (e.2.1, e.2.2.1)) && mm_chk 7 75 e) = true; decide +kernel
set_option maxRecDepth 100000 in
theorem mm_rk76 : mm_rok 76 := by show (T_X7_add.all fun e => decide (decode cX7_add e.1 = .ok (e.2.1, e.2.2.1)) && mm_chk 7 76 e) = true; decide +kernel
set_option maxRecDepth 100000 in
theorem mm_rk77 : mm_rok 77 := by show (T_X7_holds.all fun e => decide (decode cX7_holds e.1 = .ok (e.2.1, e.2.2.1)) && mm_chk 7 77 e) = true; decide +kernel
set_option maxRecDepth 100000 in
theorem mm_rk78 : mm_rok 78 := by show (T_X7_holdsAlone.all fun e => decide (decode cX7_holdsAlone e.1 = .ok (e.2.1, e.2.2.1)) && mm_chk 7 78 e) = true; decide +kernel
set_option maxRecDepth 100000 in
theorem mm_rk79 : mm_rok 79 := by show (T_X7_measure.all fun e => decide (decode cX7_measure e.1 = .ok (e.2.1, e.2.2.1)) && mm_chk 7 79 e) = true; decide +kernel
set_option maxRecDepth 100000 in
theorem mm_rk80 : mm_rok 80 := by show (T_X7_compares.all fun e => decide (decode cX7_compares e.1 = .ok (e.2.1, e.2.2.1)) && mm_chk 7 80 e) = true; decide +kernel
set_option maxRecDepth 100000 in
theorem mm_rk81 : mm_rok 81 := by show (T_X8_append.all fun e => decide (decode cX8_append e.1 = .ok (e.2.1, e.2.2.1)) && mm_chk 8 81 e) = true; decide +kernel
set_option maxRecDepth 100000 in
theorem mm_rk82 : mm_rok 82 := by show (T_X8_get.all fun e => decide (decode cX8_get e.1 = .ok (e.2.1, e.2.2.1)) && mm_chk 8 82 e) = true; decide +kernel
set_option maxRecDepth 100000 in
theorem mm_rk83 : mm_rok 83 := by show (T_X8_beginText.all fun e => decide (decode cX8_beginText e.1 = .ok (e.2.1, e.2.2.1)) && mm_chk 8 83 e) = true; decide +kernel
set_option maxRecDepth 100000 in
theorem mm_rk84 : mm_rok 84 := by show (T_X8_advance.all fun e => decide (decode cX8_advance e.1 = .ok (e.2.1, e.2.2.1)) && mm_chk 8 84 e) = true; decide +kernel
set_option maxRecDepth 100000 in
theorem mm_rk85 : mm_rok 85 := by show (T_X8_skipBlanks.all fun e => decide (decode cX8_skipBlanks e.1 = .ok (e.2.1, e.2.2.1)) && mm_chk 8 85 e) = true; decide +kernel
set_option maxRecDepth 100000 in
theorem mm_rk86 : mm_rok 86 := by show (T_X8_readToken.all fun e => decide (decode cX8_readToken e.1 = .ok (e.2.1, e.2.2.1)) && mm_chk 8 86 e) = true; decide +kernel
set_option maxRecDepth 100000 in
theorem mm_rk87 : mm_rok 87 := by show (T_X8_joinLetters.all fun e => decide (decode cX8_joinLetters e.1 = .ok (e.2.1, e.2.2.1)) && mm_chk 8 87 e) = true; decide +kernel
set_option maxRecDepth 100000 in
theorem mm_rk88 : mm_rok 88 := by show (T_X8_joinDigits.all fun e => decide (decode cX8_joinDigits e.1 = .ok (e.2.1, e.2.2.1)) && mm_chk 8 88 e) = true; decide +kernel
set_option maxRecDepth 100000 in
theorem mm_rk89 : mm_rok 89 := by show (T_X8_failAt.all fun e => decide (decode cX8_failAt e.1 = .ok (e.2.1, e.2.2.1)) && mm_chk 8 89 e) = true; decide +kernel
set_option maxRecDepth 100000 in
theorem mm_rk90 : mm_rok 90 := by show (T_X8_fail.all fun e => decide (decode cX8_fail e.1 = .ok (e.2.1, e.2.2.1)) && mm_chk 8 90 e) = true; decide +kernel
set_option maxRecDepth 100000 in
theorem mm_rk91 : mm_rok 91 := by show (T_X8_take.all fun e => decide (decode cX8_take e.1 = .ok (e.2.1, e.2.2.1)) && mm_chk 8 91 e) = true; decide +kernel
set_option maxRecDepth 100000 in
theorem mm_rk92 : mm_rok 92 := by show (T_X8_takeNumber.all fun e => decide (decode cX8_takeNumber e.1 = .ok (e.2.1, e.2.2.1)) && mm_chk 8 92 e) = true; decide +kernel
set_option maxRecDepth 100000 in
theorem mm_rk93 : mm_rok 93 := by show (T_X8_takeOneOf.all fun e => decide (decode cX8_takeOneOf e.1 = .ok (e.2.1, e.2.2.1)) && mm_chk 8 93 e) = true; decide +kernel
set_option maxRecDepth 100000 in
theorem mm_rk94 : mm_rok 94 := by show (T_X9_readTown.all fun e => decide (decode cX9_readTown e.1 = .ok (e.2.1, e.2.2.1)) && mm_chk 9 94 e) = true; decide +kernel
set_option maxRecDepth 100000 in
theorem mm_rk95 : mm_rok 95 := by show (T_X9_readLine.all fun e => decide (decode cX9_readLine e.1 = .ok (e.2.1, e.2.2.1)) && mm_chk 9 95 e) = true; decide +kernel
set_option maxRecDepth 100000 in
theorem mm_rk96 : mm_rok 96 := by show (T_X9_readRing.all fun e => decide (decode cX9_readRing e.1 = .ok (e.2.1, e.2.2.1)) && mm_chk 9 96 e) = true; decide +kernel
set_option maxRecDepth 100000 in
theorem mm_rk97 : mm_rok 97 := by show (T_X9_readGap.all fun e => decide (decode cX9_readGap e.1 = .ok (e.2.1, e.2.2.1)) && mm_chk 9 97 e) = true; decide +kernel
set_option maxRecDepth 100000 in
theorem mm_rk98 : mm_rok 98 := by show (T_X9_readNewOne.all fun e => decide (decode cX9_readNewOne e.1 = .ok (e.2.1, e.2.2.1)) && mm_chk 9 98 e) = true; decide +kernel
set_option maxRecDepth 100000 in
theorem mm_rk99 : mm_rok 99 := by show (T_X9_readCousin.all fun e => decide (decode cX9_readCousin e.1 = .ok (e.2.1, e.2.2.1)) && mm_chk 9 99 e) = true; decide +kernel
set_option maxRecDepth 100000 in
theorem mm_rk100 : mm_rok 100 := by show (T_X9_readPerson.all fun e => decide (decode cX9_readPerson e.1 = .ok (e.2.1, e.2.2.1)) && mm_chk 9 100 e) = true; decide +kernel
set_option maxRecDepth 100000 in
theorem mm_rk101 : mm_rok 101 := by show (T_X9_readWork.all fun e => decide (decode cX9_readWork e.1 = .ok (e.2.1, e.2.2.1)) && mm_chk 9 101 e) = true; decide +kernel
set_option maxRecDepth 100000 in
theorem mm_rk102 : mm_rok 102 := by show (T_X9_readAfter.all fun e => decide (decode cX9_readAfter e.1 = .ok (e.2.1, e.2.2.1)) && mm_chk 9 102 e) = true; decide +kernel
set_option maxRecDepth 100000 in
theorem mm_rk103 : mm_rok 103 := by show (T_X9_readThing.all fun e => decide (decode cX9_readThing e.1 = .ok (e.2.1, e.2.2.1)) && mm_chk 9 103 e) = true; decide +kernel
set_option maxRecDepth 100000 in
theorem mm_rk104 : mm_rok 104 := by show (T_X10_find.all fun e => decide (decode cX10_find e.1 = .ok (e.2.1, e.2.2.1)) && mm_chk 10 104 e) = true; decide +kernel
set_option maxRecDepth 100000 in
theorem mm_rk105 : mm_rok 105 := by show (T_X11_feed.all fun e => decide (decode cX11_feed e.1 = .ok (e.2.1, e.2.2.1)) && mm_chk 11 105 e) = true; decide +kernel
set_option maxRecDepth 100000 in
theorem mm_rk106 : mm_rok 106 := by show (T_X11_end.all fun e => decide (decode cX11_end e.1 = .ok (e.2.1, e.2.2.1)) && mm_chk 11 106 e) = true; decide +kernel
set_option maxRecDepth 100000 in
theorem mm_rk107 : mm_rok 107 := by show (T_X11_town.all fun e => decide (decode cX11_town e.1 = .ok (e.2.1, e.2.2.1)) && mm_chk 11 107 e) = true; decide +kernel
set_option maxRecDepth 100000 in
theorem mm_rk108 : mm_rok 108 := by show (T_X11_fault.all fun e => decide (decode cX11_fault e.1 = .ok (e.2.1, e.2.2.1)) && mm_chk 11 108 e) = true; decide +kernel
set_option maxRecDepth 100000 in
theorem mm_rk109 : mm_rok 109 := by show (T_X11_work.all fun e => decide (decode cX11_work e.1 = .ok (e.2.1, e.2.2.1)) && mm_chk 11 109 e) = true; decide +kernel
set_option maxRecDepth 100000 in
theorem mm_rk110 : mm_rok 110 := by show (T_X11_gap.all fun e => decide (decode cX11_gap e.1 = .ok (e.2.1, e.2.2.1)) && mm_chk 11 110 e) = true; decide +kernel
set_option maxRecDepth 100000 in
theorem mm_rk111 : mm_rok 111 := by show (T_X11_now.all fun e => decide (decode cX11_now e.1 = .ok (e.2.1, e.2.2.1)) && mm_chk 11 111 e) = true; decide +kernel
set_option maxRecDepth 100000 in
theorem mm_rk112 : mm_rok 112 := by show (T_X11_fright.all fun e => decide (decode cX11_fright e.1 = .ok (e.2.1, e.2.2.1)) && mm_chk 11 112 e) = true; decide +kernel
set_option maxRecDepth 100000 in
theorem mm_rk113 : mm_rok 113 := by show (T_X11_cure.all fun e => decide (decode cX11_cure e.1 = .ok (e.2.1, e.2.2.1)) && mm_chk 11 113 e) = true; decide +kernel
set_option maxRecDepth 100000 in
theorem mm_rk114 : mm_rok 114 := by show (T_X11_fly.all fun e => decide (decode cX11_fly e.1 = .ok (e.2.1, e.2.2.1)) && mm_chk 11 114 e) = true; decide +kernel
set_option maxRecDepth 100000 in
theorem mm_rk115 : mm_rok 115 := by show (T_X11_relieve.all fun e => decide (decode cX11_relieve e.1 = .ok (e.2.1, e.2.2.1)) && mm_chk 11 115 e) = true; decide +kernel
set_option maxRecDepth 100000 in
theorem mm_rk116 : mm_rok 116 := by show (T_X11_leave.all fun e => decide (decode cX11_leave e.1 = .ok (e.2.1, e.2.2.1)) && mm_chk 11 116 e) = true; decide +kernel
set_option maxRecDepth 100000 in
theorem mm_rk117 : mm_rok 117 := by show (T_X11_join.all fun e => decide (decode cX11_join e.1 = .ok (e.2.1, e.2.2.1)) && mm_chk 11 117 e) = true; decide +kernel
set_option maxRecDepth 100000 in
theorem mm_rk118 : mm_rok 118 := by show (T_X11_seconds.all fun e => decide (decode cX11_seconds e.1 = .ok (e.2.1, e.2.2.1)) && mm_chk 11 118 e) = true; decide +kernel
set_option maxRecDepth 100000 in
theorem mm_rk119 : mm_rok 119 := by show (T_X11_undo.all fun e => decide (decode cX11_undo e.1 = .ok (e.2.1, e.2.2.1)) && mm_chk 11 119 e) = true; decide +kernel
set_option maxRecDepth 100000 in
theorem mm_rk120 : mm_rok 120 := by show (T_X11_at.all fun e => decide (decode cX11_at e.1 = .ok (e.2.1, e.2.2.1)) && mm_chk 11 120 e) = true; decide +kernel
set_option maxRecDepth 100000 in
theorem mm_rk121 : mm_rok 121 := by show (T_X11_meet.all fun e => decide (decode cX11_meet e.1 = .ok (e.2.1, e.2.2.1)) && mm_chk 11 121 e) = true; decide +kernel
set_option maxRecDepth 100000 in
theorem mm_rk122 : mm_rok 122 := by show (T_X11_when.all fun e => decide (decode cX11_when e.1 = .ok (e.2.1, e.2.2.1)) && mm_chk 11 122 e) = true; decide +kernel
set_option maxRecDepth 100000 in
theorem mm_rk123 : mm_rok 123 := by show (T_X11_once.all fun e => decide (decode cX11_once e.1 = .ok (e.2.1, e.2.2.1)) && mm_chk 11 123 e) = true; decide +kernel
set_option maxRecDepth 100000 in
theorem mm_rk124 : mm_rok 124 := by show (T_X11_stood.all fun e => decide (decode cX11_stood e.1 = .ok (e.2.1, e.2.2.1)) && mm_chk 11 124 e) = true; decide +kernel
set_option maxRecDepth 100000 in
theorem mm_rk125 : mm_rok 125 := by show (T_X11_stoodLeast.all fun e => decide (decode cX11_stoodLeast e.1 = .ok (e.2.1, e.2.2.1)) && mm_chk 11 125 e) = true; decide +kernel
set_option maxRecDepth 100000 in
theorem mm_rk126 : mm_rok 126 := by show (T_X11_stoodMost.all fun e => decide (decode cX11_stoodMost e.1 = .ok (e.2.1, e.2.2.1)) && mm_chk 11 126 e) = true; decide +kernel
set_option maxRecDepth 100000 in
theorem mm_rk127 : mm_rok 127 := by show (T_X11_next.all fun e => decide (decode cX11_next e.1 = .ok (e.2.1, e.2.2.1)) && mm_chk 11 127 e) = true; decide +kernel
set_option maxRecDepth 100000 in
theorem mm_rk128 : mm_rok 128 := by show (T_X11_rows.all fun e => decide (decode cX11_rows e.1 = .ok (e.2.1, e.2.2.1)) && mm_chk 11 128 e) = true; decide +kernel
set_option maxRecDepth 100000 in
theorem mm_rk129 : mm_rok 129 := by show (T_X11_rowAt.all fun e => decide (decode cX11_rowAt e.1 = .ok (e.2.1, e.2.2.1)) && mm_chk 11 129 e) = true; decide +kernel
set_option maxRecDepth 100000 in
theorem mm_rk130 : mm_rok 130 := by show (T_X11_swift.all fun e => decide (decode cX11_swift e.1 = .ok (e.2.1, e.2.2.1)) && mm_chk 11 130 e) = true; decide +kernel
set_option maxRecDepth 100000 in
theorem mm_rk131 : mm_rok 131 := by show (T_X11_joins.all fun e => decide (decode cX11_joins e.1 = .ok (e.2.1, e.2.2.1)) && mm_chk 11 131 e) = true; decide +kernel
set_option maxRecDepth 100000 in
theorem mm_rk132 : mm_rok 132 := by show (T_X11_vote.all fun e => decide (decode cX11_vote e.1 = .ok (e.2.1, e.2.2.1)) && mm_chk 11 132 e) = true; decide +kernel
set_option maxRecDepth 100000 in
theorem mm_rk133 : mm_rok 133 := by show (T_X11_voted.all fun e => decide (decode cX11_voted e.1 = .ok (e.2.1, e.2.2.1)) && mm_chk 11 133 e) = true; decide +kernel
set_option maxRecDepth 100000 in
theorem mm_rk134 : mm_rok 134 := by show (T_X11_tag.all fun e => decide (decode cX11_tag e.1 = .ok (e.2.1, e.2.2.1)) && mm_chk 11 134 e) = true; decide +kernel
set_option maxRecDepth 100000 in
theorem mm_rk135 : mm_rok 135 := by show (T_X11_byteAt.all fun e => decide (decode cX11_byteAt e.1 = .ok (e.2.1, e.2.2.1)) && mm_chk 11 135 e) = true; decide +kernel
set_option maxRecDepth 100000 in
theorem mm_rk136 : mm_rok 136 := by show (T_X11_drawn.all fun e => decide (decode cX11_drawn e.1 = .ok (e.2.1, e.2.2.1)) && mm_chk 11 136 e) = true; decide +kernel
set_option maxRecDepth 100000 in
theorem mm_rk137 : mm_rok 137 := by show (T_X11_odds.all fun e => decide (decode cX11_odds e.1 = .ok (e.2.1, e.2.2.1)) && mm_chk 11 137 e) = true; decide +kernel
set_option maxRecDepth 100000 in
theorem mm_rk138 : mm_rok 138 := by show (T_X11_book.all fun e => decide (decode cX11_book e.1 = .ok (e.2.1, e.2.2.1)) && mm_chk 11 138 e) = true; decide +kernel
set_option maxRecDepth 100000 in
theorem mm_rk139 : mm_rok 139 := by show (T_X11_told.all fun e => decide (decode cX11_told e.1 = .ok (e.2.1, e.2.2.1)) && mm_chk 11 139 e) = true; decide +kernel
set_option maxRecDepth 100000 in
theorem mm_rk140 : mm_rok 140 := by show (T_X11_sentence.all fun e => decide (decode cX11_sentence e.1 = .ok (e.2.1, e.2.2.1)) && mm_chk 11 140 e) = true; decide +kernel
set_option maxRecDepth 100000 in
theorem mm_rk141 : mm_rok 141 := by show (T_X11_said.all fun e => decide (decode cX11_said e.1 = .ok (e.2.1, e.2.2.1)) && mm_chk 11 141 e) = true; decide +kernel
set_option maxRecDepth 100000 in
theorem mm_rk142 : mm_rok 142 := by show (T_X11_image.all fun e => decide (decode cX11_image e.1 = .ok (e.2.1, e.2.2.1)) && mm_chk 11 142 e) = true; decide +kernel
set_option maxRecDepth 100000 in
theorem mm_rk143 : mm_rok 143 := by show (T_X11_restore.all fun e => decide (decode cX11_restore e.1 = .ok (e.2.1, e.2.2.1)) && mm_chk 11 143 e) = true; decide +kernel
set_option maxRecDepth 100000 in
theorem mm_rk144 : mm_rok 144 := by show (T_X11_count.all fun e => decide (decode cX11_count e.1 = .ok (e.2.1, e.2.2.1)) && mm_chk 11 144 e) = true; decide +kernel
set_option maxRecDepth 100000 in
theorem mm_rk145 : mm_rok 145 := by show (T_X11_endText.all fun e => decide (decode cX11_endText e.1 = .ok (e.2.1, e.2.2.1)) && mm_chk 11 145 e) = true; decide +kernel
set_option maxRecDepth 100000 in
theorem mm_rk146 : mm_rok 146 := by show (T_X11_actKept.all fun e => decide (decode cX11_actKept e.1 = .ok (e.2.1, e.2.2.1)) && mm_chk 11 146 e) = true; decide +kernel
set_option maxRecDepth 100000 in
theorem mm_rk147 : mm_rok 147 := by show (T_X11_keepBefore.all fun e => decide (decode cX11_keepBefore e.1 = .ok (e.2.1, e.2.2.1)) && mm_chk 11 147 e) = true; decide +kernel
set_option maxRecDepth 100000 in
theorem mm_rk148 : mm_rok 148 := by show (T_X11_tagByte.all fun e => decide (decode cX11_tagByte e.1 = .ok (e.2.1, e.2.2.1)) && mm_chk 11 148 e) = true; decide +kernel
set_option maxRecDepth 100000 in
theorem mm_rk149 : mm_rok 149 := by show (T_X11_tagName.all fun e => decide (decode cX11_tagName e.1 = .ok (e.2.1, e.2.2.1)) && mm_chk 11 149 e) = true; decide +kernel
set_option maxRecDepth 100000 in
theorem mm_rk150 : mm_rok 150 := by show (T_X11_tagText.all fun e => decide (decode cX11_tagText e.1 = .ok (e.2.1, e.2.2.1)) && mm_chk 11 150 e) = true; decide +kernel
set_option maxRecDepth 100000 in
theorem mm_rk151 : mm_rok 151 := by show (T_X11_tagNumber.all fun e => decide (decode cX11_tagNumber e.1 = .ok (e.2.1, e.2.2.1)) && mm_chk 11 151 e) = true; decide +kernel
set_option maxRecDepth 100000 in
theorem mm_rk152 : mm_rok 152 := by show (T_X11_hasBit.all fun e => decide (decode cX11_hasBit e.1 = .ok (e.2.1, e.2.2.1)) && mm_chk 11 152 e) = true; decide +kernel
set_option maxRecDepth 100000 in
theorem mm_rk153 : mm_rok 153 := by show (T_X11_remainder.all fun e => decide (decode cX11_remainder e.1 = .ok (e.2.1, e.2.2.1)) && mm_chk 11 153 e) = true; decide +kernel
set_option maxRecDepth 100000 in
theorem mm_rk154 : mm_rok 154 := by show (T_X12_thrown.all fun e => decide (decode cX12_thrown e.1 = .ok (e.2.1, e.2.2.1)) && mm_chk 12 154 e) = true; decide +kernel
set_option maxRecDepth 100000 in
theorem mm_rk155 : mm_rok 155 := by show (T_X12_refuse.all fun e => decide (decode cX12_refuse e.1 = .ok (e.2.1, e.2.2.1)) && mm_chk 12 155 e) = true; decide +kernel
set_option maxRecDepth 100000 in
theorem mm_rk156 : mm_rok 156 := by show (T_X12_come.all fun e => decide (decode cX12_come e.1 = .ok (e.2.1, e.2.2.1)) && mm_chk 12 156 e) = true; decide +kernel
set_option maxRecDepth 100000 in
theorem mm_rk157 : mm_rok 157 := by show (T_X12_feed.all fun e => decide (decode cX12_feed e.1 = .ok (e.2.1, e.2.2.1)) && mm_chk 12 157 e) = true; decide +kernel
set_option maxRecDepth 100000 in
theorem mm_rk158 : mm_rok 158 := by show (T_X12_end.all fun e => decide (decode cX12_end e.1 = .ok (e.2.1, e.2.2.1)) && mm_chk 12 158 e) = true; decide +kernel
set_option maxRecDepth 100000 in
theorem mm_rk159 : mm_rok 159 := by show (T_X12_take.all fun e => decide (decode cX12_take e.1 = .ok (e.2.1, e.2.2.1)) && mm_chk 12 159 e) = true; decide +kernel
set_option maxRecDepth 100000 in
theorem mm_rk160 : mm_rok 160 := by show (T_X12_isIn.all fun e => decide (decode cX12_isIn e.1 = .ok (e.2.1, e.2.2.1)) && mm_chk 12 160 e) = true; decide +kernel
set_option maxRecDepth 100000 in
theorem mm_rk161 : mm_rok 161 := by show (T_X12_has.all fun e => decide (decode cX12_has e.1 = .ok (e.2.1, e.2.2.1)) && mm_chk 12 161 e) = true; decide +kernel
set_option maxRecDepth 100000 in
theorem mm_rk162 : mm_rok 162 := by show (T_X12_least.all fun e => decide (decode cX12_least e.1 = .ok (e.2.1, e.2.2.1)) && mm_chk 12 162 e) = true; decide +kernel
set_option maxRecDepth 100000 in
theorem mm_rk163 : mm_rok 163 := by show (T_X12_size.all fun e => decide (decode cX12_size e.1 = .ok (e.2.1, e.2.2.1)) && mm_chk 12 163 e) = true; decide +kernel
set_option maxRecDepth 100000 in
theorem mm_rk164 : mm_rok 164 := by show (T_X12_common.all fun e => decide (decode cX12_common e.1 = .ok (e.2.1, e.2.2.1)) && mm_chk 12 164 e) = true; decide +kernel
set_option maxRecDepth 100000 in
theorem mm_rk165 : mm_rok 165 := by show (T_X12_tapeAt.all fun e => decide (decode cX12_tapeAt e.1 = .ok (e.2.1, e.2.2.1)) && mm_chk 12 165 e) = true; decide +kernel
set_option maxRecDepth 100000 in
theorem mm_rk166 : mm_rok 166 := by show (T_X12_isDigit.all fun e => decide (decode cX12_isDigit e.1 = .ok (e.2.1, e.2.2.1)) && mm_chk 12 166 e) = true; decide +kernel
set_option maxRecDepth 100000 in
theorem mm_rk167 : mm_rok 167 := by show (T_X12_isLetter.all fun e => decide (decode cX12_isLetter e.1 = .ok (e.2.1, e.2.2.1)) && mm_chk 12 167 e) = true; decide +kernel
set_option maxRecDepth 100000 in
theorem mm_rk168 : mm_rok 168 := by show (T_X12_go.all fun e => decide (decode cX12_go e.1 = .ok (e.2.1, e.2.2.1)) && mm_chk 12 168 e) = true; decide +kernel
set_option maxRecDepth 100000 in
theorem mm_rk169 : mm_rok 169 := by show (T_X12_spelt.all fun e => decide (decode cX12_spelt e.1 = .ok (e.2.1, e.2.2.1)) && mm_chk 12 169 e) = true; decide +kernel
set_option maxRecDepth 100000 in
theorem mm_rk170 : mm_rok 170 := by show (T_X12_wordOf.all fun e => decide (decode cX12_wordOf e.1 = .ok (e.2.1, e.2.2.1)) && mm_chk 12 170 e) = true; decide +kernel
set_option maxRecDepth 100000 in
theorem mm_rk171 : mm_rok 171 := by show (T_X12_isWord.all fun e => decide (decode cX12_isWord e.1 = .ok (e.2.1, e.2.2.1)) && mm_chk 12 171 e) = true; decide +kernel
set_option maxRecDepth 100000 in
theorem mm_rk172 : mm_rok 172 := by show (T_X12_isSign.all fun e => decide (decode cX12_isSign e.1 = .ok (e.2.1, e.2.2.1)) && mm_chk 12 172 e) = true; decide +kernel
set_option maxRecDepth 100000 in
theorem mm_rk173 : mm_rok 173 := by show (T_X12_isName.all fun e => decide (decode cX12_isName e.1 = .ok (e.2.1, e.2.2.1)) && mm_chk 12 173 e) = true; decide +kernel
set_option maxRecDepth 100000 in
theorem mm_rk174 : mm_rok 174 := by show (T_X12_bad.all fun e => decide (decode cX12_bad e.1 = .ok (e.2.1, e.2.2.1)) && mm_chk 12 174 e) = true; decide +kernel
set_option maxRecDepth 100000 in
theorem mm_rk175 : mm_rok 175 := by show (T_X12_readNumber.all fun e => decide (decode cX12_readNumber e.1 = .ok (e.2.1, e.2.2.1)) && mm_chk 12 175 e) = true; decide +kernel
set_option maxRecDepth 100000 in
theorem mm_rk176 : mm_rok 176 := by show (T_X12_readEnd.all fun e => decide (decode cX12_readEnd e.1 = .ok (e.2.1, e.2.2.1)) && mm_chk 12 176 e) = true; decide +kernel
set_option maxRecDepth 100000 in
theorem mm_rk177 : mm_rok 177 := by show (T_X12_begin.all fun e => decide (decode cX12_begin e.1 = .ok (e.2.1, e.2.2.1)) && mm_chk 12 177 e) = true; decide +kernel
set_option maxRecDepth 100000 in
theorem mm_rk178 : mm_rok 178 := by show (T_X12_startRead.all fun e => decide (decode cX12_startRead e.1 = .ok (e.2.1, e.2.2.1)) && mm_chk 12 178 e) = true; decide +kernel
set_option maxRecDepth 100000 in
theorem mm_rk179 : mm_rok 179 := by show (T_X12_startSo.all fun e => decide (decode cX12_startSo e.1 = .ok (e.2.1, e.2.2.1)) && mm_chk 12 179 e) = true; decide +kernel
set_option maxRecDepth 100000 in
theorem mm_rk180 : mm_rok 180 := by show (T_X12_findIn.all fun e => decide (decode cX12_findIn e.1 = .ok (e.2.1, e.2.2.1)) && mm_chk 12 180 e) = true; decide +kernel
set_option maxRecDepth 100000 in
theorem mm_rk181 : mm_rok 181 := by show (T_X12_isTaken.all fun e => decide (decode cX12_isTaken e.1 = .ok (e.2.1, e.2.2.1)) && mm_chk 12 181 e) = true; decide +kernel
set_option maxRecDepth 100000 in
theorem mm_rk182 : mm_rok 182 := by show (T_X12_readNew.all fun e => decide (decode cX12_readNew e.1 = .ok (e.2.1, e.2.2.1)) && mm_chk 12 182 e) = true; decide +kernel
set_option maxRecDepth 100000 in
theorem mm_rk183 : mm_rok 183 := by show (T_X12_readFirst.all fun e => decide (decode cX12_readFirst e.1 = .ok (e.2.1, e.2.2.1)) && mm_chk 12 183 e) = true; decide +kernel
set_option maxRecDepth 100000 in
theorem mm_rk184 : mm_rok 184 := by show (T_X12_put.all fun e => decide (decode cX12_put e.1 = .ok (e.2.1, e.2.2.1)) && mm_chk 12 184 e) = true; decide +kernel
set_option maxRecDepth 100000 in
theorem mm_rk185 : mm_rok 185 := by show (T_X12_isFresh.all fun e => decide (decode cX12_isFresh e.1 = .ok (e.2.1, e.2.2.1)) && mm_chk 12 185 e) = true; decide +kernel
set_option maxRecDepth 100000 in
theorem mm_rk186 : mm_rok 186 := by show (T_X12_readRing.all fun e => decide (decode cX12_readRing e.1 = .ok (e.2.1, e.2.2.1)) && mm_chk 12 186 e) = true; decide +kernel
set_option maxRecDepth 100000 in
theorem mm_rk187 : mm_rok 187 := by show (T_X12_readCousin.all fun e => decide (decode cX12_readCousin e.1 = .ok (e.2.1, e.2.2.1)) && mm_chk 12 187 e) = true; decide +kernel
set_option maxRecDepth 100000 in
theorem mm_rk188 : mm_rok 188 := by show (T_X12_readPlace.all fun e => decide (decode cX12_readPlace e.1 = .ok (e.2.1, e.2.2.1)) && mm_chk 12 188 e) = true; decide +kernel
set_option maxRecDepth 100000 in
theorem mm_rk189 : mm_rok 189 := by show (T_X12_readPerson.all fun e => decide (decode cX12_readPerson e.1 = .ok (e.2.1, e.2.2.1)) && mm_chk 12 189 e) = true; decide +kernel
set_option maxRecDepth 100000 in
theorem mm_rk190 : mm_rok 190 := by show (T_X12_readWork.all fun e => decide (decode cX12_readWork e.1 = .ok (e.2.1, e.2.2.1)) && mm_chk 12 190 e) = true; decide +kernel
set_option maxRecDepth 100000 in
theorem mm_rk191 : mm_rok 191 := by show (T_X12_isWorkHere.all fun e => decide (decode cX12_isWorkHere e.1 = .ok (e.2.1, e.2.2.1)) && mm_chk 12 191 e) = true; decide +kernel
set_option maxRecDepth 100000 in
theorem mm_rk192 : mm_rok 192 := by show (T_X12_readAfter.all fun e => decide (decode cX12_readAfter e.1 = .ok (e.2.1, e.2.2.1)) && mm_chk 12 192 e) = true; decide +kernel
set_option maxRecDepth 100000 in
theorem mm_rk193 : mm_rok 193 := by show (T_X12_readThing.all fun e => decide (decode cX12_readThing e.1 = .ok (e.2.1, e.2.2.1)) && mm_chk 12 193 e) = true; decide +kernel
set_option maxRecDepth 100000 in
theorem mm_rk194 : mm_rok 194 := by show (T_X12_readLine.all fun e => decide (decode cX12_readLine e.1 = .ok (e.2.1, e.2.2.1)) && mm_chk 12 194 e) = true; decide +kernel
set_option maxRecDepth 100000 in
theorem mm_rk195 : mm_rok 195 := by show (T_X12_town.all fun e => decide (decode cX12_town e.1 = .ok (e.2.1, e.2.2.1)) && mm_chk 12 195 e) = true; decide +kernel
set_option maxRecDepth 100000 in
theorem mm_rk196 : mm_rok 196 := by show (T_X12_fault.all fun e => decide (decode cX12_fault e.1 = .ok (e.2.1, e.2.2.1)) && mm_chk 12 196 e) = true; decide +kernel
set_option maxRecDepth 100000 in
theorem mm_rk197 : mm_rok 197 := by show (T_X12_isBeater.all fun e => decide (decode cX12_isBeater e.1 = .ok (e.2.1, e.2.2.1)) && mm_chk 12 197 e) = true; decide +kernel
set_option maxRecDepth 100000 in
theorem mm_rk198 : mm_rok 198 := by show (T_X12_isPerson.all fun e => decide (decode cX12_isPerson e.1 = .ok (e.2.1, e.2.2.1)) && mm_chk 12 198 e) = true; decide +kernel
set_option maxRecDepth 100000 in
theorem mm_rk199 : mm_rok 199 := by show (T_X12_isWork.all fun e => decide (decode cX12_isWork e.1 = .ok (e.2.1, e.2.2.1)) && mm_chk 12 199 e) = true; decide +kernel
set_option maxRecDepth 100000 in
theorem mm_rk200 : mm_rok 200 := by show (T_X12_isOut.all fun e => decide (decode cX12_isOut e.1 = .ok (e.2.1, e.2.2.1)) && mm_chk 12 200 e) = true; decide +kernel
set_option maxRecDepth 100000 in
theorem mm_rk201 : mm_rok 201 := by show (T_X12_isStanding.all fun e => decide (decode cX12_isStanding e.1 = .ok (e.2.1, e.2.2.1)) && mm_chk 12 201 e) = true; decide +kernel
set_option maxRecDepth 100000 in
theorem mm_rk202 : mm_rok 202 := by show (T_X12_doneWorks.all fun e => decide (decode cX12_doneWorks e.1 = .ok (e.2.1, e.2.2.1)) && mm_chk 12 202 e) = true; decide +kernel
set_option maxRecDepth 100000 in
theorem mm_rk203 : mm_rok 203 := by show (T_X12_openWorks.all fun e => decide (decode cX12_openWorks e.1 = .ok (e.2.1, e.2.2.1)) && mm_chk 12 203 e) = true; decide +kernel
set_option maxRecDepth 100000 in
theorem mm_rk204 : mm_rok 204 := by show (T_X12_isBusy.all fun e => decide (decode cX12_isBusy e.1 = .ok (e.2.1, e.2.2.1)) && mm_chk 12 204 e) = true; decide +kernel
set_option maxRecDepth 100000 in
theorem mm_rk205 : mm_rok 205 := by show (T_X12_person.all fun e => decide (decode cX12_person e.1 = .ok (e.2.1, e.2.2.1)) && mm_chk 12 205 e) = true; decide +kernel
set_option maxRecDepth 100000 in
theorem mm_rk206 : mm_rok 206 := by show (T_X12_work.all fun e => decide (decode cX12_work e.1 = .ok (e.2.1, e.2.2.1)) && mm_chk 12 206 e) = true; decide +kernel
set_option maxRecDepth 100000 in
theorem mm_rk207 : mm_rok 207 := by show (T_X12_gap.all fun e => decide (decode cX12_gap e.1 = .ok (e.2.1, e.2.2.1)) && mm_chk 12 207 e) = true; decide +kernel
set_option maxRecDepth 100000 in
theorem mm_rk208 : mm_rok 208 := by show (T_X12_now.all fun e => decide (decode cX12_now e.1 = .ok (e.2.1, e.2.2.1)) && mm_chk 12 208 e) = true; decide +kernel
set_option maxRecDepth 100000 in
theorem mm_rk209 : mm_rok 209 := by show (T_X12_snap.all fun e => decide (decode cX12_snap e.1 = .ok (e.2.1, e.2.2.1)) && mm_chk 12 209 e) = true; decide +kernel
set_option maxRecDepth 100000 in
theorem mm_rk210 : mm_rok 210 := by show (T_X12_isCrowded.all fun e => decide (decode cX12_isCrowded e.1 = .ok (e.2.1, e.2.2.1)) && mm_chk 12 210 e) = true; decide +kernel
set_option maxRecDepth 100000 in
theorem mm_rk211 : mm_rok 211 := by show (T_X12_why.all fun e => decide (decode cX12_why e.1 = .ok (e.2.1, e.2.2.1)) && mm_chk 12 211 e) = true; decide +kernel
set_option maxRecDepth 100000 in
theorem mm_rk212 : mm_rok 212 := by show (T_X12_relieved.all fun e => decide (decode cX12_relieved e.1 = .ok (e.2.1, e.2.2.1)) && mm_chk 12 212 e) = true; decide +kernel
set_option maxRecDepth 100000 in
theorem mm_rk213 : mm_rok 213 := by show (T_X12_live.all fun e => decide (decode cX12_live e.1 = .ok (e.2.1, e.2.2.1)) && mm_chk 12 213 e) = true; decide +kernel
set_option maxRecDepth 100000 in
theorem mm_rk214 : mm_rok 214 := by show (T_X12_act.all fun e => decide (decode cX12_act e.1 = .ok (e.2.1, e.2.2.1)) && mm_chk 12 214 e) = true; decide +kernel
set_option maxRecDepth 100000 in
theorem mm_rk215 : mm_rok 215 := by show (T_X12_fright.all fun e => decide (decode cX12_fright e.1 = .ok (e.2.1, e.2.2.1)) && mm_chk 12 215 e) = true; decide +kernel
set_option maxRecDepth 100000 in
theorem mm_rk216 : mm_rok 216 := by show (T_X12_cure.all fun e => decide (decode cX12_cure e.1 = .ok (e.2.1, e.2.2.1)) && mm_chk 12 216 e) = true; decide +kernel
set_option maxRecDepth 100000 in
theorem mm_rk217 : mm_rok 217 := by show (T_X12_fly.all fun e => decide (decode cX12_fly e.1 = .ok (e.2.1, e.2.2.1)) && mm_chk 12 217 e) = true; decide +kernel
set_option maxRecDepth 100000 in
theorem mm_rk218 : mm_rok 218 := by show (T_X12_relieve.all fun e => decide (decode cX12_relieve e.1 = .ok (e.2.1, e.2.2.1)) && mm_chk 12 218 e) = true; decide +kernel
set_option maxRecDepth 100000 in
theorem mm_rk219 : mm_rok 219 := by show (T_X12_leave.all fun e => decide (decode cX12_leave e.1 = .ok (e.2.1, e.2.2.1)) && mm_chk 12 219 e) = true; decide +kernel
set_option maxRecDepth 100000 in
theorem mm_rk220 : mm_rok 220 := by show (T_X12_join.all fun e => decide (decode cX12_join e.1 = .ok (e.2.1, e.2.2.1)) && mm_chk 12 220 e) = true; decide +kernel
set_option maxRecDepth 100000 in
theorem mm_rk221 : mm_rok 221 := by show (T_X12_undo.all fun e => decide (decode cX12_undo e.1 = .ok (e.2.1, e.2.2.1)) && mm_chk 12 221 e) = true; decide +kernel
set_option maxRecDepth 100000 in
theorem mm_rk222 : mm_rok 222 := by show (T_X12_beat.all fun e => decide (decode cX12_beat e.1 = .ok (e.2.1, e.2.2.1)) && mm_chk 12 222 e) = true; decide +kernel
set_option maxRecDepth 100000 in
theorem mm_rk223 : mm_rok 223 := by show (T_X12_oneSecond.all fun e => decide (decode cX12_oneSecond e.1 = .ok (e.2.1, e.2.2.1)) && mm_chk 12 223 e) = true; decide +kernel
set_option maxRecDepth 100000 in
theorem mm_rk224 : mm_rok 224 := by show (T_X12_passSeconds.all fun e => decide (decode cX12_passSeconds e.1 = .ok (e.2.1, e.2.2.1)) && mm_chk 12 224 e) = true; decide +kernel
set_option maxRecDepth 100000 in
theorem mm_rk225 : mm_rok 225 := by show (T_X12_seconds.all fun e => decide (decode cX12_seconds e.1 = .ok (e.2.1, e.2.2.1)) && mm_chk 12 225 e) = true; decide +kernel
set_option maxRecDepth 100000 in
theorem mm_rk226 : mm_rok 226 := by show (T_X12_placeBehind.all fun e => decide (decode cX12_placeBehind e.1 = .ok (e.2.1, e.2.2.1)) && mm_chk 12 226 e) = true; decide +kernel
set_option maxRecDepth 100000 in
theorem mm_rk227 : mm_rok 227 := by show (T_X12_at.all fun e => decide (decode cX12_at e.1 = .ok (e.2.1, e.2.2.1)) && mm_chk 12 227 e) = true; decide +kernel
set_option maxRecDepth 100000 in
theorem mm_rk228 : mm_rok 228 := by show (T_X12_meet.all fun e => decide (decode cX12_meet e.1 = .ok (e.2.1, e.2.2.1)) && mm_chk 12 228 e) = true; decide +kernel
set_option maxRecDepth 100000 in
theorem mm_rk229 : mm_rok 229 := by show (T_X12_layAside.all fun e => decide (decode cX12_layAside e.1 = .ok (e.2.1, e.2.2.1)) && mm_chk 12 229 e) = true; decide +kernel
set_option maxRecDepth 100000 in
theorem mm_rk230 : mm_rok 230 := by show (T_X12_takeBack.all fun e => decide (decode cX12_takeBack e.1 = .ok (e.2.1, e.2.2.1)) && mm_chk 12 230 e) = true; decide +kernel
set_option maxRecDepth 100000 in
theorem mm_rk231 : mm_rok 231 := by show (T_X12_doneBy.all fun e => decide (decode cX12_doneBy e.1 = .ok (e.2.1, e.2.2.1)) && mm_chk 12 231 e) = true; decide +kernel
set_option maxRecDepth 100000 in
theorem mm_rk232 : mm_rok 232 := by show (T_X12_when.all fun e => decide (decode cX12_when e.1 = .ok (e.2.1, e.2.2.1)) && mm_chk 12 232 e) = true; decide +kernel
set_option maxRecDepth 100000 in
theorem mm_rk233 : mm_rok 233 := by show (T_X12_swift.all fun e => decide (decode cX12_swift e.1 = .ok (e.2.1, e.2.2.1)) && mm_chk 12 233 e) = true; decide +kernel
set_option maxRecDepth 100000 in
theorem mm_rk234 : mm_rok 234 := by show (T_X12_joins.all fun e => decide (decode cX12_joins e.1 = .ok (e.2.1, e.2.2.1)) && mm_chk 12 234 e) = true; decide +kernel
set_option maxRecDepth 100000 in
theorem mm_rk235 : mm_rok 235 := by show (T_X12_once.all fun e => decide (decode cX12_once e.1 = .ok (e.2.1, e.2.2.1)) && mm_chk 12 235 e) = true; decide +kernel
set_option maxRecDepth 100000 in
theorem mm_rk236 : mm_rok 236 := by show (T_X12_hasStood.all fun e => decide (decode cX12_hasStood e.1 = .ok (e.2.1, e.2.2.1)) && mm_chk 12 236 e) = true; decide +kernel
set_option maxRecDepth 100000 in
theorem mm_rk237 : mm_rok 237 := by show (T_X12_leftBy.all fun e => decide (decode cX12_leftBy e.1 = .ok (e.2.1, e.2.2.1)) && mm_chk 12 237 e) = true; decide +kernel
set_option maxRecDepth 100000 in
theorem mm_rk238 : mm_rok 238 := by show (T_X12_stood.all fun e => decide (decode cX12_stood e.1 = .ok (e.2.1, e.2.2.1)) && mm_chk 12 238 e) = true; decide +kernel
set_option maxRecDepth 100000 in
theorem mm_rk239 : mm_rok 239 := by show (T_X12_stoodLeast.all fun e => decide (decode cX12_stoodLeast e.1 = .ok (e.2.1, e.2.2.1)) && mm_chk 12 239 e) = true; decide +kernel
set_option maxRecDepth 100000 in
theorem mm_rk240 : mm_rok 240 := by show (T_X12_stoodMost.all fun e => decide (decode cX12_stoodMost e.1 = .ok (e.2.1, e.2.2.1)) && mm_chk 12 240 e) = true; decide +kernel
set_option maxRecDepth 100000 in
theorem mm_rk241 : mm_rok 241 := by show (T_X12_next.all fun e => decide (decode cX12_next e.1 = .ok (e.2.1, e.2.2.1)) && mm_chk 12 241 e) = true; decide +kernel
set_option maxRecDepth 100000 in
theorem mm_rk242 : mm_rok 242 := by show (T_X12_rowsOf.all fun e => decide (decode cX12_rowsOf e.1 = .ok (e.2.1, e.2.2.1)) && mm_chk 12 242 e) = true; decide +kernel
set_option maxRecDepth 100000 in
theorem mm_rk243 : mm_rok 243 := by show (T_X12_layRows.all fun e => decide (decode cX12_layRows e.1 = .ok (e.2.1, e.2.2.1)) && mm_chk 12 243 e) = true; decide +kernel
set_option maxRecDepth 100000 in
theorem mm_rk244 : mm_rok 244 := by show (T_X12_rows.all fun e => decide (decode cX12_rows e.1 = .ok (e.2.1, e.2.2.1)) && mm_chk 12 244 e) = true; decide +kernel
set_option maxRecDepth 100000 in
theorem mm_rk245 : mm_rok 245 := by show (T_X12_rowAt.all fun e => decide (decode cX12_rowAt e.1 = .ok (e.2.1, e.2.2.1)) && mm_chk 12 245 e) = true; decide +kernel
set_option maxRecDepth 100000 in
theorem mm_rk246 : mm_rok 246 := by show (T_X12_areNear.all fun e => decide (decode cX12_areNear e.1 = .ok (e.2.1, e.2.2.1)) && mm_chk 12 246 e) = true; decide +kernel
set_option maxRecDepth 100000 in
theorem mm_rk247 : mm_rok 247 := by show (T_X12_isFor.all fun e => decide (decode cX12_isFor e.1 = .ok (e.2.1, e.2.2.1)) && mm_chk 12 247 e) = true; decide +kernel
set_option maxRecDepth 100000 in
theorem mm_rk248 : mm_rok 248 := by show (T_X12_vote.all fun e => decide (decode cX12_vote e.1 = .ok (e.2.1, e.2.2.1)) && mm_chk 12 248 e) = true; decide +kernel
set_option maxRecDepth 100000 in
theorem mm_rk249 : mm_rok 249 := by show (T_X12_voted.all fun e => decide (decode cX12_voted e.1 = .ok (e.2.1, e.2.2.1)) && mm_chk 12 249 e) = true; decide +kernel
set_option maxRecDepth 100000 in
theorem mm_rk250 : mm_rok 250 := by show (T_X12_write.all fun e => decide (decode cX12_write e.1 = .ok (e.2.1, e.2.2.1)) && mm_chk 12 250 e) = true; decide +kernel
set_option maxRecDepth 100000 in
theorem mm_rk251 : mm_rok 251 := by show (T_X12_writeWord.all fun e => decide (decode cX12_writeWord e.1 = .ok (e.2.1, e.2.2.1)) && mm_chk 12 251 e) = true; decide +kernel
set_option maxRecDepth 100000 in
theorem mm_rk252 : mm_rok 252 := by show (T_X12_writeNumber.all fun e => decide (decode cX12_writeNumber e.1 = .ok (e.2.1, e.2.2.1)) && mm_chk 12 252 e) = true; decide +kernel
set_option maxRecDepth 100000 in
theorem mm_rk253 : mm_rok 253 := by show (T_X12_writeNext.all fun e => decide (decode cX12_writeNext e.1 = .ok (e.2.1, e.2.2.1)) && mm_chk 12 253 e) = true; decide +kernel
set_option maxRecDepth 100000 in
theorem mm_rk254 : mm_rok 254 := by show (T_X12_tag.all fun e => decide (decode cX12_tag e.1 = .ok (e.2.1, e.2.2.1)) && mm_chk 12 254 e) = true; decide +kernel
set_option maxRecDepth 100000 in
theorem mm_rk255 : mm_rok 255 := by show (T_X12_byteAt.all fun e => decide (decode cX12_byteAt e.1 = .ok (e.2.1, e.2.2.1)) && mm_chk 12 255 e) = true; decide +kernel
set_option maxRecDepth 100000 in
theorem mm_rk256 : mm_rok 256 := by show (T_X12_draw.all fun e => decide (decode cX12_draw e.1 = .ok (e.2.1, e.2.2.1)) && mm_chk 12 256 e) = true; decide +kernel
set_option maxRecDepth 100000 in
theorem mm_rk257 : mm_rok 257 := by show (T_X12_drawsFor.all fun e => decide (decode cX12_drawsFor e.1 = .ok (e.2.1, e.2.2.1)) && mm_chk 12 257 e) = true; decide +kernel
set_option maxRecDepth 100000 in
theorem mm_rk258 : mm_rok 258 := by show (T_X12_drawSeconds.all fun e => decide (decode cX12_drawSeconds e.1 = .ok (e.2.1, e.2.2.1)) && mm_chk 12 258 e) = true; decide +kernel
set_option maxRecDepth 100000 in
theorem mm_rk259 : mm_rok 259 := by show (T_X12_drawn.all fun e => decide (decode cX12_drawn e.1 = .ok (e.2.1, e.2.2.1)) && mm_chk 12 259 e) = true; decide +kernel
set_option maxRecDepth 100000 in
theorem mm_rk260 : mm_rok 260 := by show (T_X12_odds.all fun e => decide (decode cX12_odds e.1 = .ok (e.2.1, e.2.2.1)) && mm_chk 12 260 e) = true; decide +kernel
set_option maxRecDepth 100000 in
theorem mm_rk261 : mm_rok 261 := by show (T_X12_keep.all fun e => decide (decode cX12_keep e.1 = .ok (e.2.1, e.2.2.1)) && mm_chk 12 261 e) = true; decide +kernel
set_option maxRecDepth 100000 in
theorem mm_rk262 : mm_rok 262 := by show (T_X12_readNamed.all fun e => decide (decode cX12_readNamed e.1 = .ok (e.2.1, e.2.2.1)) && mm_chk 12 262 e) = true; decide +kernel
set_option maxRecDepth 100000 in
theorem mm_rk263 : mm_rok 263 := by show (T_X12_readBeater.all fun e => decide (decode cX12_readBeater e.1 = .ok (e.2.1, e.2.2.1)) && mm_chk 12 263 e) = true; decide +kernel
set_option maxRecDepth 100000 in
theorem mm_rk264 : mm_rok 264 := by show (T_X12_readDoes.all fun e => decide (decode cX12_readDoes e.1 = .ok (e.2.1, e.2.2.1)) && mm_chk 12 264 e) = true; decide +kernel
set_option maxRecDepth 100000 in
theorem mm_rk265 : mm_rok 265 := by show (T_X12_readBookLine.all fun e => decide (decode cX12_readBookLine e.1 = .ok (e.2.1, e.2.2.1)) && mm_chk 12 265 e) = true; decide +kernel
set_option maxRecDepth 100000 in
theorem mm_rk266 : mm_rok 266 := by show (T_X12_goBy.all fun e => decide (decode cX12_goBy e.1 = .ok (e.2.1, e.2.2.1)) && mm_chk 12 266 e) = true; decide +kernel
set_option maxRecDepth 100000 in
theorem mm_rk267 : mm_rok 267 := by show (T_X12_book.all fun e => decide (decode cX12_book e.1 = .ok (e.2.1, e.2.2.1)) && mm_chk 12 267 e) = true; decide +kernel
set_option maxRecDepth 100000 in
theorem mm_rk268 : mm_rok 268 := by show (T_X12_stay.all fun e => decide (decode cX12_stay e.1 = .ok (e.2.1, e.2.2.1)) && mm_chk 12 268 e) = true; decide +kernel
set_option maxRecDepth 100000 in
theorem mm_rk269 : mm_rok 269 := by show (T_X12_told.all fun e => decide (decode cX12_told e.1 = .ok (e.2.1, e.2.2.1)) && mm_chk 12 269 e) = true; decide +kernel
set_option maxRecDepth 100000 in
theorem mm_rk270 : mm_rok 270 := by show (T_X12_saysOne.all fun e => decide (decode cX12_saysOne e.1 = .ok (e.2.1, e.2.2.1)) && mm_chk 12 270 e) = true; decide +kernel
set_option maxRecDepth 100000 in
theorem mm_rk271 : mm_rok 271 := by show (T_X12_readOr.all fun e => decide (decode cX12_readOr e.1 = .ok (e.2.1, e.2.2.1)) && mm_chk 12 271 e) = true; decide +kernel
set_option maxRecDepth 100000 in
theorem mm_rk272 : mm_rok 272 := by show (T_X12_readAnd.all fun e => decide (decode cX12_readAnd e.1 = .ok (e.2.1, e.2.2.1)) && mm_chk 12 272 e) = true; decide +kernel
set_option maxRecDepth 100000 in
theorem mm_rk273 : mm_rok 273 := by show (T_X12_readSaid.all fun e => decide (decode cX12_readSaid e.1 = .ok (e.2.1, e.2.2.1)) && mm_chk 12 273 e) = true; decide +kernel
set_option maxRecDepth 100000 in
theorem mm_rk274 : mm_rok 274 := by show (T_X12_readNot.all fun e => decide (decode cX12_readNot e.1 = .ok (e.2.1, e.2.2.1)) && mm_chk 12 274 e) = true; decide +kernel
set_option maxRecDepth 100000 in
theorem mm_rk275 : mm_rok 275 := by show (T_X12_readBracket.all fun e => decide (decode cX12_readBracket e.1 = .ok (e.2.1, e.2.2.1)) && mm_chk 12 275 e) = true; decide +kernel
set_option maxRecDepth 100000 in
theorem mm_rk276 : mm_rok 276 := by show (T_X12_readOf.all fun e => decide (decode cX12_readOf e.1 = .ok (e.2.1, e.2.2.1)) && mm_chk 12 276 e) = true; decide +kernel
set_option maxRecDepth 100000 in
theorem mm_rk277 : mm_rok 277 := by show (T_X12_readCompare.all fun e => decide (decode cX12_readCompare e.1 = .ok (e.2.1, e.2.2.1)) && mm_chk 12 277 e) = true; decide +kernel
set_option maxRecDepth 100000 in
theorem mm_rk278 : mm_rok 278 := by show (T_X12_sentence.all fun e => decide (decode cX12_sentence e.1 = .ok (e.2.1, e.2.2.1)) && mm_chk 12 278 e) = true; decide +kernel
set_option maxRecDepth 100000 in
theorem mm_rk279 : mm_rok 279 := by show (T_X12_holds.all fun e => decide (decode cX12_holds e.1 = .ok (e.2.1, e.2.2.1)) && mm_chk 12 279 e) = true; decide +kernel
set_option maxRecDepth 100000 in
theorem mm_rk280 : mm_rok 280 := by show (T_X12_said.all fun e => decide (decode cX12_said e.1 = .ok (e.2.1, e.2.2.1)) && mm_chk 12 280 e) = true; decide +kernel
set_option maxRecDepth 100000 in
theorem mm_rk281 : mm_rok 281 := by show (T_X12_image.all fun e => decide (decode cX12_image e.1 = .ok (e.2.1, e.2.2.1)) && mm_chk 12 281 e) = true; decide +kernel
set_option maxRecDepth 100000 in
theorem mm_rk282 : mm_rok 282 := by show (T_X12_restore.all fun e => decide (decode cX12_restore e.1 = .ok (e.2.1, e.2.2.1)) && mm_chk 12 282 e) = true; decide +kernel
set_option maxRecDepth 100000 in
theorem mm_rk283 : mm_rok 283 := by show (T_X12_count.all fun e => decide (decode cX12_count e.1 = .ok (e.2.1, e.2.2.1)) && mm_chk 12 283 e) = true; decide +kernel
end
section
/-! The words behind the pool places and the methods -/
def mm_isN : Cond → Bool
  | .fieldLinkNest .. => true
  | .methodLinkNest .. => true
  | _ => false
/-- the words of nest mates: they carry over another way -/
def mm_NW : List Cond := lw_tbl.filter mm_isN
theorem mm_tw1 {w : Cond} (i : Nat) (h : tables_1_1[i]? = some w) (hg : goodWord w = true) : w ∈ mm_TW := List.mem_filter.mpr ⟨List.mem_append_right _ (show w ∈ tables_1 from (List.mem_append_left _ (List.mem_of_getElem? h))), hg⟩
theorem mm_tn1 {w : Cond} (i : Nat) (h : tables_1_1[i]? = some w) (hg : mm_isN w = true) : w ∈ mm_NW := List.mem_filter.mpr ⟨List.mem_append_right _ (show w ∈ tables_1 from (List.mem_append_left _ (List.mem_of_getElem? h))), hg⟩
theorem mm_tw2 {w : Cond} (i : Nat) (h : tables_1_2[i]? = some w) (hg : goodWord w = true) : w ∈ mm_TW := List.mem_filter.mpr ⟨List.mem_append_right _ (show w ∈ tables_1 from (List.mem_append_right _ (List.mem_append_left _ (List.mem_of_getElem? h)))), hg⟩
theorem mm_tn2 {w : Cond} (i : Nat) (h : tables_1_2[i]? = some w) (hg : mm_isN w = true) : w ∈ mm_NW := List.mem_filter.mpr ⟨List.mem_append_right _ (show w ∈ tables_1 from (List.mem_append_right _ (List.mem_append_left _ (List.mem_of_getElem? h)))), hg⟩
theorem mm_tw3 {w : Cond} (i : Nat) (h : tables_1_3[i]? = some w) (hg : goodWord w = true) : w ∈ mm_TW := List.mem_filter.mpr ⟨List.mem_append_right _ (show w ∈ tables_1 from (List.mem_append_right _ (List.mem_append_right _ (List.mem_append_left _ (List.mem_of_getElem? h))))), hg⟩
theorem mm_tn3 {w : Cond} (i : Nat) (h : tables_1_3[i]? = some w) (hg : mm_isN w = true) : w ∈ mm_NW := List.mem_filter.mpr ⟨List.mem_append_right _ (show w ∈ tables_1 from (List.mem_append_right _ (List.mem_append_right _ (List.mem_append_left _ (List.mem_of_getElem? h))))), hg⟩
theorem mm_tw4 {w : Cond} (i : Nat) (h : tables_1_4[i]? = some w) (hg : goodWord w = true) : w ∈ mm_TW := List.mem_filter.mpr ⟨List.mem_append_right _ (show w ∈ tables_1 from (List.mem_append_right _ (List.mem_append_right _ (List.mem_append_right _ (List.mem_append_left _ (List.mem_of_getElem? h)))))), hg⟩
theorem mm_tn4 {w : Cond} (i : Nat) (h : tables_1_4[i]? = some w) (hg : mm_isN w = true) : w ∈ mm_NW := List.mem_filter.mpr ⟨List.mem_append_right _ (show w ∈ tables_1 from (List.mem_append_right _ (List.mem_append_right _ (List.mem_append_right _ (List.mem_append_left _ (List.mem_of_getElem? h)))))), hg⟩
theorem mm_tw5 {w : Cond} (i : Nat) (h : tables_1_5[i]? = some w) (hg : goodWord w = true) : w ∈ mm_TW := List.mem_filter.mpr ⟨List.mem_append_right _ (show w ∈ tables_1 from (List.mem_append_right _ (List.mem_append_right _ (List.mem_append_right _ (List.mem_append_right _ (List.mem_append_left _ (List.mem_of_getElem? h))))))), hg⟩
theorem mm_tn5 {w : Cond} (i : Nat) (h : tables_1_5[i]? = some w) (hg : mm_isN w = true) : w ∈ mm_NW := List.mem_filter.mpr ⟨List.mem_append_right _ (show w ∈ tables_1 from (List.mem_append_right _ (List.mem_append_right _ (List.mem_append_right _ (List.mem_append_right _ (List.mem_append_left _ (List.mem_of_getElem? h))))))), hg⟩
theorem mm_tw6 {w : Cond} (i : Nat) (h : tables_1_6[i]? = some w) (hg : goodWord w = true) : w ∈ mm_TW := List.mem_filter.mpr ⟨List.mem_append_right _ (show w ∈ tables_1 from (List.mem_append_right _ (List.mem_append_right _ (List.mem_append_right _ (List.mem_append_right _ (List.mem_append_right _ (List.mem_append_left _ (List.mem_of_getElem? h)))))))), hg⟩
theorem mm_tn6 {w : Cond} (i : Nat) (h : tables_1_6[i]? = some w) (hg : mm_isN w = true) : w ∈ mm_NW := List.mem_filter.mpr ⟨List.mem_append_right _ (show w ∈ tables_1 from (List.mem_append_right _ (List.mem_append_right _ (List.mem_append_right _ (List.mem_append_right _ (List.mem_append_right _ (List.mem_append_left _ (List.mem_of_getElem? h)))))))), hg⟩
theorem mm_tw7 {w : Cond} (i : Nat) (h : tables_1_7[i]? = some w) (hg : goodWord w = true) : w ∈ mm_TW := List.mem_filter.mpr ⟨List.mem_append_right _ (show w ∈ tables_1 from (List.mem_append_right _ (List.mem_append_right _ (List.mem_append_right _ (List.mem_append_right _ (List.mem_append_right _ (List.mem_append_right _ (List.mem_append_left _ (List.mem_of_getElem? h))))))))), hg⟩
theorem mm_tn7 {w : Cond} (i : Nat) (h : tables_1_7[i]? = some w) (hg : mm_isN w = true) : w ∈ mm_NW := List.mem_filter.mpr ⟨List.mem_append_right _ (show w ∈ tables_1 from (List.mem_append_right _ (List.mem_append_right _ (List.mem_append_right _ (List.mem_append_right _ (List.mem_append_right _ (List.mem_append_right _ (List.mem_append_left _ (List.mem_of_getElem? h))))))))), hg⟩
theorem mm_tw8 {w : Cond} (i : Nat) (h : tables_1_8[i]? = some w) (hg : goodWord w = true) : w ∈ mm_TW := List.mem_filter.mpr ⟨List.mem_append_right _ (show w ∈ tables_1 from (List.mem_append_right _ (List.mem_append_right _ (List.mem_append_right _ (List.mem_append_right _ (List.mem_append_right _ (List.mem_append_right _ (List.mem_append_right _ (List.mem_append_left _ (List.mem_of_getElem? h)))))))))), hg⟩
theorem mm_tn8 {w : Cond} (i : Nat) (h : tables_1_8[i]? = some w) (hg : mm_isN w = true) : w ∈ mm_NW := List.mem_filter.mpr ⟨List.mem_append_right _ (show w ∈ tables_1 from (List.mem_append_right _ (List.mem_append_right _ (List.mem_append_right _ (List.mem_append_right _ (List.mem_append_right _ (List.mem_append_right _ (List.mem_append_right _ (List.mem_append_left _ (List.mem_of_getElem? h)))))))))), hg⟩
theorem mm_tw9 {w : Cond} (i : Nat) (h : tables_1_9[i]? = some w) (hg : goodWord w = true) : w ∈ mm_TW := List.mem_filter.mpr ⟨List.mem_append_right _ (show w ∈ tables_1 from (List.mem_append_right _ (List.mem_append_right _ (List.mem_append_right _ (List.mem_append_right _ (List.mem_append_right _ (List.mem_append_right _ (List.mem_append_right _ (List.mem_append_right _ (List.mem_of_getElem? h)))))))))), hg⟩
theorem mm_tn9 {w : Cond} (i : Nat) (h : tables_1_9[i]? = some w) (hg : mm_isN w = true) : w ∈ mm_NW := List.mem_filter.mpr ⟨List.mem_append_right _ (show w ∈ tables_1 from (List.mem_append_right _ (List.mem_append_right _ (List.mem_append_right _ (List.mem_append_right _ (List.mem_append_right _ (List.mem_append_right _ (List.mem_append_right _ (List.mem_append_right _ (List.mem_of_getElem? h)))))))))), hg⟩
def mm_pfP (z : Nat × Nat × Nat × Nat) : Prop := ∃ r : vw_C, vwCl[z.2.2.1 - 10]? = some r ∧ z.2.2.2 < r.2.2 ∧ 10 ≤ z.2.2.1 ∧ z.2.2.1 < 22 ∧ (Cond.fieldLink (mm_xn z.1) z.2.1 (r.2.1 z.2.2.2).1 (r.2.1 z.2.2.2).2.1 (r.2.1 z.2.2.2).2.2.1 ∈ mm_TW ∨ ∃ host, Cond.fieldLinkNest (mm_xn z.1) z.2.1 (r.2.1 z.2.2.2).1 (r.2.1 z.2.2.2).2.1 (r.2.1 z.2.2.2).2.2.1 host ∈ mm_NW)
set_option maxRecDepth 100000 in
theorem mm_pf0 : mm_pfP (0, 11, 10, 0) := ⟨_, rfl, Nat.le_of_ble_eq_true rfl, Nat.le_of_ble_eq_true rfl, Nat.le_of_ble_eq_true rfl, Or.inl (mm_tw2 97 rfl rfl)⟩
set_option maxRecDepth 100000 in
theorem mm_pf1 : mm_pfP (0, 15, 10, 1) := ⟨_, rfl, Nat.le_of_ble_eq_true rfl, Nat.le_of_ble_eq_true rfl, Nat.le_of_ble_eq_true rfl, Or.inl (mm_tw2 98 rfl rfl)⟩
set_option maxRecDepth 100000 in
theorem mm_pf2 : mm_pfP (0, 18, 10, 2) := ⟨_, rfl, Nat.le_of_ble_eq_true rfl, Nat.le_of_ble_eq_true rfl, Nat.le_of_ble_eq_true rfl, Or.inl (mm_tw2 99 rfl rfl)⟩
set_option maxRecDepth 100000 in
theorem mm_pf3 : mm_pfP (0, 22, 18, 4) := ⟨_, rfl, Nat.le_of_ble_eq_true rfl, Nat.le_of_ble_eq_true rfl, Nat.le_of_ble_eq_true rfl, Or.inr ⟨"HiccupTown", (mm_tn1 48 rfl rfl)⟩⟩
set_option maxRecDepth 100000 in
theorem mm_pf4 : mm_pfP (0, 47, 18, 7) := ⟨_, rfl, Nat.le_of_ble_eq_true rfl, Nat.le_of_ble_eq_true rfl, Nat.le_of_ble_eq_true rfl, Or.inr ⟨"HiccupTown", (mm_tn1 54 rfl rfl)⟩⟩
set_option maxRecDepth 100000 in
theorem mm_pf5 : mm_pfP (0, 114, 10, 3) := ⟨_, rfl, Nat.le_of_ble_eq_true rfl, Nat.le_of_ble_eq_true rfl, Nat.le_of_ble_eq_true rfl, Or.inl (mm_tw2 100 rfl rfl)⟩
set_option maxRecDepth 100000 in
theorem mm_pf6 : mm_pfP (0, 118, 10, 4) := ⟨_, rfl, Nat.le_of_ble_eq_true rfl, Nat.le_of_ble_eq_true rfl, Nat.le_of_ble_eq_true rfl, Or.inl (mm_tw2 101 rfl rfl)⟩
set_option maxRecDepth 100000 in
theorem mm_pf7 : mm_pfP (0, 121, 10, 5) := ⟨_, rfl, Nat.le_of_ble_eq_true rfl, Nat.le_of_ble_eq_true rfl, Nat.le_of_ble_eq_true rfl, Or.inl (mm_tw2 102 rfl rfl)⟩
set_option maxRecDepth 100000 in
theorem mm_pf8 : mm_pfP (0, 130, 12, 0) := ⟨_, rfl, Nat.le_of_ble_eq_true rfl, Nat.le_of_ble_eq_true rfl, Nat.le_of_ble_eq_true rfl, Or.inr ⟨"HiccupTown", (mm_tn1 187 rfl rfl)⟩⟩
set_option maxRecDepth 100000 in
theorem mm_pf9 : mm_pfP (0, 133, 10, 6) := ⟨_, rfl, Nat.le_of_ble_eq_true rfl, Nat.le_of_ble_eq_true rfl, Nat.le_of_ble_eq_true rfl, Or.inl (mm_tw2 104 rfl rfl)⟩
set_option maxRecDepth 100000 in
theorem mm_pf10 : mm_pfP (0, 140, 10, 7) := ⟨_, rfl, Nat.le_of_ble_eq_true rfl, Nat.le_of_ble_eq_true rfl, Nat.le_of_ble_eq_true rfl, Or.inl (mm_tw2 105 rfl rfl)⟩
set_option maxRecDepth 100000 in
theorem mm_pf11 : mm_pfP (1, 11, 11, 0) := ⟨_, rfl, Nat.le_of_ble_eq_true rfl, Nat.le_of_ble_eq_true rfl, Nat.le_of_ble_eq_true rfl, Or.inl (mm_tw2 54 rfl rfl)⟩
set_option maxRecDepth 100000 in
theorem mm_pf12 : mm_pfP (1, 15, 11, 1) := ⟨_, rfl, Nat.le_of_ble_eq_true rfl, Nat.le_of_ble_eq_true rfl, Nat.le_of_ble_eq_true rfl, Or.inl (mm_tw2 55 rfl rfl)⟩
set_option maxRecDepth 100000 in
theorem mm_pf13 : mm_pfP (1, 19, 11, 2) := ⟨_, rfl, Nat.le_of_ble_eq_true rfl, Nat.le_of_ble_eq_true rfl, Nat.le_of_ble_eq_true rfl, Or.inl (mm_tw2 57 rfl rfl)⟩
set_option maxRecDepth 100000 in
theorem mm_pf14 : mm_pfP (1, 22, 11, 3) := ⟨_, rfl, Nat.le_of_ble_eq_true rfl, Nat.le_of_ble_eq_true rfl, Nat.le_of_ble_eq_true rfl, Or.inl (mm_tw2 59 rfl rfl)⟩
set_option maxRecDepth 100000 in
theorem mm_pf15 : mm_pfP (1, 40, 18, 1) := ⟨_, rfl, Nat.le_of_ble_eq_true rfl, Nat.le_of_ble_eq_true rfl, Nat.le_of_ble_eq_true rfl, Or.inr ⟨"HiccupTown", (mm_tn1 44 rfl rfl)⟩⟩
set_option maxRecDepth 100000 in
theorem mm_pf16 : mm_pfP (1, 55, 14, 10) := ⟨_, rfl, Nat.le_of_ble_eq_true rfl, Nat.le_of_ble_eq_true rfl, Nat.le_of_ble_eq_true rfl, Or.inr ⟨"HiccupTown", (mm_tn1 133 rfl rfl)⟩⟩
set_option maxRecDepth 100000 in
theorem mm_pf17 : mm_pfP (1, 63, 14, 2) := ⟨_, rfl, Nat.le_of_ble_eq_true rfl, Nat.le_of_ble_eq_true rfl, Nat.le_of_ble_eq_true rfl, Or.inr ⟨"HiccupTown", (mm_tn1 104 rfl rfl)⟩⟩
set_option maxRecDepth 100000 in
theorem mm_pf18 : mm_pfP (2, 11, 12, 2) := ⟨_, rfl, Nat.le_of_ble_eq_true rfl, Nat.le_of_ble_eq_true rfl, Nat.le_of_ble_eq_true rfl, Or.inl (mm_tw1 190 rfl rfl)⟩
set_option maxRecDepth 100000 in
theorem mm_pf19 : mm_pfP (2, 17, 12, 6) := ⟨_, rfl, Nat.le_of_ble_eq_true rfl, Nat.le_of_ble_eq_true rfl, Nat.le_of_ble_eq_true rfl, Or.inl (mm_tw1 198 rfl rfl)⟩
set_option maxRecDepth 100000 in
theorem mm_pf20 : mm_pfP (2, 21, 12, 7) := ⟨_, rfl, Nat.le_of_ble_eq_true rfl, Nat.le_of_ble_eq_true rfl, Nat.le_of_ble_eq_true rfl, Or.inl (mm_tw1 201 rfl rfl)⟩
set_option maxRecDepth 100000 in
theorem mm_pf21 : mm_pfP (2, 24, 12, 8) := ⟨_, rfl, Nat.le_of_ble_eq_true rfl, Nat.le_of_ble_eq_true rfl, Nat.le_of_ble_eq_true rfl, Or.inl (mm_tw1 204 rfl rfl)⟩
set_option maxRecDepth 100000 in
theorem mm_pf22 : mm_pfP (2, 27, 12, 0) := ⟨_, rfl, Nat.le_of_ble_eq_true rfl, Nat.le_of_ble_eq_true rfl, Nat.le_of_ble_eq_true rfl, Or.inl (mm_tw1 185 rfl rfl)⟩
set_option maxRecDepth 100000 in
theorem mm_pf23 : mm_pfP (2, 30, 12, 1) := ⟨_, rfl, Nat.le_of_ble_eq_true rfl, Nat.le_of_ble_eq_true rfl, Nat.le_of_ble_eq_true rfl, Or.inl (mm_tw1 188 rfl rfl)⟩
set_option maxRecDepth 100000 in
theorem mm_pf24 : mm_pfP (2, 37, 12, 3) := ⟨_, rfl, Nat.le_of_ble_eq_true rfl, Nat.le_of_ble_eq_true rfl, Nat.le_of_ble_eq_true rfl, Or.inl (mm_tw1 192 rfl rfl)⟩
set_option maxRecDepth 100000 in
theorem mm_pf25 : mm_pfP (2, 41, 12, 4) := ⟨_, rfl, Nat.le_of_ble_eq_true rfl, Nat.le_of_ble_eq_true rfl, Nat.le_of_ble_eq_true rfl, Or.inl (mm_tw1 194 rfl rfl)⟩
set_option maxRecDepth 100000 in
theorem mm_pf26 : mm_pfP (2, 44, 14, 1) := ⟨_, rfl, Nat.le_of_ble_eq_true rfl, Nat.le_of_ble_eq_true rfl, Nat.le_of_ble_eq_true rfl, Or.inr ⟨"HiccupTown", (mm_tn1 100 rfl rfl)⟩⟩
set_option maxRecDepth 100000 in
theorem mm_pf27 : mm_pfP (2, 47, 12, 5) := ⟨_, rfl, Nat.le_of_ble_eq_true rfl, Nat.le_of_ble_eq_true rfl, Nat.le_of_ble_eq_true rfl, Or.inl (mm_tw1 196 rfl rfl)⟩
set_option maxRecDepth 100000 in
theorem mm_pf28 : mm_pfP (2, 50, 14, 5) := ⟨_, rfl, Nat.le_of_ble_eq_true rfl, Nat.le_of_ble_eq_true rfl, Nat.le_of_ble_eq_true rfl, Or.inr ⟨"HiccupTown", (mm_tn1 112 rfl rfl)⟩⟩
set_option maxRecDepth 100000 in
theorem mm_pf29 : mm_pfP (2, 53, 14, 8) := ⟨_, rfl, Nat.le_of_ble_eq_true rfl, Nat.le_of_ble_eq_true rfl, Nat.le_of_ble_eq_true rfl, Or.inr ⟨"HiccupTown", (mm_tn1 125 rfl rfl)⟩⟩
set_option maxRecDepth 100000 in
theorem mm_pf30 : mm_pfP (2, 62, 14, 2) := ⟨_, rfl, Nat.le_of_ble_eq_true rfl, Nat.le_of_ble_eq_true rfl, Nat.le_of_ble_eq_true rfl, Or.inr ⟨"HiccupTown", (mm_tn1 105 rfl rfl)⟩⟩
set_option maxRecDepth 100000 in
theorem mm_pf31 : mm_pfP (2, 69, 14, 9) := ⟨_, rfl, Nat.le_of_ble_eq_true rfl, Nat.le_of_ble_eq_true rfl, Nat.le_of_ble_eq_true rfl, Or.inr ⟨"HiccupTown", (mm_tn1 130 rfl rfl)⟩⟩
set_option maxRecDepth 100000 in
theorem mm_pf32 : mm_pfP (2, 86, 14, 7) := ⟨_, rfl, Nat.le_of_ble_eq_true rfl, Nat.le_of_ble_eq_true rfl, Nat.le_of_ble_eq_true rfl, Or.inr ⟨"HiccupTown", (mm_tn1 122 rfl rfl)⟩⟩
set_option maxRecDepth 100000 in
theorem mm_pf33 : mm_pfP (2, 89, 14, 6) := ⟨_, rfl, Nat.le_of_ble_eq_true rfl, Nat.le_of_ble_eq_true rfl, Nat.le_of_ble_eq_true rfl, Or.inr ⟨"HiccupTown", (mm_tn1 117 rfl rfl)⟩⟩
set_option maxRecDepth 100000 in
theorem mm_pf34 : mm_pfP (2, 169, 14, 0) := ⟨_, rfl, Nat.le_of_ble_eq_true rfl, Nat.le_of_ble_eq_true rfl, Nat.le_of_ble_eq_true rfl, Or.inr ⟨"HiccupTown", (mm_tn1 98 rfl rfl)⟩⟩
set_option maxRecDepth 100000 in
theorem mm_pf35 : mm_pfP (3, 13, 13, 0) := ⟨_, rfl, Nat.le_of_ble_eq_true rfl, Nat.le_of_ble_eq_true rfl, Nat.le_of_ble_eq_true rfl, Or.inl (mm_tw2 36 rfl rfl)⟩
set_option maxRecDepth 100000 in
theorem mm_pf36 : mm_pfP (3, 18, 13, 2) := ⟨_, rfl, Nat.le_of_ble_eq_true rfl, Nat.le_of_ble_eq_true rfl, Nat.le_of_ble_eq_true rfl, Or.inl (mm_tw2 38 rfl rfl)⟩
set_option maxRecDepth 100000 in
theorem mm_pf37 : mm_pfP (3, 22, 13, 1) := ⟨_, rfl, Nat.le_of_ble_eq_true rfl, Nat.le_of_ble_eq_true rfl, Nat.le_of_ble_eq_true rfl, Or.inl (mm_tw2 37 rfl rfl)⟩
set_option maxRecDepth 100000 in
theorem mm_pf38 : mm_pfP (4, 11, 14, 0) := ⟨_, rfl, Nat.le_of_ble_eq_true rfl, Nat.le_of_ble_eq_true rfl, Nat.le_of_ble_eq_true rfl, Or.inl (mm_tw1 95 rfl rfl)⟩
set_option maxRecDepth 100000 in
theorem mm_pf39 : mm_pfP (4, 15, 14, 2) := ⟨_, rfl, Nat.le_of_ble_eq_true rfl, Nat.le_of_ble_eq_true rfl, Nat.le_of_ble_eq_true rfl, Or.inl (mm_tw1 102 rfl rfl)⟩
set_option maxRecDepth 100000 in
theorem mm_pf40 : mm_pfP (4, 19, 14, 3) := ⟨_, rfl, Nat.le_of_ble_eq_true rfl, Nat.le_of_ble_eq_true rfl, Nat.le_of_ble_eq_true rfl, Or.inl (mm_tw1 107 rfl rfl)⟩
set_option maxRecDepth 100000 in
theorem mm_pf41 : mm_pfP (4, 23, 14, 4) := ⟨_, rfl, Nat.le_of_ble_eq_true rfl, Nat.le_of_ble_eq_true rfl, Nat.le_of_ble_eq_true rfl, Or.inl (mm_tw1 108 rfl rfl)⟩
set_option maxRecDepth 100000 in
theorem mm_pf42 : mm_pfP (4, 26, 14, 5) := ⟨_, rfl, Nat.le_of_ble_eq_true rfl, Nat.le_of_ble_eq_true rfl, Nat.le_of_ble_eq_true rfl, Or.inl (mm_tw1 111 rfl rfl)⟩
set_option maxRecDepth 100000 in
theorem mm_pf43 : mm_pfP (4, 29, 14, 6) := ⟨_, rfl, Nat.le_of_ble_eq_true rfl, Nat.le_of_ble_eq_true rfl, Nat.le_of_ble_eq_true rfl, Or.inl (mm_tw1 114 rfl rfl)⟩
set_option maxRecDepth 100000 in
theorem mm_pf44 : mm_pfP (4, 32, 14, 7) := ⟨_, rfl, Nat.le_of_ble_eq_true rfl, Nat.le_of_ble_eq_true rfl, Nat.le_of_ble_eq_true rfl, Or.inl (mm_tw1 119 rfl rfl)⟩
set_option maxRecDepth 100000 in
theorem mm_pf45 : mm_pfP (4, 35, 14, 8) := ⟨_, rfl, Nat.le_of_ble_eq_true rfl, Nat.le_of_ble_eq_true rfl, Nat.le_of_ble_eq_true rfl, Or.inl (mm_tw1 124 rfl rfl)⟩
set_option maxRecDepth 100000 in
theorem mm_pf46 : mm_pfP (4, 38, 14, 9) := ⟨_, rfl, Nat.le_of_ble_eq_true rfl, Nat.le_of_ble_eq_true rfl, Nat.le_of_ble_eq_true rfl, Or.inl (mm_tw1 128 rfl rfl)⟩
set_option maxRecDepth 100000 in
theorem mm_pf47 : mm_pfP (4, 41, 14, 10) := ⟨_, rfl, Nat.le_of_ble_eq_true rfl, Nat.le_of_ble_eq_true rfl, Nat.le_of_ble_eq_true rfl, Or.inl (mm_tw1 132 rfl rfl)⟩
set_option maxRecDepth 100000 in
theorem mm_pf48 : mm_pfP (4, 44, 14, 1) := ⟨_, rfl, Nat.le_of_ble_eq_true rfl, Nat.le_of_ble_eq_true rfl, Nat.le_of_ble_eq_true rfl, Or.inl (mm_tw1 99 rfl rfl)⟩
set_option maxRecDepth 100000 in
theorem mm_pf49 : mm_pfP (5, 11, 15, 0) := ⟨_, rfl, Nat.le_of_ble_eq_true rfl, Nat.le_of_ble_eq_true rfl, Nat.le_of_ble_eq_true rfl, Or.inl (mm_tw2 79 rfl rfl)⟩
set_option maxRecDepth 100000 in
theorem mm_pf50 : mm_pfP (5, 14, 15, 1) := ⟨_, rfl, Nat.le_of_ble_eq_true rfl, Nat.le_of_ble_eq_true rfl, Nat.le_of_ble_eq_true rfl, Or.inl (mm_tw2 80 rfl rfl)⟩
set_option maxRecDepth 100000 in
theorem mm_pf51 : mm_pfP (5, 32, 14, 4) := ⟨_, rfl, Nat.le_of_ble_eq_true rfl, Nat.le_of_ble_eq_true rfl, Nat.le_of_ble_eq_true rfl, Or.inr ⟨"HiccupTown", (mm_tn1 109 rfl rfl)⟩⟩
set_option maxRecDepth 100000 in
theorem mm_pf52 : mm_pfP (5, 38, 15, 2) := ⟨_, rfl, Nat.le_of_ble_eq_true rfl, Nat.le_of_ble_eq_true rfl, Nat.le_of_ble_eq_true rfl, Or.inl (mm_tw2 82 rfl rfl)⟩
set_option maxRecDepth 100000 in
theorem mm_pf53 : mm_pfP (6, 10, 16, 0) := ⟨_, rfl, Nat.le_of_ble_eq_true rfl, Nat.le_of_ble_eq_true rfl, Nat.le_of_ble_eq_true rfl, Or.inl (mm_tw2 10 rfl rfl)⟩
set_option maxRecDepth 100000 in
theorem mm_pf54 : mm_pfP (6, 19, 16, 1) := ⟨_, rfl, Nat.le_of_ble_eq_true rfl, Nat.le_of_ble_eq_true rfl, Nat.le_of_ble_eq_true rfl, Or.inl (mm_tw2 12 rfl rfl)⟩
set_option maxRecDepth 100000 in
theorem mm_pf55 : mm_pfP (6, 26, 16, 2) := ⟨_, rfl, Nat.le_of_ble_eq_true rfl, Nat.le_of_ble_eq_true rfl, Nat.le_of_ble_eq_true rfl, Or.inl (mm_tw2 14 rfl rfl)⟩
set_option maxRecDepth 100000 in
theorem mm_pf56 : mm_pfP (7, 13, 17, 0) := ⟨_, rfl, Nat.le_of_ble_eq_true rfl, Nat.le_of_ble_eq_true rfl, Nat.le_of_ble_eq_true rfl, Or.inl (mm_tw1 233 rfl rfl)⟩
set_option maxRecDepth 100000 in
theorem mm_pf57 : mm_pfP (7, 17, 17, 1) := ⟨_, rfl, Nat.le_of_ble_eq_true rfl, Nat.le_of_ble_eq_true rfl, Nat.le_of_ble_eq_true rfl, Or.inl (mm_tw1 234 rfl rfl)⟩
set_option maxRecDepth 100000 in
theorem mm_pf58 : mm_pfP (7, 20, 17, 2) := ⟨_, rfl, Nat.le_of_ble_eq_true rfl, Nat.le_of_ble_eq_true rfl, Nat.le_of_ble_eq_true rfl, Or.inl (mm_tw1 235 rfl rfl)⟩
set_option maxRecDepth 100000 in
theorem mm_pf59 : mm_pfP (7, 24, 17, 3) := ⟨_, rfl, Nat.le_of_ble_eq_true rfl, Nat.le_of_ble_eq_true rfl, Nat.le_of_ble_eq_true rfl, Or.inl (mm_tw1 236 rfl rfl)⟩
set_option maxRecDepth 100000 in
theorem mm_pf60 : mm_pfP (7, 28, 17, 4) := ⟨_, rfl, Nat.le_of_ble_eq_true rfl, Nat.le_of_ble_eq_true rfl, Nat.le_of_ble_eq_true rfl, Or.inl (mm_tw1 237 rfl rfl)⟩
set_option maxRecDepth 100000 in
theorem mm_pf61 : mm_pfP (7, 51, 18, 4) := ⟨_, rfl, Nat.le_of_ble_eq_true rfl, Nat.le_of_ble_eq_true rfl, Nat.le_of_ble_eq_true rfl, Or.inr ⟨"HiccupTown", (mm_tn1 50 rfl rfl)⟩⟩
set_option maxRecDepth 100000 in
theorem mm_pf62 : mm_pfP (7, 150, 12, 6) := ⟨_, rfl, Nat.le_of_ble_eq_true rfl, Nat.le_of_ble_eq_true rfl, Nat.le_of_ble_eq_true rfl, Or.inr ⟨"HiccupTown", (mm_tn1 200 rfl rfl)⟩⟩
set_option maxRecDepth 100000 in
theorem mm_pf63 : mm_pfP (7, 153, 14, 7) := ⟨_, rfl, Nat.le_of_ble_eq_true rfl, Nat.le_of_ble_eq_true rfl, Nat.le_of_ble_eq_true rfl, Or.inr ⟨"HiccupTown", (mm_tn1 123 rfl rfl)⟩⟩
set_option maxRecDepth 100000 in
theorem mm_pf64 : mm_pfP (7, 164, 14, 6) := ⟨_, rfl, Nat.le_of_ble_eq_true rfl, Nat.le_of_ble_eq_true rfl, Nat.le_of_ble_eq_true rfl, Or.inr ⟨"HiccupTown", (mm_tn1 118 rfl rfl)⟩⟩
set_option maxRecDepth 100000 in
theorem mm_pf65 : mm_pfP (7, 167, 12, 7) := ⟨_, rfl, Nat.le_of_ble_eq_true rfl, Nat.le_of_ble_eq_true rfl, Nat.le_of_ble_eq_true rfl, Or.inr ⟨"HiccupTown", (mm_tn1 203 rfl rfl)⟩⟩
set_option maxRecDepth 100000 in
theorem mm_pf66 : mm_pfP (8, 9, 18, 0) := ⟨_, rfl, Nat.le_of_ble_eq_true rfl, Nat.le_of_ble_eq_true rfl, Nat.le_of_ble_eq_true rfl, Or.inl (mm_tw1 41 rfl rfl)⟩
set_option maxRecDepth 100000 in
theorem mm_pf67 : mm_pfP (8, 21, 18, 4) := ⟨_, rfl, Nat.le_of_ble_eq_true rfl, Nat.le_of_ble_eq_true rfl, Nat.le_of_ble_eq_true rfl, Or.inl (mm_tw1 47 rfl rfl)⟩
set_option maxRecDepth 100000 in
theorem mm_pf68 : mm_pfP (8, 24, 18, 1) := ⟨_, rfl, Nat.le_of_ble_eq_true rfl, Nat.le_of_ble_eq_true rfl, Nat.le_of_ble_eq_true rfl, Or.inl (mm_tw1 43 rfl rfl)⟩
set_option maxRecDepth 100000 in
theorem mm_pf69 : mm_pfP (8, 28, 18, 2) := ⟨_, rfl, Nat.le_of_ble_eq_true rfl, Nat.le_of_ble_eq_true rfl, Nat.le_of_ble_eq_true rfl, Or.inl (mm_tw1 45 rfl rfl)⟩
set_option maxRecDepth 100000 in
theorem mm_pf70 : mm_pfP (8, 31, 18, 3) := ⟨_, rfl, Nat.le_of_ble_eq_true rfl, Nat.le_of_ble_eq_true rfl, Nat.le_of_ble_eq_true rfl, Or.inl (mm_tw1 46 rfl rfl)⟩
set_option maxRecDepth 100000 in
theorem mm_pf71 : mm_pfP (8, 34, 18, 8) := ⟨_, rfl, Nat.le_of_ble_eq_true rfl, Nat.le_of_ble_eq_true rfl, Nat.le_of_ble_eq_true rfl, Or.inl (mm_tw1 57 rfl rfl)⟩
set_option maxRecDepth 100000 in
theorem mm_pf72 : mm_pfP (8, 37, 18, 9) := ⟨_, rfl, Nat.le_of_ble_eq_true rfl, Nat.le_of_ble_eq_true rfl, Nat.le_of_ble_eq_true rfl, Or.inl (mm_tw1 59 rfl rfl)⟩
set_option maxRecDepth 100000 in
theorem mm_pf73 : mm_pfP (8, 46, 18, 5) := ⟨_, rfl, Nat.le_of_ble_eq_true rfl, Nat.le_of_ble_eq_true rfl, Nat.le_of_ble_eq_true rfl, Or.inl (mm_tw1 51 rfl rfl)⟩
set_option maxRecDepth 100000 in
theorem mm_pf74 : mm_pfP (8, 49, 18, 6) := ⟨_, rfl, Nat.le_of_ble_eq_true rfl, Nat.le_of_ble_eq_true rfl, Nat.le_of_ble_eq_true rfl, Or.inl (mm_tw1 53 rfl rfl)⟩
set_option maxRecDepth 100000 in
theorem mm_pf75 : mm_pfP (8, 52, 18, 7) := ⟨_, rfl, Nat.le_of_ble_eq_true rfl, Nat.le_of_ble_eq_true rfl, Nat.le_of_ble_eq_true rfl, Or.inl (mm_tw1 55 rfl rfl)⟩
set_option maxRecDepth 100000 in
theorem mm_pf76 : mm_pfP (9, 12, 19, 0) := ⟨_, rfl, Nat.le_of_ble_eq_true rfl, Nat.le_of_ble_eq_true rfl, Nat.le_of_ble_eq_true rfl, Or.inl (mm_tw1 160 rfl rfl)⟩
set_option maxRecDepth 100000 in
theorem mm_pf77 : mm_pfP (9, 21, 19, 1) := ⟨_, rfl, Nat.le_of_ble_eq_true rfl, Nat.le_of_ble_eq_true rfl, Nat.le_of_ble_eq_true rfl, Or.inl (mm_tw1 162 rfl rfl)⟩
set_option maxRecDepth 100000 in
theorem mm_pf78 : mm_pfP (9, 25, 19, 2) := ⟨_, rfl, Nat.le_of_ble_eq_true rfl, Nat.le_of_ble_eq_true rfl, Nat.le_of_ble_eq_true rfl, Or.inl (mm_tw1 163 rfl rfl)⟩
set_option maxRecDepth 100000 in
theorem mm_pf79 : mm_pfP (9, 28, 18, 4) := ⟨_, rfl, Nat.le_of_ble_eq_true rfl, Nat.le_of_ble_eq_true rfl, Nat.le_of_ble_eq_true rfl, Or.inr ⟨"HiccupTown", (mm_tn1 49 rfl rfl)⟩⟩
set_option maxRecDepth 100000 in
theorem mm_pf80 : mm_pfP (9, 96, 14, 2) := ⟨_, rfl, Nat.le_of_ble_eq_true rfl, Nat.le_of_ble_eq_true rfl, Nat.le_of_ble_eq_true rfl, Or.inr ⟨"HiccupTown", (mm_tn1 103 rfl rfl)⟩⟩
set_option maxRecDepth 100000 in
theorem mm_pf81 : mm_pfP (9, 107, 14, 0) := ⟨_, rfl, Nat.le_of_ble_eq_true rfl, Nat.le_of_ble_eq_true rfl, Nat.le_of_ble_eq_true rfl, Or.inr ⟨"HiccupTown", (mm_tn1 96 rfl rfl)⟩⟩
set_option maxRecDepth 100000 in
theorem mm_pf82 : mm_pfP (9, 111, 14, 4) := ⟨_, rfl, Nat.le_of_ble_eq_true rfl, Nat.le_of_ble_eq_true rfl, Nat.le_of_ble_eq_true rfl, Or.inr ⟨"HiccupTown", (mm_tn1 110 rfl rfl)⟩⟩
set_option maxRecDepth 100000 in
theorem mm_pf83 : mm_pfP (9, 120, 18, 7) := ⟨_, rfl, Nat.le_of_ble_eq_true rfl, Nat.le_of_ble_eq_true rfl, Nat.le_of_ble_eq_true rfl, Or.inr ⟨"HiccupTown", (mm_tn1 56 rfl rfl)⟩⟩
set_option maxRecDepth 100000 in
theorem mm_pf84 : mm_pfP (9, 136, 14, 5) := ⟨_, rfl, Nat.le_of_ble_eq_true rfl, Nat.le_of_ble_eq_true rfl, Nat.le_of_ble_eq_true rfl, Or.inr ⟨"HiccupTown", (mm_tn1 113 rfl rfl)⟩⟩
set_option maxRecDepth 100000 in
theorem mm_pf85 : mm_pfP (9, 139, 14, 6) := ⟨_, rfl, Nat.le_of_ble_eq_true rfl, Nat.le_of_ble_eq_true rfl, Nat.le_of_ble_eq_true rfl, Or.inr ⟨"HiccupTown", (mm_tn1 116 rfl rfl)⟩⟩
set_option maxRecDepth 100000 in
theorem mm_pf86 : mm_pfP (9, 145, 14, 1) := ⟨_, rfl, Nat.le_of_ble_eq_true rfl, Nat.le_of_ble_eq_true rfl, Nat.le_of_ble_eq_true rfl, Or.inr ⟨"HiccupTown", (mm_tn1 101 rfl rfl)⟩⟩
set_option maxRecDepth 100000 in
theorem mm_pf87 : mm_pfP (9, 148, 14, 7) := ⟨_, rfl, Nat.le_of_ble_eq_true rfl, Nat.le_of_ble_eq_true rfl, Nat.le_of_ble_eq_true rfl, Or.inr ⟨"HiccupTown", (mm_tn1 121 rfl rfl)⟩⟩
set_option maxRecDepth 100000 in
theorem mm_pf88 : mm_pfP (9, 151, 14, 8) := ⟨_, rfl, Nat.le_of_ble_eq_true rfl, Nat.le_of_ble_eq_true rfl, Nat.le_of_ble_eq_true rfl, Or.inr ⟨"HiccupTown", (mm_tn1 127 rfl rfl)⟩⟩
set_option maxRecDepth 100000 in
theorem mm_pf89 : mm_pfP (9, 154, 14, 9) := ⟨_, rfl, Nat.le_of_ble_eq_true rfl, Nat.le_of_ble_eq_true rfl, Nat.le_of_ble_eq_true rfl, Or.inr ⟨"HiccupTown", (mm_tn1 131 rfl rfl)⟩⟩
set_option maxRecDepth 100000 in
theorem mm_pf90 : mm_pfP (9, 161, 18, 5) := ⟨_, rfl, Nat.le_of_ble_eq_true rfl, Nat.le_of_ble_eq_true rfl, Nat.le_of_ble_eq_true rfl, Or.inr ⟨"HiccupTown", (mm_tn1 52 rfl rfl)⟩⟩
set_option maxRecDepth 100000 in
theorem mm_pf91 : mm_pfP (9, 171, 14, 10) := ⟨_, rfl, Nat.le_of_ble_eq_true rfl, Nat.le_of_ble_eq_true rfl, Nat.le_of_ble_eq_true rfl, Or.inr ⟨"HiccupTown", (mm_tn1 134 rfl rfl)⟩⟩
set_option maxRecDepth 100000 in
theorem mm_pf92 : mm_pfP (11, 10, 20, 0) := ⟨_, rfl, Nat.le_of_ble_eq_true rfl, Nat.le_of_ble_eq_true rfl, Nat.le_of_ble_eq_true rfl, Or.inl (mm_tw2 125 rfl rfl)⟩
set_option maxRecDepth 100000 in
theorem mm_pf93 : mm_pfP (11, 19, 20, 1) := ⟨_, rfl, Nat.le_of_ble_eq_true rfl, Nat.le_of_ble_eq_true rfl, Nat.le_of_ble_eq_true rfl, Or.inl (mm_tw2 126 rfl rfl)⟩
set_option maxRecDepth 100000 in
theorem mm_pf94 : mm_pfP (11, 26, 20, 2) := ⟨_, rfl, Nat.le_of_ble_eq_true rfl, Nat.le_of_ble_eq_true rfl, Nat.le_of_ble_eq_true rfl, Or.inl (mm_tw2 127 rfl rfl)⟩
set_option maxRecDepth 100000 in
theorem mm_pf95 : mm_pfP (11, 30, 20, 3) := ⟨_, rfl, Nat.le_of_ble_eq_true rfl, Nat.le_of_ble_eq_true rfl, Nat.le_of_ble_eq_true rfl, Or.inl (mm_tw2 128 rfl rfl)⟩
set_option maxRecDepth 100000 in
theorem mm_pf96 : mm_pfP (11, 37, 20, 4) := ⟨_, rfl, Nat.le_of_ble_eq_true rfl, Nat.le_of_ble_eq_true rfl, Nat.le_of_ble_eq_true rfl, Or.inl (mm_tw2 129 rfl rfl)⟩
set_option maxRecDepth 100000 in
theorem mm_pf97 : mm_pfP (11, 44, 20, 5) := ⟨_, rfl, Nat.le_of_ble_eq_true rfl, Nat.le_of_ble_eq_true rfl, Nat.le_of_ble_eq_true rfl, Or.inl (mm_tw2 130 rfl rfl)⟩
set_option maxRecDepth 100000 in
theorem mm_pf98 : mm_pfP (11, 48, 20, 6) := ⟨_, rfl, Nat.le_of_ble_eq_true rfl, Nat.le_of_ble_eq_true rfl, Nat.le_of_ble_eq_true rfl, Or.inl (mm_tw2 131 rfl rfl)⟩
set_option maxRecDepth 100000 in
theorem mm_pf99 : mm_pfP (11, 54, 20, 7) := ⟨_, rfl, Nat.le_of_ble_eq_true rfl, Nat.le_of_ble_eq_true rfl, Nat.le_of_ble_eq_true rfl, Or.inl (mm_tw2 132 rfl rfl)⟩
set_option maxRecDepth 100000 in
theorem mm_pf100 : mm_pfP (11, 61, 20, 8) := ⟨_, rfl, Nat.le_of_ble_eq_true rfl, Nat.le_of_ble_eq_true rfl, Nat.le_of_ble_eq_true rfl, Or.inl (mm_tw2 133 rfl rfl)⟩
set_option maxRecDepth 100000 in
theorem mm_pf101 : mm_pfP (11, 68, 20, 9) := ⟨_, rfl, Nat.le_of_ble_eq_true rfl, Nat.le_of_ble_eq_true rfl, Nat.le_of_ble_eq_true rfl, Or.inl (mm_tw2 134 rfl rfl)⟩
set_option maxRecDepth 100000 in
theorem mm_pf102 : mm_pfP (11, 75, 20, 10) := ⟨_, rfl, Nat.le_of_ble_eq_true rfl, Nat.le_of_ble_eq_true rfl, Nat.le_of_ble_eq_true rfl, Or.inl (mm_tw2 135 rfl rfl)⟩
set_option maxRecDepth 100000 in
theorem mm_pf103 : mm_pfP (11, 79, 20, 11) := ⟨_, rfl, Nat.le_of_ble_eq_true rfl, Nat.le_of_ble_eq_true rfl, Nat.le_of_ble_eq_true rfl, Or.inl (mm_tw2 136 rfl rfl)⟩
set_option maxRecDepth 100000 in
theorem mm_pf104 : mm_pfP (11, 83, 20, 14) := ⟨_, rfl, Nat.le_of_ble_eq_true rfl, Nat.le_of_ble_eq_true rfl, Nat.le_of_ble_eq_true rfl, Or.inl (mm_tw2 139 rfl rfl)⟩
set_option maxRecDepth 100000 in
theorem mm_pf105 : mm_pfP (11, 87, 18, 1) := ⟨_, rfl, Nat.le_of_ble_eq_true rfl, Nat.le_of_ble_eq_true rfl, Nat.le_of_ble_eq_true rfl, Or.inr ⟨"HiccupTown", (mm_tn1 42 rfl rfl)⟩⟩
set_option maxRecDepth 100000 in
theorem mm_pf106 : mm_pfP (11, 105, 18, 9) := ⟨_, rfl, Nat.le_of_ble_eq_true rfl, Nat.le_of_ble_eq_true rfl, Nat.le_of_ble_eq_true rfl, Or.inr ⟨"HiccupTown", (mm_tn1 60 rfl rfl)⟩⟩
set_option maxRecDepth 100000 in
theorem mm_pf107 : mm_pfP (11, 108, 19, 0) := ⟨_, rfl, Nat.le_of_ble_eq_true rfl, Nat.le_of_ble_eq_true rfl, Nat.le_of_ble_eq_true rfl, Or.inr ⟨"HiccupTown", (mm_tn1 161 rfl rfl)⟩⟩
set_option maxRecDepth 100000 in
theorem mm_pf108 : mm_pfP (11, 119, 20, 13) := ⟨_, rfl, Nat.le_of_ble_eq_true rfl, Nat.le_of_ble_eq_true rfl, Nat.le_of_ble_eq_true rfl, Or.inl (mm_tw2 138 rfl rfl)⟩
set_option maxRecDepth 100000 in
theorem mm_pf109 : mm_pfP (11, 122, 16, 0) := ⟨_, rfl, Nat.le_of_ble_eq_true rfl, Nat.le_of_ble_eq_true rfl, Nat.le_of_ble_eq_true rfl, Or.inr ⟨"HiccupTown", (mm_tn2 11 rfl rfl)⟩⟩
set_option maxRecDepth 100000 in
theorem mm_pf110 : mm_pfP (11, 136, 16, 1) := ⟨_, rfl, Nat.le_of_ble_eq_true rfl, Nat.le_of_ble_eq_true rfl, Nat.le_of_ble_eq_true rfl, Or.inr ⟨"HiccupTown", (mm_tn2 13 rfl rfl)⟩⟩
set_option maxRecDepth 100000 in
theorem mm_pf111 : mm_pfP (11, 139, 12, 6) := ⟨_, rfl, Nat.le_of_ble_eq_true rfl, Nat.le_of_ble_eq_true rfl, Nat.le_of_ble_eq_true rfl, Or.inr ⟨"HiccupTown", (mm_tn1 199 rfl rfl)⟩⟩
set_option maxRecDepth 100000 in
theorem mm_pf112 : mm_pfP (11, 159, 14, 7) := ⟨_, rfl, Nat.le_of_ble_eq_true rfl, Nat.le_of_ble_eq_true rfl, Nat.le_of_ble_eq_true rfl, Or.inr ⟨"HiccupTown", (mm_tn1 120 rfl rfl)⟩⟩
set_option maxRecDepth 100000 in
theorem mm_pf113 : mm_pfP (11, 162, 14, 8) := ⟨_, rfl, Nat.le_of_ble_eq_true rfl, Nat.le_of_ble_eq_true rfl, Nat.le_of_ble_eq_true rfl, Or.inr ⟨"HiccupTown", (mm_tn1 126 rfl rfl)⟩⟩
set_option maxRecDepth 100000 in
theorem mm_pf114 : mm_pfP (11, 165, 12, 8) := ⟨_, rfl, Nat.le_of_ble_eq_true rfl, Nat.le_of_ble_eq_true rfl, Nat.le_of_ble_eq_true rfl, Or.inr ⟨"HiccupTown", (mm_tn1 205 rfl rfl)⟩⟩
set_option maxRecDepth 100000 in
theorem mm_pf115 : mm_pfP (11, 172, 14, 9) := ⟨_, rfl, Nat.le_of_ble_eq_true rfl, Nat.le_of_ble_eq_true rfl, Nat.le_of_ble_eq_true rfl, Or.inr ⟨"HiccupTown", (mm_tn1 129 rfl rfl)⟩⟩
set_option maxRecDepth 100000 in
theorem mm_pf116 : mm_pfP (11, 179, 12, 0) := ⟨_, rfl, Nat.le_of_ble_eq_true rfl, Nat.le_of_ble_eq_true rfl, Nat.le_of_ble_eq_true rfl, Or.inr ⟨"HiccupTown", (mm_tn1 186 rfl rfl)⟩⟩
set_option maxRecDepth 100000 in
theorem mm_pf117 : mm_pfP (11, 182, 12, 1) := ⟨_, rfl, Nat.le_of_ble_eq_true rfl, Nat.le_of_ble_eq_true rfl, Nat.le_of_ble_eq_true rfl, Or.inr ⟨"HiccupTown", (mm_tn1 189 rfl rfl)⟩⟩
set_option maxRecDepth 100000 in
theorem mm_pf118 : mm_pfP (11, 185, 12, 2) := ⟨_, rfl, Nat.le_of_ble_eq_true rfl, Nat.le_of_ble_eq_true rfl, Nat.le_of_ble_eq_true rfl, Or.inr ⟨"HiccupTown", (mm_tn1 191 rfl rfl)⟩⟩
set_option maxRecDepth 100000 in
theorem mm_pf119 : mm_pfP (11, 188, 12, 3) := ⟨_, rfl, Nat.le_of_ble_eq_true rfl, Nat.le_of_ble_eq_true rfl, Nat.le_of_ble_eq_true rfl, Or.inr ⟨"HiccupTown", (mm_tn1 193 rfl rfl)⟩⟩
set_option maxRecDepth 100000 in
theorem mm_pf120 : mm_pfP (11, 192, 12, 4) := ⟨_, rfl, Nat.le_of_ble_eq_true rfl, Nat.le_of_ble_eq_true rfl, Nat.le_of_ble_eq_true rfl, Or.inr ⟨"HiccupTown", (mm_tn1 195 rfl rfl)⟩⟩
set_option maxRecDepth 100000 in
theorem mm_pf121 : mm_pfP (11, 195, 12, 5) := ⟨_, rfl, Nat.le_of_ble_eq_true rfl, Nat.le_of_ble_eq_true rfl, Nat.le_of_ble_eq_true rfl, Or.inr ⟨"HiccupTown", (mm_tn1 197 rfl rfl)⟩⟩
set_option maxRecDepth 100000 in
theorem mm_pf122 : mm_pfP (11, 240, 14, 0) := ⟨_, rfl, Nat.le_of_ble_eq_true rfl, Nat.le_of_ble_eq_true rfl, Nat.le_of_ble_eq_true rfl, Or.inr ⟨"HiccupTown", (mm_tn1 97 rfl rfl)⟩⟩
set_option maxRecDepth 100000 in
theorem mm_pf123 : mm_pfP (11, 253, 11, 1) := ⟨_, rfl, Nat.le_of_ble_eq_true rfl, Nat.le_of_ble_eq_true rfl, Nat.le_of_ble_eq_true rfl, Or.inr ⟨"HiccupTown", (mm_tn2 56 rfl rfl)⟩⟩
set_option maxRecDepth 100000 in
theorem mm_pf124 : mm_pfP (11, 256, 11, 2) := ⟨_, rfl, Nat.le_of_ble_eq_true rfl, Nat.le_of_ble_eq_true rfl, Nat.le_of_ble_eq_true rfl, Or.inr ⟨"HiccupTown", (mm_tn2 58 rfl rfl)⟩⟩
set_option maxRecDepth 100000 in
theorem mm_pf125 : mm_pfP (11, 259, 11, 3) := ⟨_, rfl, Nat.le_of_ble_eq_true rfl, Nat.le_of_ble_eq_true rfl, Nat.le_of_ble_eq_true rfl, Or.inr ⟨"HiccupTown", (mm_tn2 60 rfl rfl)⟩⟩
set_option maxRecDepth 100000 in
theorem mm_pf126 : mm_pfP (11, 265, 15, 2) := ⟨_, rfl, Nat.le_of_ble_eq_true rfl, Nat.le_of_ble_eq_true rfl, Nat.le_of_ble_eq_true rfl, Or.inr ⟨"HiccupTown", (mm_tn2 83 rfl rfl)⟩⟩
set_option maxRecDepth 100000 in
theorem mm_pf127 : mm_pfP (11, 268, 15, 1) := ⟨_, rfl, Nat.le_of_ble_eq_true rfl, Nat.le_of_ble_eq_true rfl, Nat.le_of_ble_eq_true rfl, Or.inr ⟨"HiccupTown", (mm_tn2 81 rfl rfl)⟩⟩
set_option maxRecDepth 100000 in
theorem mm_pf128 : mm_pfP (11, 283, 20, 12) := ⟨_, rfl, Nat.le_of_ble_eq_true rfl, Nat.le_of_ble_eq_true rfl, Nat.le_of_ble_eq_true rfl, Or.inl (mm_tw2 137 rfl rfl)⟩
set_option maxRecDepth 100000 in
theorem mm_pf129 : mm_pfP (11, 319, 10, 5) := ⟨_, rfl, Nat.le_of_ble_eq_true rfl, Nat.le_of_ble_eq_true rfl, Nat.le_of_ble_eq_true rfl, Or.inr ⟨"HiccupTown", (mm_tn2 103 rfl rfl)⟩⟩
set_option maxRecDepth 100000 in
theorem mm_pf130 : mm_pfP (11, 328, 16, 2) := ⟨_, rfl, Nat.le_of_ble_eq_true rfl, Nat.le_of_ble_eq_true rfl, Nat.le_of_ble_eq_true rfl, Or.inr ⟨"HiccupTown", (mm_tn2 15 rfl rfl)⟩⟩
set_option maxRecDepth 100000 in
theorem mm_pf131 : mm_pfP (11, 334, 17, 4) := ⟨_, rfl, Nat.le_of_ble_eq_true rfl, Nat.le_of_ble_eq_true rfl, Nat.le_of_ble_eq_true rfl, Or.inr ⟨"HiccupTown", (mm_tn1 238 rfl rfl)⟩⟩
set_option maxRecDepth 100000 in
theorem mm_pf132 : mm_pfP (11, 340, 14, 2) := ⟨_, rfl, Nat.le_of_ble_eq_true rfl, Nat.le_of_ble_eq_true rfl, Nat.le_of_ble_eq_true rfl, Or.inr ⟨"HiccupTown", (mm_tn1 106 rfl rfl)⟩⟩
set_option maxRecDepth 100000 in
theorem mm_pf133 : mm_pfP (11, 350, 16, 3) := ⟨_, rfl, Nat.le_of_ble_eq_true rfl, Nat.le_of_ble_eq_true rfl, Nat.le_of_ble_eq_true rfl, Or.inr ⟨"HiccupTown", (mm_tn2 16 rfl rfl)⟩⟩
set_option maxRecDepth 100000 in
theorem mm_pf134 : mm_pfP (11, 353, 18, 8) := ⟨_, rfl, Nat.le_of_ble_eq_true rfl, Nat.le_of_ble_eq_true rfl, Nat.le_of_ble_eq_true rfl, Or.inr ⟨"HiccupTown", (mm_tn1 58 rfl rfl)⟩⟩
set_option maxRecDepth 100000 in
theorem mm_pf135 : mm_pfP (12, 1, 21, 0) := ⟨_, rfl, Nat.le_of_ble_eq_true rfl, Nat.le_of_ble_eq_true rfl, Nat.le_of_ble_eq_true rfl, Or.inl (mm_tw6 108 rfl rfl)⟩
set_option maxRecDepth 100000 in
theorem mm_pf136 : mm_pfP (12, 7, 21, 1) := ⟨_, rfl, Nat.le_of_ble_eq_true rfl, Nat.le_of_ble_eq_true rfl, Nat.le_of_ble_eq_true rfl, Or.inl (mm_tw6 109 rfl rfl)⟩
set_option maxRecDepth 100000 in
theorem mm_pf137 : mm_pfP (12, 11, 21, 2) := ⟨_, rfl, Nat.le_of_ble_eq_true rfl, Nat.le_of_ble_eq_true rfl, Nat.le_of_ble_eq_true rfl, Or.inl (mm_tw6 110 rfl rfl)⟩
set_option maxRecDepth 100000 in
theorem mm_pf138 : mm_pfP (12, 18, 21, 3) := ⟨_, rfl, Nat.le_of_ble_eq_true rfl, Nat.le_of_ble_eq_true rfl, Nat.le_of_ble_eq_true rfl, Or.inl (mm_tw6 111 rfl rfl)⟩
set_option maxRecDepth 100000 in
theorem mm_pf139 : mm_pfP (12, 21, 21, 5) := ⟨_, rfl, Nat.le_of_ble_eq_true rfl, Nat.le_of_ble_eq_true rfl, Nat.le_of_ble_eq_true rfl, Or.inl (mm_tw6 113 rfl rfl)⟩
set_option maxRecDepth 100000 in
theorem mm_pf140 : mm_pfP (12, 24, 21, 6) := ⟨_, rfl, Nat.le_of_ble_eq_true rfl, Nat.le_of_ble_eq_true rfl, Nat.le_of_ble_eq_true rfl, Or.inl (mm_tw6 114 rfl rfl)⟩
set_option maxRecDepth 100000 in
theorem mm_pf141 : mm_pfP (12, 27, 21, 4) := ⟨_, rfl, Nat.le_of_ble_eq_true rfl, Nat.le_of_ble_eq_true rfl, Nat.le_of_ble_eq_true rfl, Or.inl (mm_tw6 112 rfl rfl)⟩
set_option maxRecDepth 100000 in
theorem mm_pf142 : mm_pfP (12, 30, 21, 7) := ⟨_, rfl, Nat.le_of_ble_eq_true rfl, Nat.le_of_ble_eq_true rfl, Nat.le_of_ble_eq_true rfl, Or.inl (mm_tw6 115 rfl rfl)⟩
set_option maxRecDepth 100000 in
theorem mm_pf143 : mm_pfP (12, 40, 21, 9) := ⟨_, rfl, Nat.le_of_ble_eq_true rfl, Nat.le_of_ble_eq_true rfl, Nat.le_of_ble_eq_true rfl, Or.inl (mm_tw6 117 rfl rfl)⟩
set_option maxRecDepth 100000 in
theorem mm_pf144 : mm_pfP (12, 43, 21, 12) := ⟨_, rfl, Nat.le_of_ble_eq_true rfl, Nat.le_of_ble_eq_true rfl, Nat.le_of_ble_eq_true rfl, Or.inl (mm_tw6 120 rfl rfl)⟩
set_option maxRecDepth 100000 in
theorem mm_pf145 : mm_pfP (12, 47, 21, 8) := ⟨_, rfl, Nat.le_of_ble_eq_true rfl, Nat.le_of_ble_eq_true rfl, Nat.le_of_ble_eq_true rfl, Or.inl (mm_tw6 116 rfl rfl)⟩
set_option maxRecDepth 100000 in
theorem mm_pf146 : mm_pfP (12, 66, 21, 10) := ⟨_, rfl, Nat.le_of_ble_eq_true rfl, Nat.le_of_ble_eq_true rfl, Nat.le_of_ble_eq_true rfl, Or.inl (mm_tw6 118 rfl rfl)⟩
set_option maxRecDepth 100000 in
theorem mm_pf147 : mm_pfP (12, 69, 21, 11) := ⟨_, rfl, Nat.le_of_ble_eq_true rfl, Nat.le_of_ble_eq_true rfl, Nat.le_of_ble_eq_true rfl, Or.inl (mm_tw6 119 rfl rfl)⟩
set_option maxRecDepth 100000 in
theorem mm_pf148 : mm_pfP (12, 79, 21, 13) := ⟨_, rfl, Nat.le_of_ble_eq_true rfl, Nat.le_of_ble_eq_true rfl, Nat.le_of_ble_eq_true rfl, Or.inl (mm_tw6 121 rfl rfl)⟩
set_option maxRecDepth 100000 in
theorem mm_pf149 : mm_pfP (12, 98, 21, 14) := ⟨_, rfl, Nat.le_of_ble_eq_true rfl, Nat.le_of_ble_eq_true rfl, Nat.le_of_ble_eq_true rfl, Or.inl (mm_tw6 122 rfl rfl)⟩
set_option maxRecDepth 100000 in
theorem mm_pf150 : mm_pfP (12, 101, 21, 15) := ⟨_, rfl, Nat.le_of_ble_eq_true rfl, Nat.le_of_ble_eq_true rfl, Nat.le_of_ble_eq_true rfl, Or.inl (mm_tw6 123 rfl rfl)⟩
set_option maxRecDepth 100000 in
theorem mm_pf151 : mm_pfP (12, 104, 21, 16) := ⟨_, rfl, Nat.le_of_ble_eq_true rfl, Nat.le_of_ble_eq_true rfl, Nat.le_of_ble_eq_true rfl, Or.inl (mm_tw6 124 rfl rfl)⟩
set_option maxRecDepth 100000 in
theorem mm_pf152 : mm_pfP (12, 107, 21, 17) := ⟨_, rfl, Nat.le_of_ble_eq_true rfl, Nat.le_of_ble_eq_true rfl, Nat.le_of_ble_eq_true rfl, Or.inl (mm_tw6 125 rfl rfl)⟩
set_option maxRecDepth 100000 in
theorem mm_pf153 : mm_pfP (12, 110, 21, 18) := ⟨_, rfl, Nat.le_of_ble_eq_true rfl, Nat.le_of_ble_eq_true rfl, Nat.le_of_ble_eq_true rfl, Or.inl (mm_tw6 126 rfl rfl)⟩
set_option maxRecDepth 100000 in
theorem mm_pf154 : mm_pfP (12, 113, 21, 19) := ⟨_, rfl, Nat.le_of_ble_eq_true rfl, Nat.le_of_ble_eq_true rfl, Nat.le_of_ble_eq_true rfl, Or.inl (mm_tw6 127 rfl rfl)⟩
set_option maxRecDepth 100000 in
theorem mm_pf155 : mm_pfP (12, 117, 21, 20) := ⟨_, rfl, Nat.le_of_ble_eq_true rfl, Nat.le_of_ble_eq_true rfl, Nat.le_of_ble_eq_true rfl, Or.inl (mm_tw6 128 rfl rfl)⟩
set_option maxRecDepth 100000 in
theorem mm_pf156 : mm_pfP (12, 120, 21, 21) := ⟨_, rfl, Nat.le_of_ble_eq_true rfl, Nat.le_of_ble_eq_true rfl, Nat.le_of_ble_eq_true rfl, Or.inl (mm_tw6 129 rfl rfl)⟩
set_option maxRecDepth 100000 in
theorem mm_pf157 : mm_pfP (12, 123, 21, 22) := ⟨_, rfl, Nat.le_of_ble_eq_true rfl, Nat.le_of_ble_eq_true rfl, Nat.le_of_ble_eq_true rfl, Or.inl (mm_tw6 130 rfl rfl)⟩
set_option maxRecDepth 100000 in
theorem mm_pf158 : mm_pfP (12, 127, 21, 23) := ⟨_, rfl, Nat.le_of_ble_eq_true rfl, Nat.le_of_ble_eq_true rfl, Nat.le_of_ble_eq_true rfl, Or.inl (mm_tw6 131 rfl rfl)⟩
set_option maxRecDepth 100000 in
theorem mm_pf159 : mm_pfP (12, 130, 21, 26) := ⟨_, rfl, Nat.le_of_ble_eq_true rfl, Nat.le_of_ble_eq_true rfl, Nat.le_of_ble_eq_true rfl, Or.inl (mm_tw6 134 rfl rfl)⟩
set_option maxRecDepth 100000 in
theorem mm_pf160 : mm_pfP (12, 133, 21, 27) := ⟨_, rfl, Nat.le_of_ble_eq_true rfl, Nat.le_of_ble_eq_true rfl, Nat.le_of_ble_eq_true rfl, Or.inl (mm_tw6 135 rfl rfl)⟩
set_option maxRecDepth 100000 in
theorem mm_pf161 : mm_pfP (12, 136, 21, 28) := ⟨_, rfl, Nat.le_of_ble_eq_true rfl, Nat.le_of_ble_eq_true rfl, Nat.le_of_ble_eq_true rfl, Or.inl (mm_tw6 136 rfl rfl)⟩
set_option maxRecDepth 100000 in
theorem mm_pf162 : mm_pfP (12, 139, 21, 29) := ⟨_, rfl, Nat.le_of_ble_eq_true rfl, Nat.le_of_ble_eq_true rfl, Nat.le_of_ble_eq_true rfl, Or.inl (mm_tw6 137 rfl rfl)⟩
set_option maxRecDepth 100000 in
theorem mm_pf163 : mm_pfP (12, 142, 21, 30) := ⟨_, rfl, Nat.le_of_ble_eq_true rfl, Nat.le_of_ble_eq_true rfl, Nat.le_of_ble_eq_true rfl, Or.inl (mm_tw6 138 rfl rfl)⟩
set_option maxRecDepth 100000 in
theorem mm_pf164 : mm_pfP (12, 145, 21, 31) := ⟨_, rfl, Nat.le_of_ble_eq_true rfl, Nat.le_of_ble_eq_true rfl, Nat.le_of_ble_eq_true rfl, Or.inl (mm_tw6 139 rfl rfl)⟩
set_option maxRecDepth 100000 in
theorem mm_pf165 : mm_pfP (12, 148, 21, 32) := ⟨_, rfl, Nat.le_of_ble_eq_true rfl, Nat.le_of_ble_eq_true rfl, Nat.le_of_ble_eq_true rfl, Or.inl (mm_tw6 140 rfl rfl)⟩
set_option maxRecDepth 100000 in
theorem mm_pf166 : mm_pfP (12, 151, 21, 34) := ⟨_, rfl, Nat.le_of_ble_eq_true rfl, Nat.le_of_ble_eq_true rfl, Nat.le_of_ble_eq_true rfl, Or.inl (mm_tw6 142 rfl rfl)⟩
set_option maxRecDepth 100000 in
theorem mm_pf167 : mm_pfP (12, 154, 21, 35) := ⟨_, rfl, Nat.le_of_ble_eq_true rfl, Nat.le_of_ble_eq_true rfl, Nat.le_of_ble_eq_true rfl, Or.inl (mm_tw6 143 rfl rfl)⟩
set_option maxRecDepth 100000 in
theorem mm_pf168 : mm_pfP (12, 157, 21, 38) := ⟨_, rfl, Nat.le_of_ble_eq_true rfl, Nat.le_of_ble_eq_true rfl, Nat.le_of_ble_eq_true rfl, Or.inl (mm_tw6 146 rfl rfl)⟩
set_option maxRecDepth 100000 in
theorem mm_pf169 : mm_pfP (12, 160, 21, 39) := ⟨_, rfl, Nat.le_of_ble_eq_true rfl, Nat.le_of_ble_eq_true rfl, Nat.le_of_ble_eq_true rfl, Or.inl (mm_tw6 147 rfl rfl)⟩
set_option maxRecDepth 100000 in
theorem mm_pf170 : mm_pfP (12, 163, 21, 42) := ⟨_, rfl, Nat.le_of_ble_eq_true rfl, Nat.le_of_ble_eq_true rfl, Nat.le_of_ble_eq_true rfl, Or.inl (mm_tw6 150 rfl rfl)⟩
set_option maxRecDepth 100000 in
theorem mm_pf171 : mm_pfP (12, 172, 21, 25) := ⟨_, rfl, Nat.le_of_ble_eq_true rfl, Nat.le_of_ble_eq_true rfl, Nat.le_of_ble_eq_true rfl, Or.inl (mm_tw6 133 rfl rfl)⟩
set_option maxRecDepth 100000 in
theorem mm_pf172 : mm_pfP (12, 243, 21, 24) := ⟨_, rfl, Nat.le_of_ble_eq_true rfl, Nat.le_of_ble_eq_true rfl, Nat.le_of_ble_eq_true rfl, Or.inl (mm_tw6 132 rfl rfl)⟩
set_option maxRecDepth 100000 in
theorem mm_pf173 : mm_pfP (12, 334, 21, 33) := ⟨_, rfl, Nat.le_of_ble_eq_true rfl, Nat.le_of_ble_eq_true rfl, Nat.le_of_ble_eq_true rfl, Or.inl (mm_tw6 141 rfl rfl)⟩
set_option maxRecDepth 100000 in
theorem mm_pf174 : mm_pfP (12, 345, 21, 36) := ⟨_, rfl, Nat.le_of_ble_eq_true rfl, Nat.le_of_ble_eq_true rfl, Nat.le_of_ble_eq_true rfl, Or.inl (mm_tw6 144 rfl rfl)⟩
set_option maxRecDepth 100000 in
theorem mm_pf175 : mm_pfP (12, 361, 21, 37) := ⟨_, rfl, Nat.le_of_ble_eq_true rfl, Nat.le_of_ble_eq_true rfl, Nat.le_of_ble_eq_true rfl, Or.inl (mm_tw6 145 rfl rfl)⟩
set_option maxRecDepth 100000 in
theorem mm_pf176 : mm_pfP (12, 377, 21, 40) := ⟨_, rfl, Nat.le_of_ble_eq_true rfl, Nat.le_of_ble_eq_true rfl, Nat.le_of_ble_eq_true rfl, Or.inl (mm_tw6 148 rfl rfl)⟩
set_option maxRecDepth 100000 in
theorem mm_pf177 : mm_pfP (12, 395, 21, 41) := ⟨_, rfl, Nat.le_of_ble_eq_true rfl, Nat.le_of_ble_eq_true rfl, Nat.le_of_ble_eq_true rfl, Or.inl (mm_tw6 149 rfl rfl)⟩
set_option maxRecDepth 100000 in
theorem mm_pf178 : mm_pfP (12, 402, 21, 43) := ⟨_, rfl, Nat.le_of_ble_eq_true rfl, Nat.le_of_ble_eq_true rfl, Nat.le_of_ble_eq_true rfl, Or.inl (mm_tw6 151 rfl rfl)⟩
set_option maxRecDepth 100000 in
theorem mm_pf179 : mm_pfP (12, 408, 21, 46) := ⟨_, rfl, Nat.le_of_ble_eq_true rfl, Nat.le_of_ble_eq_true rfl, Nat.le_of_ble_eq_true rfl, Or.inl (mm_tw6 154 rfl rfl)⟩
set_option maxRecDepth 100000 in
theorem mm_pf180 : mm_pfP (12, 418, 21, 44) := ⟨_, rfl, Nat.le_of_ble_eq_true rfl, Nat.le_of_ble_eq_true rfl, Nat.le_of_ble_eq_true rfl, Or.inl (mm_tw6 152 rfl rfl)⟩
set_option maxRecDepth 100000 in
theorem mm_pf181 : mm_pfP (12, 421, 21, 45) := ⟨_, rfl, Nat.le_of_ble_eq_true rfl, Nat.le_of_ble_eq_true rfl, Nat.le_of_ble_eq_true rfl, Or.inl (mm_tw6 153 rfl rfl)⟩
set_option maxRecDepth 100000 in
theorem mm_pf_ok : ∀ z ∈ mm_pf, mm_pfP z := (List.forall_mem_cons.mpr ⟨mm_pf0, (List.forall_mem_cons.mpr ⟨mm_pf1, (List.forall_mem_cons.mpr ⟨mm_pf2, (List.forall_mem_cons.mpr ⟨mm_pf3, (List.forall_mem_cons.mpr ⟨mm_pf4, (List.forall_mem_cons.mpr ⟨mm_pf5, (List.forall_mem_cons.mpr ⟨mm_pf6, (List.forall_mem_cons.mpr ⟨mm_pf7, (List.forall_mem_cons.mpr ⟨mm_pf8, (List.forall_mem_cons.mpr ⟨mm_pf9, (List.forall_mem_cons.mpr ⟨mm_pf10, (List.forall_mem_cons.mpr ⟨mm_pf11, (List.forall_mem_cons.mpr ⟨mm_pf12, (List.forall_mem_cons.mpr ⟨mm_pf13, (List.forall_mem_cons.mpr ⟨mm_pf14, (List.forall_mem_cons.mpr ⟨mm_pf15, (List.forall_mem_cons.mpr ⟨mm_pf16, (List.forall_mem_cons.mpr ⟨mm_pf17, (List.forall_mem_cons.mpr ⟨mm_pf18, (List.forall_mem_cons.mpr ⟨mm_pf19, (List.forall_mem_cons.mpr ⟨mm_pf20, (List.forall_mem_cons.mpr ⟨mm_pf21, (List.forall_mem_cons.mpr ⟨mm_pf22, (List.forall_mem_cons.mpr ⟨mm_pf23, (List.forall_mem_cons.mpr ⟨mm_pf24, (List.forall_mem_cons.mpr ⟨mm_pf25, (List.forall_mem_cons.mpr ⟨mm_pf26, (List.forall_mem_cons.mpr ⟨mm_pf27, (List.forall_mem_cons.mpr ⟨mm_pf28, (List.forall_mem_cons.mpr ⟨mm_pf29, (List.forall_mem_cons.mpr ⟨mm_pf30, (List.forall_mem_cons.mpr ⟨mm_pf31, (List.forall_mem_cons.mpr ⟨mm_pf32, (List.forall_mem_cons.mpr ⟨mm_pf33, (List.forall_mem_cons.mpr ⟨mm_pf34, (List.forall_mem_cons.mpr ⟨mm_pf35, (List.forall_mem_cons.mpr ⟨mm_pf36, (List.forall_mem_cons.mpr ⟨mm_pf37, (List.forall_mem_cons.mpr ⟨mm_pf38, (List.forall_mem_cons.mpr ⟨mm_pf39, (List.forall_mem_cons.mpr ⟨mm_pf40, (List.forall_mem_cons.mpr ⟨mm_pf41, (List.forall_mem_cons.mpr ⟨mm_pf42, (List.forall_mem_cons.mpr ⟨mm_pf43, (List.forall_mem_cons.mpr ⟨mm_pf44, (List.forall_mem_cons.mpr ⟨mm_pf45, (List.forall_mem_cons.mpr ⟨mm_pf46, (List.forall_mem_cons.mpr ⟨mm_pf47, (List.forall_mem_cons.mpr ⟨mm_pf48, (List.forall_mem_cons.mpr ⟨mm_pf49, (List.forall_mem_cons.mpr ⟨mm_pf50, (List.forall_mem_cons.mpr ⟨mm_pf51, (List.forall_mem_cons.mpr ⟨mm_pf52, (List.forall_mem_cons.mpr ⟨mm_pf53, (List.forall_mem_cons.mpr ⟨mm_pf54, (List.forall_mem_cons.mpr ⟨mm_pf55, (List.forall_mem_cons.mpr ⟨mm_pf56, (List.forall_mem_cons.mpr ⟨mm_pf57, (List.forall_mem_cons.mpr ⟨mm_pf58, (List.forall_mem_cons.mpr ⟨mm_pf59, (List.forall_mem_cons.mpr ⟨mm_pf60, (List.forall_mem_cons.mpr ⟨mm_pf61, (List.forall_mem_cons.mpr ⟨mm_pf62, (List.forall_mem_cons.mpr ⟨mm_pf63, (List.forall_mem_cons.mpr ⟨mm_pf64, (List.forall_mem_cons.mpr ⟨mm_pf65, (List.forall_mem_cons.mpr ⟨mm_pf66, (List.forall_mem_cons.mpr ⟨mm_pf67, (List.forall_mem_cons.mpr ⟨mm_pf68, (List.forall_mem_cons.mpr ⟨mm_pf69, (List.forall_mem_cons.mpr ⟨mm_pf70, (List.forall_mem_cons.mpr ⟨mm_pf71, (List.forall_mem_cons.mpr ⟨mm_pf72, (List.forall_mem_cons.mpr ⟨mm_pf73, (List.forall_mem_cons.mpr ⟨mm_pf74, (List.forall_mem_cons.mpr ⟨mm_pf75, (List.forall_mem_cons.mpr ⟨mm_pf76, (List.forall_mem_cons.mpr ⟨mm_pf77, (List.forall_mem_cons.mpr ⟨mm_pf78, (List.forall_mem_cons.mpr ⟨mm_pf79, (List.forall_mem_cons.mpr ⟨mm_pf80, (List.forall_mem_cons.mpr ⟨mm_pf81, (List.forall_mem_cons.mpr ⟨mm_pf82, (List.forall_mem_cons.mpr ⟨mm_pf83, (List.forall_mem_cons.mpr ⟨mm_pf84, (List.forall_mem_cons.mpr ⟨mm_pf85, (List.forall_mem_cons.mpr ⟨mm_pf86, (List.forall_mem_cons.mpr ⟨mm_pf87, (List.forall_mem_cons.mpr ⟨mm_pf88, (List.forall_mem_cons.mpr ⟨mm_pf89, (List.forall_mem_cons.mpr ⟨mm_pf90, (List.forall_mem_cons.mpr ⟨mm_pf91, (List.forall_mem_cons.mpr ⟨mm_pf92, (List.forall_mem_cons.mpr ⟨mm_pf93, (List.forall_mem_cons.mpr ⟨mm_pf94, (List.forall_mem_cons.mpr ⟨mm_pf95, (List.forall_mem_cons.mpr ⟨mm_pf96, (List.forall_mem_cons.mpr ⟨mm_pf97, (List.forall_mem_cons.mpr ⟨mm_pf98, (List.forall_mem_cons.mpr ⟨mm_pf99, (List.forall_mem_cons.mpr ⟨mm_pf100, (List.forall_mem_cons.mpr ⟨mm_pf101, (List.forall_mem_cons.mpr ⟨mm_pf102, (List.forall_mem_cons.mpr ⟨mm_pf103, (List.forall_mem_cons.mpr ⟨mm_pf104, (List.forall_mem_cons.mpr ⟨mm_pf105, (List.forall_mem_cons.mpr ⟨mm_pf106, (List.forall_mem_cons.mpr ⟨mm_pf107, (List.forall_mem_cons.mpr ⟨mm_pf108, (List.forall_mem_cons.mpr ⟨mm_pf109, (List.forall_mem_cons.mpr ⟨mm_pf110, (List.forall_mem_cons.mpr ⟨mm_pf111, (List.forall_mem_cons.mpr ⟨mm_pf112, (List.forall_mem_cons.mpr ⟨mm_pf113, (List.forall_mem_cons.mpr ⟨mm_pf114, (List.forall_mem_cons.mpr ⟨mm_pf115, (List.forall_mem_cons.mpr ⟨mm_pf116, (List.forall_mem_cons.mpr ⟨mm_pf117, (List.forall_mem_cons.mpr ⟨mm_pf118, (List.forall_mem_cons.mpr ⟨mm_pf119, (List.forall_mem_cons.mpr ⟨mm_pf120, (List.forall_mem_cons.mpr ⟨mm_pf121, (List.forall_mem_cons.mpr ⟨mm_pf122, (List.forall_mem_cons.mpr ⟨mm_pf123, (List.forall_mem_cons.mpr ⟨mm_pf124, (List.forall_mem_cons.mpr ⟨mm_pf125, (List.forall_mem_cons.mpr ⟨mm_pf126, (List.forall_mem_cons.mpr ⟨mm_pf127, (List.forall_mem_cons.mpr ⟨mm_pf128, (List.forall_mem_cons.mpr ⟨mm_pf129, (List.forall_mem_cons.mpr ⟨mm_pf130, (List.forall_mem_cons.mpr ⟨mm_pf131, (List.forall_mem_cons.mpr ⟨mm_pf132, (List.forall_mem_cons.mpr ⟨mm_pf133, (List.forall_mem_cons.mpr ⟨mm_pf134, (List.forall_mem_cons.mpr ⟨mm_pf135, (List.forall_mem_cons.mpr ⟨mm_pf136, (List.forall_mem_cons.mpr ⟨mm_pf137, (List.forall_mem_cons.mpr ⟨mm_pf138, (List.forall_mem_cons.mpr ⟨mm_pf139, (List.forall_mem_cons.mpr ⟨mm_pf140, (List.forall_mem_cons.mpr ⟨mm_pf141, (List.forall_mem_cons.mpr ⟨mm_pf142, (List.forall_mem_cons.mpr ⟨mm_pf143, (List.forall_mem_cons.mpr ⟨mm_pf144, (List.forall_mem_cons.mpr ⟨mm_pf145, (List.forall_mem_cons.mpr ⟨mm_pf146, (List.forall_mem_cons.mpr ⟨mm_pf147, (List.forall_mem_cons.mpr ⟨mm_pf148, (List.forall_mem_cons.mpr ⟨mm_pf149, (List.forall_mem_cons.mpr ⟨mm_pf150, (List.forall_mem_cons.mpr ⟨mm_pf151, (List.forall_mem_cons.mpr ⟨mm_pf152, (List.forall_mem_cons.mpr ⟨mm_pf153, (List.forall_mem_cons.mpr ⟨mm_pf154, (List.forall_mem_cons.mpr ⟨mm_pf155, (List.forall_mem_cons.mpr ⟨mm_pf156, (List.forall_mem_cons.mpr ⟨mm_pf157, (List.forall_mem_cons.mpr ⟨mm_pf158, (List.forall_mem_cons.mpr ⟨mm_pf159, (List.forall_mem_cons.mpr ⟨mm_pf160, (List.forall_mem_cons.mpr ⟨mm_pf161, (List.forall_mem_cons.mpr ⟨mm_pf162, (List.forall_mem_cons.mpr ⟨mm_pf163, (List.forall_mem_cons.mpr ⟨mm_pf164, (List.forall_mem_cons.mpr ⟨mm_pf165, (List.forall_mem_cons.mpr ⟨mm_pf166, (List.forall_mem_cons.mpr ⟨mm_pf167, (List.forall_mem_cons.mpr ⟨mm_pf168, (List.forall_mem_cons.mpr ⟨mm_pf169, (List.forall_mem_cons.mpr ⟨mm_pf170, (List.forall_mem_cons.mpr ⟨mm_pf171, (List.forall_mem_cons.mpr ⟨mm_pf172, (List.forall_mem_cons.mpr ⟨mm_pf173, (List.forall_mem_cons.mpr ⟨mm_pf174, (List.forall_mem_cons.mpr ⟨mm_pf175, (List.forall_mem_cons.mpr ⟨mm_pf176, (List.forall_mem_cons.mpr ⟨mm_pf177, (List.forall_mem_cons.mpr ⟨mm_pf178, (List.forall_mem_cons.mpr ⟨mm_pf179, (List.forall_mem_cons.mpr ⟨mm_pf180, (List.forall_mem_cons.mpr ⟨mm_pf181, (fun _ h => absurd h List.not_mem_nil)⟩)⟩)⟩)⟩)⟩)⟩)⟩)⟩)⟩)⟩)⟩)⟩)⟩)⟩)⟩)⟩)⟩)⟩)⟩)⟩)⟩)⟩)⟩)⟩)⟩)⟩)⟩)⟩)⟩)⟩)⟩)⟩)⟩)⟩)⟩)⟩)⟩)⟩)⟩)⟩)⟩)⟩)⟩)⟩)⟩)⟩)⟩)⟩)⟩)⟩)⟩)⟩)⟩)⟩)⟩)⟩)⟩)⟩)⟩)⟩)⟩)⟩)⟩)⟩)⟩)⟩)⟩)⟩)⟩)⟩)⟩)⟩)⟩)⟩)⟩)⟩)⟩)⟩)⟩)⟩)⟩)⟩)⟩)⟩)⟩)⟩)⟩)⟩)⟩)⟩)⟩)⟩)⟩)⟩)⟩)⟩)⟩)⟩)⟩)⟩)⟩)⟩)⟩)⟩)⟩)⟩)⟩)⟩)⟩)⟩)⟩)⟩)⟩)⟩)⟩)⟩)⟩)⟩)⟩)⟩)⟩)⟩)⟩)⟩)⟩)⟩)⟩)⟩)⟩)⟩)⟩)⟩)⟩)⟩)⟩)⟩)⟩)⟩)⟩)⟩)⟩)⟩)⟩)⟩)⟩)⟩)⟩)⟩)⟩)⟩)⟩)⟩)⟩)⟩)⟩)⟩)⟩)⟩)⟩)⟩)⟩)⟩)⟩)⟩)⟩)⟩)⟩)⟩)⟩)⟩)⟩)⟩)⟩)⟩)⟩)⟩)⟩)⟩)⟩)⟩)⟩)⟩)
def mm_pmP (z : Nat × Nat × Nat × Nat) : Prop := z.2.2.1 < 284 ∧ (z.2.2.2 < 2 → Cond.methodLink (mm_xn z.1) z.2.1 (mm_y z.2.2.1) ∈ mm_TW) ∧ (z.2.2.2 = 2 → ∃ host, Cond.methodLinkNest (mm_xn z.1) z.2.1 (mm_y z.2.2.1) host ∈ mm_NW) ∧ (z.2.2.2 = 0 → mm_sq z.2.2.1 = 0) ∧ (¬ z.2.2.2 = 0 → mm_sq z.2.2.1 = 1)
set_option maxRecDepth 100000 in
theorem mm_pm0 : mm_pmP (0, 33, 1, 0) := ⟨Nat.le_of_ble_eq_true rfl, fun _ => (mm_tw5 64 rfl rfl), fun h => absurd h (by decide), fun _ => rfl, fun h => absurd rfl h⟩
set_option maxRecDepth 100000 in
theorem mm_pm1 : mm_pmP (0, 40, 91, 0) := ⟨Nat.le_of_ble_eq_true rfl, fun _ => (mm_tw5 105 rfl rfl), fun h => absurd h (by decide), fun _ => rfl, fun h => absurd rfl h⟩
set_option maxRecDepth 100000 in
theorem mm_pm2 : mm_pmP (0, 51, 58, 0) := ⟨Nat.le_of_ble_eq_true rfl, fun _ => (mm_tw5 69 rfl rfl), fun h => absurd h (by decide), fun _ => rfl, fun h => absurd rfl h⟩
set_option maxRecDepth 100000 in
theorem mm_pm3 : mm_pmP (0, 57, 90, 0) := ⟨Nat.le_of_ble_eq_true rfl, fun _ => (mm_tw5 70 rfl rfl), fun h => absurd h (by decide), fun _ => rfl, fun h => absurd rfl h⟩
set_option maxRecDepth 100000 in
theorem mm_pm4 : mm_pmP (0, 61, 2, 1) := ⟨Nat.le_of_ble_eq_true rfl, fun _ => (mm_tw5 71 rfl rfl), fun h => absurd h (by decide), fun h => absurd h (by decide), fun _ => rfl⟩
set_option maxRecDepth 100000 in
theorem mm_pm5 : mm_pmP (0, 64, 84, 0) := ⟨Nat.le_of_ble_eq_true rfl, fun _ => (mm_tw5 84 rfl rfl), fun h => absurd h (by decide), fun _ => rfl, fun h => absurd rfl h⟩
set_option maxRecDepth 100000 in
theorem mm_pm6 : mm_pmP (0, 70, 4, 0) := ⟨Nat.le_of_ble_eq_true rfl, fun _ => (mm_tw5 85 rfl rfl), fun h => absurd h (by decide), fun _ => rfl, fun h => absurd rfl h⟩
set_option maxRecDepth 100000 in
theorem mm_pm7 : mm_pmP (0, 76, 92, 0) := ⟨Nat.le_of_ble_eq_true rfl, fun _ => (mm_tw5 96 rfl rfl), fun h => absurd h (by decide), fun _ => rfl, fun h => absurd rfl h⟩
set_option maxRecDepth 100000 in
theorem mm_pm8 : mm_pmP (0, 80, 6, 0) := ⟨Nat.le_of_ble_eq_true rfl, fun _ => (mm_tw5 91 rfl rfl), fun h => absurd h (by decide), fun _ => rfl, fun h => absurd rfl h⟩
set_option maxRecDepth 100000 in
theorem mm_pm9 : mm_pmP (0, 84, 5, 0) := ⟨Nat.le_of_ble_eq_true rfl, fun _ => (mm_tw5 97 rfl rfl), fun h => absurd h (by decide), fun _ => rfl, fun h => absurd rfl h⟩
set_option maxRecDepth 100000 in
theorem mm_pm10 : mm_pmP (0, 88, 3, 1) := ⟨Nat.le_of_ble_eq_true rfl, fun _ => (mm_tw5 106 rfl rfl), fun h => absurd h (by decide), fun h => absurd h (by decide), fun _ => rfl⟩
set_option maxRecDepth 100000 in
theorem mm_pm11 : mm_pmP (0, 104, 93, 0) := ⟨Nat.le_of_ble_eq_true rfl, fun _ => (mm_tw5 95 rfl rfl), fun h => absurd h (by decide), fun _ => rfl, fun h => absurd rfl h⟩
set_option maxRecDepth 100000 in
theorem mm_pm12 : mm_pmP (0, 124, 26, 0) := ⟨Nat.le_of_ble_eq_true rfl, fun _ => (mm_tw5 114 rfl rfl), fun h => absurd h (by decide), fun _ => rfl, fun h => absurd rfl h⟩
set_option maxRecDepth 100000 in
theorem mm_pm13 : mm_pmP (0, 136, 20, 0) := ⟨Nat.le_of_ble_eq_true rfl, fun _ => (mm_tw5 115 rfl rfl), fun h => absurd h (by decide), fun _ => rfl, fun h => absurd rfl h⟩
set_option maxRecDepth 100000 in
theorem mm_pm14 : mm_pmP (1, 25, 10, 1) := ⟨Nat.le_of_ble_eq_true rfl, fun _ => (mm_tw4 83 rfl rfl), fun h => absurd h (by decide), fun h => absurd h (by decide), fun _ => rfl⟩
set_option maxRecDepth 100000 in
theorem mm_pm15 : mm_pmP (1, 29, 11, 1) := ⟨Nat.le_of_ble_eq_true rfl, fun _ => (mm_tw4 88 rfl rfl), fun h => absurd h (by decide), fun h => absurd h (by decide), fun _ => rfl⟩
set_option maxRecDepth 100000 in
theorem mm_pm16 : mm_pmP (1, 33, 12, 0) := ⟨Nat.le_of_ble_eq_true rfl, fun _ => (mm_tw4 92 rfl rfl), fun h => absurd h (by decide), fun _ => rfl, fun h => absurd rfl h⟩
set_option maxRecDepth 100000 in
theorem mm_pm17 : mm_pmP (1, 36, 13, 0) := ⟨Nat.le_of_ble_eq_true rfl, fun _ => (mm_tw4 96 rfl rfl), fun h => absurd h (by decide), fun _ => rfl, fun h => absurd rfl h⟩
set_option maxRecDepth 100000 in
theorem mm_pm18 : mm_pmP (1, 45, 82, 0) := ⟨Nat.le_of_ble_eq_true rfl, fun _ => (mm_tw4 86 rfl rfl), fun h => absurd h (by decide), fun _ => rfl, fun h => absurd rfl h⟩
set_option maxRecDepth 100000 in
theorem mm_pm19 : mm_pmP (1, 49, 51, 0) := ⟨Nat.le_of_ble_eq_true rfl, fun _ => (mm_tw4 87 rfl rfl), fun h => absurd h (by decide), fun _ => rfl, fun h => absurd rfl h⟩
set_option maxRecDepth 100000 in
theorem mm_pm20 : mm_pmP (1, 59, 153, 2) := ⟨Nat.le_of_ble_eq_true rfl, fun h => absurd h (by decide), fun _ => ⟨"HiccupTown", (mm_tn4 91 rfl rfl)⟩, fun h => absurd h (by decide), fun _ => rfl⟩
set_option maxRecDepth 100000 in
theorem mm_pm21 : mm_pmP (1, 66, 14, 0) := ⟨Nat.le_of_ble_eq_true rfl, fun _ => (mm_tw4 100 rfl rfl), fun h => absurd h (by decide), fun _ => rfl, fun h => absurd rfl h⟩
set_option maxRecDepth 100000 in
theorem mm_pm22 : mm_pmP (2, 33, 55, 0) := ⟨Nat.le_of_ble_eq_true rfl, fun _ => (mm_tw3 114 rfl rfl), fun h => absurd h (by decide), fun _ => rfl, fun h => absurd rfl h⟩
set_option maxRecDepth 100000 in
theorem mm_pm23 : mm_pmP (2, 65, 20, 0) := ⟨Nat.le_of_ble_eq_true rfl, fun _ => (mm_tw3 154 rfl rfl), fun h => absurd h (by decide), fun _ => rfl, fun h => absurd rfl h⟩
set_option maxRecDepth 100000 in
theorem mm_pm24 : mm_pmP (2, 72, 18, 0) := ⟨Nat.le_of_ble_eq_true rfl, fun _ => (mm_tw3 146 rfl rfl), fun h => absurd h (by decide), fun _ => rfl, fun h => absurd rfl h⟩
set_option maxRecDepth 100000 in
theorem mm_pm25 : mm_pmP (2, 76, 21, 0) := ⟨Nat.le_of_ble_eq_true rfl, fun _ => (mm_tw3 150 rfl rfl), fun h => absurd h (by decide), fun _ => rfl, fun h => absurd rfl h⟩
set_option maxRecDepth 100000 in
theorem mm_pm26 : mm_pmP (2, 79, 152, 2) := ⟨Nat.le_of_ble_eq_true rfl, fun h => absurd h (by decide), fun _ => ⟨"HiccupTown", (mm_tn3 158 rfl rfl)⟩, fun h => absurd h (by decide), fun _ => rfl⟩
set_option maxRecDepth 100000 in
theorem mm_pm27 : mm_pmP (2, 83, 17, 0) := ⟨Nat.le_of_ble_eq_true rfl, fun _ => (mm_tw3 210 rfl rfl), fun h => absurd h (by decide), fun _ => rfl, fun h => absurd rfl h⟩
set_option maxRecDepth 100000 in
theorem mm_pm28 : mm_pmP (2, 92, 60, 0) := ⟨Nat.le_of_ble_eq_true rfl, fun _ => (mm_tw3 238 rfl rfl), fun h => absurd h (by decide), fun _ => rfl, fun h => absurd rfl h⟩
set_option maxRecDepth 100000 in
theorem mm_pm29 : mm_pmP (2, 96, 27, 0) := ⟨Nat.le_of_ble_eq_true rfl, fun _ => (mm_tw3 187 rfl rfl), fun h => absurd h (by decide), fun _ => rfl, fun h => absurd rfl h⟩
set_option maxRecDepth 100000 in
theorem mm_pm30 : mm_pmP (2, 99, 28, 0) := ⟨Nat.le_of_ble_eq_true rfl, fun _ => (mm_tw3 194 rfl rfl), fun h => absurd h (by decide), fun _ => rfl, fun h => absurd rfl h⟩
set_option maxRecDepth 100000 in
theorem mm_pm31 : mm_pmP (2, 103, 29, 0) := ⟨Nat.le_of_ble_eq_true rfl, fun _ => (mm_tw3 198 rfl rfl), fun h => absurd h (by decide), fun _ => rfl, fun h => absurd rfl h⟩
set_option maxRecDepth 100000 in
theorem mm_pm32 : mm_pmP (2, 106, 30, 0) := ⟨Nat.le_of_ble_eq_true rfl, fun _ => (mm_tw3 202 rfl rfl), fun h => absurd h (by decide), fun _ => rfl, fun h => absurd rfl h⟩
set_option maxRecDepth 100000 in
theorem mm_pm33 : mm_pmP (2, 110, 31, 0) := ⟨Nat.le_of_ble_eq_true rfl, fun _ => (mm_tw3 206 rfl rfl), fun h => absurd h (by decide), fun _ => rfl, fun h => absurd rfl h⟩
set_option maxRecDepth 100000 in
theorem mm_pm34 : mm_pmP (2, 113, 32, 0) := ⟨Nat.le_of_ble_eq_true rfl, fun _ => (mm_tw3 214 rfl rfl), fun h => absurd h (by decide), fun _ => rfl, fun h => absurd rfl h⟩
set_option maxRecDepth 100000 in
theorem mm_pm35 : mm_pmP (2, 116, 33, 0) := ⟨Nat.le_of_ble_eq_true rfl, fun _ => (mm_tw3 222 rfl rfl), fun h => absurd h (by decide), fun _ => rfl, fun h => absurd rfl h⟩
set_option maxRecDepth 100000 in
theorem mm_pm36 : mm_pmP (2, 124, 25, 0) := ⟨Nat.le_of_ble_eq_true rfl, fun _ => (mm_tw3 218 rfl rfl), fun h => absurd h (by decide), fun _ => rfl, fun h => absurd rfl h⟩
set_option maxRecDepth 100000 in
theorem mm_pm37 : mm_pmP (2, 128, 19, 0) := ⟨Nat.le_of_ble_eq_true rfl, fun _ => (mm_tw3 226 rfl rfl), fun h => absurd h (by decide), fun _ => rfl, fun h => absurd rfl h⟩
set_option maxRecDepth 100000 in
theorem mm_pm38 : mm_pmP (2, 131, 34, 0) := ⟨Nat.le_of_ble_eq_true rfl, fun _ => (mm_tw3 230 rfl rfl), fun h => absurd h (by decide), fun _ => rfl, fun h => absurd rfl h⟩
set_option maxRecDepth 100000 in
theorem mm_pm39 : mm_pmP (2, 135, 35, 0) := ⟨Nat.le_of_ble_eq_true rfl, fun _ => (mm_tw3 234 rfl rfl), fun h => absurd h (by decide), fun _ => rfl, fun h => absurd rfl h⟩
set_option maxRecDepth 100000 in
theorem mm_pm40 : mm_pmP (2, 138, 39, 0) := ⟨Nat.le_of_ble_eq_true rfl, fun _ => (mm_tw5 35 rfl rfl), fun h => absurd h (by decide), fun _ => rfl, fun h => absurd rfl h⟩
set_option maxRecDepth 100000 in
theorem mm_pm41 : mm_pmP (2, 141, 41, 1) := ⟨Nat.le_of_ble_eq_true rfl, fun _ => (mm_tw5 39 rfl rfl), fun h => absurd h (by decide), fun h => absurd h (by decide), fun _ => rfl⟩
set_option maxRecDepth 100000 in
theorem mm_pm42 : mm_pmP (2, 144, 42, 1) := ⟨Nat.le_of_ble_eq_true rfl, fun _ => (mm_tw5 43 rfl rfl), fun h => absurd h (by decide), fun h => absurd h (by decide), fun _ => rfl⟩
set_option maxRecDepth 100000 in
theorem mm_pm43 : mm_pmP (2, 147, 40, 0) := ⟨Nat.le_of_ble_eq_true rfl, fun _ => (mm_tw5 47 rfl rfl), fun h => absurd h (by decide), fun _ => rfl, fun h => absurd rfl h⟩
set_option maxRecDepth 100000 in
theorem mm_pm44 : mm_pmP (2, 152, 153, 2) := ⟨Nat.le_of_ble_eq_true rfl, fun h => absurd h (by decide), fun _ => ⟨"HiccupTown", (mm_tn5 46 rfl rfl)⟩, fun h => absurd h (by decide), fun _ => rfl⟩
set_option maxRecDepth 100000 in
theorem mm_pm45 : mm_pmP (2, 155, 44, 0) := ⟨Nat.le_of_ble_eq_true rfl, fun _ => (mm_tw4 170 rfl rfl), fun h => absurd h (by decide), fun _ => rfl, fun h => absurd rfl h⟩
set_option maxRecDepth 100000 in
theorem mm_pm46 : mm_pmP (2, 159, 45, 0) := ⟨Nat.le_of_ble_eq_true rfl, fun _ => (mm_tw4 174 rfl rfl), fun h => absurd h (by decide), fun _ => rfl, fun h => absurd rfl h⟩
set_option maxRecDepth 100000 in
theorem mm_pm47 : mm_pmP (2, 163, 24, 0) := ⟨Nat.le_of_ble_eq_true rfl, fun _ => (mm_tw4 178 rfl rfl), fun h => absurd h (by decide), fun _ => rfl, fun h => absurd rfl h⟩
set_option maxRecDepth 100000 in
theorem mm_pm48 : mm_pmP (3, 25, 16, 0) := ⟨Nat.le_of_ble_eq_true rfl, fun _ => (mm_tw4 13 rfl rfl), fun h => absurd h (by decide), fun _ => rfl, fun h => absurd rfl h⟩
set_option maxRecDepth 100000 in
theorem mm_pm49 : mm_pmP (4, 56, 54, 0) := ⟨Nat.le_of_ble_eq_true rfl, fun _ => (mm_tw3 118 rfl rfl), fun h => absurd h (by decide), fun _ => rfl, fun h => absurd rfl h⟩
set_option maxRecDepth 100000 in
theorem mm_pm50 : mm_pmP (4, 60, 51, 0) := ⟨Nat.le_of_ble_eq_true rfl, fun _ => (mm_tw4 194 rfl rfl), fun h => absurd h (by decide), fun _ => rfl, fun h => absurd rfl h⟩
set_option maxRecDepth 100000 in
theorem mm_pm51 : mm_pmP (4, 64, 58, 0) := ⟨Nat.le_of_ble_eq_true rfl, fun _ => (mm_tw3 46 rfl rfl), fun h => absurd h (by decide), fun _ => rfl, fun h => absurd rfl h⟩
set_option maxRecDepth 100000 in
theorem mm_pm52 : mm_pmP (4, 68, 153, 2) := ⟨Nat.le_of_ble_eq_true rfl, fun h => absurd h (by decide), fun _ => ⟨"HiccupTown", (mm_tn4 2 rfl rfl)⟩, fun h => absurd h (by decide), fun _ => rfl⟩
set_option maxRecDepth 100000 in
theorem mm_pm53 : mm_pmP (5, 18, 62, 0) := ⟨Nat.le_of_ble_eq_true rfl, fun _ => (mm_tw4 127 rfl rfl), fun h => absurd h (by decide), fun _ => rfl, fun h => absurd rfl h⟩
set_option maxRecDepth 100000 in
theorem mm_pm54 : mm_pmP (5, 22, 63, 0) := ⟨Nat.le_of_ble_eq_true rfl, fun _ => (mm_tw4 135 rfl rfl), fun h => absurd h (by decide), fun _ => rfl, fun h => absurd rfl h⟩
set_option maxRecDepth 100000 in
theorem mm_pm55 : mm_pmP (5, 26, 53, 0) := ⟨Nat.le_of_ble_eq_true rfl, fun _ => (mm_tw4 131 rfl rfl), fun h => absurd h (by decide), fun _ => rfl, fun h => absurd rfl h⟩
set_option maxRecDepth 100000 in
theorem mm_pm56 : mm_pmP (5, 35, 64, 0) := ⟨Nat.le_of_ble_eq_true rfl, fun _ => (mm_tw4 139 rfl rfl), fun h => absurd h (by decide), fun _ => rfl, fun h => absurd rfl h⟩
set_option maxRecDepth 100000 in
theorem mm_pm57 : mm_pmP (6, 30, 50, 0) := ⟨Nat.le_of_ble_eq_true rfl, fun _ => (mm_tw3 103 rfl rfl), fun h => absurd h (by decide), fun _ => rfl, fun h => absurd rfl h⟩
set_option maxRecDepth 100000 in
theorem mm_pm58 : mm_pmP (6, 34, 15, 0) := ⟨Nat.le_of_ble_eq_true rfl, fun _ => (mm_tw3 110 rfl rfl), fun h => absurd h (by decide), fun _ => rfl, fun h => absurd rfl h⟩
set_option maxRecDepth 100000 in
theorem mm_pm59 : mm_pmP (6, 37, 67, 0) := ⟨Nat.le_of_ble_eq_true rfl, fun _ => (mm_tw3 122 rfl rfl), fun h => absurd h (by decide), fun _ => rfl, fun h => absurd rfl h⟩
set_option maxRecDepth 100000 in
theorem mm_pm60 : mm_pmP (6, 40, 16, 0) := ⟨Nat.le_of_ble_eq_true rfl, fun _ => (mm_tw5 233 rfl rfl), fun h => absurd h (by decide), fun _ => rfl, fun h => absurd rfl h⟩
set_option maxRecDepth 100000 in
theorem mm_pm61 : mm_pmP (6, 43, 69, 0) := ⟨Nat.le_of_ble_eq_true rfl, fun _ => (mm_tw5 234 rfl rfl), fun h => absurd h (by decide), fun _ => rfl, fun h => absurd rfl h⟩
set_option maxRecDepth 100000 in
theorem mm_pm62 : mm_pmP (7, 31, 67, 0) := ⟨Nat.le_of_ble_eq_true rfl, fun _ => (mm_tw5 132 rfl rfl), fun h => absurd h (by decide), fun _ => rfl, fun h => absurd rfl h⟩
set_option maxRecDepth 100000 in
theorem mm_pm63 : mm_pmP (7, 34, 71, 0) := ⟨Nat.le_of_ble_eq_true rfl, fun _ => (mm_tw5 133 rfl rfl), fun h => absurd h (by decide), fun _ => rfl, fun h => absurd rfl h⟩
set_option maxRecDepth 100000 in
theorem mm_pm64 : mm_pmP (7, 42, 91, 0) := ⟨Nat.le_of_ble_eq_true rfl, fun _ => (mm_tw5 175 rfl rfl), fun h => absurd h (by decide), fun _ => rfl, fun h => absurd rfl h⟩
set_option maxRecDepth 100000 in
theorem mm_pm65 : mm_pmP (7, 48, 72, 0) := ⟨Nat.le_of_ble_eq_true rfl, fun _ => (mm_tw5 137 rfl rfl), fun h => absurd h (by decide), fun _ => rfl, fun h => absurd rfl h⟩
set_option maxRecDepth 100000 in
theorem mm_pm66 : mm_pmP (7, 57, 84, 0) := ⟨Nat.le_of_ble_eq_true rfl, fun _ => (mm_tw5 168 rfl rfl), fun h => absurd h (by decide), fun _ => rfl, fun h => absurd rfl h⟩
set_option maxRecDepth 100000 in
theorem mm_pm67 : mm_pmP (7, 60, 76, 0) := ⟨Nat.le_of_ble_eq_true rfl, fun _ => (mm_tw5 169 rfl rfl), fun h => absurd h (by decide), fun _ => rfl, fun h => absurd rfl h⟩
set_option maxRecDepth 100000 in
theorem mm_pm68 : mm_pmP (7, 64, 73, 0) := ⟨Nat.le_of_ble_eq_true rfl, fun _ => (mm_tw5 141 rfl rfl), fun h => absurd h (by decide), fun _ => rfl, fun h => absurd rfl h⟩
set_option maxRecDepth 100000 in
theorem mm_pm69 : mm_pmP (7, 70, 74, 1) := ⟨Nat.le_of_ble_eq_true rfl, fun _ => (mm_tw5 145 rfl rfl), fun h => absurd h (by decide), fun h => absurd h (by decide), fun _ => rfl⟩
set_option maxRecDepth 100000 in
theorem mm_pm70 : mm_pmP (7, 73, 90, 0) := ⟨Nat.le_of_ble_eq_true rfl, fun _ => (mm_tw5 167 rfl rfl), fun h => absurd h (by decide), fun _ => rfl, fun h => absurd rfl h⟩
set_option maxRecDepth 100000 in
theorem mm_pm71 : mm_pmP (7, 98, 93, 0) := ⟨Nat.le_of_ble_eq_true rfl, fun _ => (mm_tw5 176 rfl rfl), fun h => absurd h (by decide), fun _ => rfl, fun h => absurd rfl h⟩
set_option maxRecDepth 100000 in
theorem mm_pm72 : mm_pmP (7, 102, 75, 0) := ⟨Nat.le_of_ble_eq_true rfl, fun _ => (mm_tw5 177 rfl rfl), fun h => absurd h (by decide), fun _ => rfl, fun h => absurd rfl h⟩
set_option maxRecDepth 100000 in
theorem mm_pm73 : mm_pmP (7, 127, 92, 0) := ⟨Nat.le_of_ble_eq_true rfl, fun _ => (mm_tw5 187 rfl rfl), fun h => absurd h (by decide), fun _ => rfl, fun h => absurd rfl h⟩
set_option maxRecDepth 100000 in
theorem mm_pm74 : mm_pmP (7, 131, 78, 0) := ⟨Nat.le_of_ble_eq_true rfl, fun _ => (mm_tw5 209 rfl rfl), fun h => absurd h (by decide), fun _ => rfl, fun h => absurd rfl h⟩
set_option maxRecDepth 100000 in
theorem mm_pm75 : mm_pmP (7, 135, 17, 0) := ⟨Nat.le_of_ble_eq_true rfl, fun _ => (mm_tw5 213 rfl rfl), fun h => absurd h (by decide), fun _ => rfl, fun h => absurd rfl h⟩
set_option maxRecDepth 100000 in
theorem mm_pm76 : mm_pmP (7, 140, 23, 0) := ⟨Nat.le_of_ble_eq_true rfl, fun _ => (mm_tw5 214 rfl rfl), fun h => absurd h (by decide), fun _ => rfl, fun h => absurd rfl h⟩
set_option maxRecDepth 100000 in
theorem mm_pm77 : mm_pmP (7, 144, 51, 0) := ⟨Nat.le_of_ble_eq_true rfl, fun _ => (mm_tw5 218 rfl rfl), fun h => absurd h (by decide), fun _ => rfl, fun h => absurd rfl h⟩
set_option maxRecDepth 100000 in
theorem mm_pm78 : mm_pmP (7, 156, 79, 1) := ⟨Nat.le_of_ble_eq_true rfl, fun _ => (mm_tw5 219 rfl rfl), fun h => absurd h (by decide), fun h => absurd h (by decide), fun _ => rfl⟩
set_option maxRecDepth 100000 in
theorem mm_pm79 : mm_pmP (7, 160, 80, 1) := ⟨Nat.le_of_ble_eq_true rfl, fun _ => (mm_tw5 222 rfl rfl), fun h => absurd h (by decide), fun h => absurd h (by decide), fun _ => rfl⟩
set_option maxRecDepth 100000 in
theorem mm_pm80 : mm_pmP (8, 40, 84, 0) := ⟨Nat.le_of_ble_eq_true rfl, fun _ => (mm_tw2 191 rfl rfl), fun h => absurd h (by decide), fun _ => rfl, fun h => absurd rfl h⟩
set_option maxRecDepth 100000 in
theorem mm_pm81 : mm_pmP (8, 43, 85, 0) := ⟨Nat.le_of_ble_eq_true rfl, fun _ => (mm_tw2 195 rfl rfl), fun h => absurd h (by decide), fun _ => rfl, fun h => absurd rfl h⟩
set_option maxRecDepth 100000 in
theorem mm_pm82 : mm_pmP (8, 59, 86, 0) := ⟨Nat.le_of_ble_eq_true rfl, fun _ => (mm_tw2 201 rfl rfl), fun h => absurd h (by decide), fun _ => rfl, fun h => absurd rfl h⟩
set_option maxRecDepth 100000 in
theorem mm_pm83 : mm_pmP (8, 62, 104, 1) := ⟨Nat.le_of_ble_eq_true rfl, fun _ => (mm_tw2 221 rfl rfl), fun h => absurd h (by decide), fun h => absurd h (by decide), fun _ => rfl⟩
set_option maxRecDepth 100000 in
theorem mm_pm84 : mm_pmP (8, 66, 82, 0) := ⟨Nat.le_of_ble_eq_true rfl, fun _ => (mm_tw2 205 rfl rfl), fun h => absurd h (by decide), fun _ => rfl, fun h => absurd rfl h⟩
set_option maxRecDepth 100000 in
theorem mm_pm85 : mm_pmP (8, 70, 87, 0) := ⟨Nat.le_of_ble_eq_true rfl, fun _ => (mm_tw2 209 rfl rfl), fun h => absurd h (by decide), fun _ => rfl, fun h => absurd rfl h⟩
set_option maxRecDepth 100000 in
theorem mm_pm86 : mm_pmP (8, 76, 88, 0) := ⟨Nat.le_of_ble_eq_true rfl, fun _ => (mm_tw2 215 rfl rfl), fun h => absurd h (by decide), fun _ => rfl, fun h => absurd rfl h⟩
set_option maxRecDepth 100000 in
theorem mm_pm87 : mm_pmP (8, 82, 89, 0) := ⟨Nat.le_of_ble_eq_true rfl, fun _ => (mm_tw3 9 rfl rfl), fun h => absurd h (by decide), fun _ => rfl, fun h => absurd rfl h⟩
set_option maxRecDepth 100000 in
theorem mm_pm88 : mm_pmP (8, 86, 90, 0) := ⟨Nat.le_of_ble_eq_true rfl, fun _ => (mm_tw3 18 rfl rfl), fun h => absurd h (by decide), fun _ => rfl, fun h => absurd rfl h⟩
set_option maxRecDepth 100000 in
theorem mm_pm89 : mm_pmP (8, 90, 58, 0) := ⟨Nat.le_of_ble_eq_true rfl, fun _ => (mm_tw3 78 rfl rfl), fun h => absurd h (by decide), fun _ => rfl, fun h => absurd rfl h⟩
set_option maxRecDepth 100000 in
theorem mm_pm90 : mm_pmP (9, 18, 49, 0) := ⟨Nat.le_of_ble_eq_true rfl, fun _ => (mm_tw2 230 rfl rfl), fun h => absurd h (by decide), fun _ => rfl, fun h => absurd rfl h⟩
set_option maxRecDepth 100000 in
theorem mm_pm91 : mm_pmP (9, 39, 95, 0) := ⟨Nat.le_of_ble_eq_true rfl, fun _ => (mm_tw2 235 rfl rfl), fun h => absurd h (by decide), fun _ => rfl, fun h => absurd rfl h⟩
set_option maxRecDepth 100000 in
theorem mm_pm92 : mm_pmP (9, 46, 91, 0) := ⟨Nat.le_of_ble_eq_true rfl, fun _ => (mm_tw3 91 rfl rfl), fun h => absurd h (by decide), fun _ => rfl, fun h => absurd rfl h⟩
set_option maxRecDepth 100000 in
theorem mm_pm93 : mm_pmP (9, 53, 96, 0) := ⟨Nat.le_of_ble_eq_true rfl, fun _ => (mm_tw3 1 rfl rfl), fun h => absurd h (by decide), fun _ => rfl, fun h => absurd rfl h⟩
set_option maxRecDepth 100000 in
theorem mm_pm94 : mm_pmP (9, 59, 97, 0) := ⟨Nat.le_of_ble_eq_true rfl, fun _ => (mm_tw3 21 rfl rfl), fun h => absurd h (by decide), fun _ => rfl, fun h => absurd rfl h⟩
set_option maxRecDepth 100000 in
theorem mm_pm95 : mm_pmP (9, 65, 99, 0) := ⟨Nat.le_of_ble_eq_true rfl, fun _ => (mm_tw3 27 rfl rfl), fun h => absurd h (by decide), fun _ => rfl, fun h => absurd rfl h⟩
set_option maxRecDepth 100000 in
theorem mm_pm96 : mm_pmP (9, 71, 100, 0) := ⟨Nat.le_of_ble_eq_true rfl, fun _ => (mm_tw3 56 rfl rfl), fun h => absurd h (by decide), fun _ => rfl, fun h => absurd rfl h⟩
set_option maxRecDepth 100000 in
theorem mm_pm97 : mm_pmP (9, 77, 101, 0) := ⟨Nat.le_of_ble_eq_true rfl, fun _ => (mm_tw3 64 rfl rfl), fun h => absurd h (by decide), fun _ => rfl, fun h => absurd rfl h⟩
set_option maxRecDepth 100000 in
theorem mm_pm98 : mm_pmP (9, 83, 102, 0) := ⟨Nat.le_of_ble_eq_true rfl, fun _ => (mm_tw3 70 rfl rfl), fun h => absurd h (by decide), fun _ => rfl, fun h => absurd rfl h⟩
set_option maxRecDepth 100000 in
theorem mm_pm99 : mm_pmP (9, 89, 103, 0) := ⟨Nat.le_of_ble_eq_true rfl, fun _ => (mm_tw3 85 rfl rfl), fun h => absurd h (by decide), fun _ => rfl, fun h => absurd rfl h⟩
set_option maxRecDepth 100000 in
theorem mm_pm100 : mm_pmP (9, 92, 90, 0) := ⟨Nat.le_of_ble_eq_true rfl, fun _ => (mm_tw3 5 rfl rfl), fun h => absurd h (by decide), fun _ => rfl, fun h => absurd rfl h⟩
set_option maxRecDepth 100000 in
theorem mm_pm101 : mm_pmP (9, 100, 84, 0) := ⟨Nat.le_of_ble_eq_true rfl, fun _ => (mm_tw3 13 rfl rfl), fun h => absurd h (by decide), fun _ => rfl, fun h => absurd rfl h⟩
set_option maxRecDepth 100000 in
theorem mm_pm102 : mm_pmP (9, 103, 92, 0) := ⟨Nat.le_of_ble_eq_true rfl, fun _ => (mm_tw3 14 rfl rfl), fun h => absurd h (by decide), fun _ => rfl, fun h => absurd rfl h⟩
set_option maxRecDepth 100000 in
theorem mm_pm103 : mm_pmP (9, 114, 52, 0) := ⟨Nat.le_of_ble_eq_true rfl, fun _ => (mm_tw3 35 rfl rfl), fun h => absurd h (by decide), fun _ => rfl, fun h => absurd rfl h⟩
set_option maxRecDepth 100000 in
theorem mm_pm104 : mm_pmP (9, 124, 59, 0) := ⟨Nat.le_of_ble_eq_true rfl, fun _ => (mm_tw3 42 rfl rfl), fun h => absurd h (by decide), fun _ => rfl, fun h => absurd rfl h⟩
set_option maxRecDepth 100000 in
theorem mm_pm105 : mm_pmP (9, 128, 56, 0) := ⟨Nat.le_of_ble_eq_true rfl, fun _ => (mm_tw3 50 rfl rfl), fun h => absurd h (by decide), fun _ => rfl, fun h => absurd rfl h⟩
set_option maxRecDepth 100000 in
theorem mm_pm106 : mm_pmP (9, 132, 98, 0) := ⟨Nat.le_of_ble_eq_true rfl, fun _ => (mm_tw3 31 rfl rfl), fun h => absurd h (by decide), fun _ => rfl, fun h => absurd rfl h⟩
set_option maxRecDepth 100000 in
theorem mm_pm107 : mm_pmP (9, 157, 93, 0) := ⟨Nat.le_of_ble_eq_true rfl, fun _ => (mm_tw3 74 rfl rfl), fun h => absurd h (by decide), fun _ => rfl, fun h => absurd rfl h⟩
set_option maxRecDepth 100000 in
theorem mm_pm108 : mm_pmP (9, 164, 152, 2) := ⟨Nat.le_of_ble_eq_true rfl, fun h => absurd h (by decide), fun _ => ⟨"HiccupTown", (mm_tn3 79 rfl rfl)⟩, fun h => absurd h (by decide), fun _ => rfl⟩
set_option maxRecDepth 100000 in
theorem mm_pm109 : mm_pmP (9, 168, 89, 0) := ⟨Nat.le_of_ble_eq_true rfl, fun _ => (mm_tw3 82 rfl rfl), fun h => absurd h (by decide), fun _ => rfl, fun h => absurd rfl h⟩
set_option maxRecDepth 100000 in
theorem mm_pm110 : mm_pmP (11, 90, 81, 0) := ⟨Nat.le_of_ble_eq_true rfl, fun _ => (mm_tw2 175 rfl rfl), fun h => absurd h (by decide), fun _ => rfl, fun h => absurd rfl h⟩
set_option maxRecDepth 100000 in
theorem mm_pm111 : mm_pmP (11, 94, 83, 0) := ⟨Nat.le_of_ble_eq_true rfl, fun _ => (mm_tw2 187 rfl rfl), fun h => absurd h (by decide), fun _ => rfl, fun h => absurd rfl h⟩
set_option maxRecDepth 100000 in
theorem mm_pm112 : mm_pmP (11, 97, 94, 0) := ⟨Nat.le_of_ble_eq_true rfl, fun _ => (mm_tw2 226 rfl rfl), fun h => absurd h (by decide), fun _ => rfl, fun h => absurd rfl h⟩
set_option maxRecDepth 100000 in
theorem mm_pm113 : mm_pmP (11, 101, 145, 0) := ⟨Nat.le_of_ble_eq_true rfl, fun _ => (mm_tw3 95 rfl rfl), fun h => absurd h (by decide), fun _ => rfl, fun h => absurd rfl h⟩
set_option maxRecDepth 100000 in
theorem mm_pm114 : mm_pmP (11, 112, 65, 0) := ⟨Nat.le_of_ble_eq_true rfl, fun _ => (mm_tw3 99 rfl rfl), fun h => absurd h (by decide), fun _ => rfl, fun h => absurd rfl h⟩
set_option maxRecDepth 100000 in
theorem mm_pm115 : mm_pmP (11, 116, 46, 0) := ⟨Nat.le_of_ble_eq_true rfl, fun _ => (mm_tw3 126 rfl rfl), fun h => absurd h (by decide), fun _ => rfl, fun h => absurd rfl h⟩
set_option maxRecDepth 100000 in
theorem mm_pm116 : mm_pmP (11, 123, 51, 0) := ⟨Nat.le_of_ble_eq_true rfl, fun _ => (mm_tw3 138 rfl rfl), fun h => absurd h (by decide), fun _ => rfl, fun h => absurd rfl h⟩
set_option maxRecDepth 100000 in
theorem mm_pm117 : mm_pmP (11, 146, 17, 0) := ⟨Nat.le_of_ble_eq_true rfl, fun _ => (mm_tw4 157 rfl rfl), fun h => absurd h (by decide), fun _ => rfl, fun h => absurd rfl h⟩
set_option maxRecDepth 100000 in
theorem mm_pm118 : mm_pmP (11, 168, 22, 0) := ⟨Nat.le_of_ble_eq_true rfl, fun _ => (mm_tw3 142 rfl rfl), fun h => absurd h (by decide), fun _ => rfl, fun h => absurd rfl h⟩
set_option maxRecDepth 100000 in
theorem mm_pm119 : mm_pmP (11, 175, 55, 0) := ⟨Nat.le_of_ble_eq_true rfl, fun _ => (mm_tw3 163 rfl rfl), fun h => absurd h (by decide), fun _ => rfl, fun h => absurd rfl h⟩
set_option maxRecDepth 100000 in
theorem mm_pm120 : mm_pmP (11, 198, 20, 0) := ⟨Nat.le_of_ble_eq_true rfl, fun _ => (mm_tw3 168 rfl rfl), fun h => absurd h (by decide), fun _ => rfl, fun h => absurd rfl h⟩
set_option maxRecDepth 100000 in
theorem mm_pm121 : mm_pmP (11, 202, 21, 0) := ⟨Nat.le_of_ble_eq_true rfl, fun _ => (mm_tw3 169 rfl rfl), fun h => absurd h (by decide), fun _ => rfl, fun h => absurd rfl h⟩
set_option maxRecDepth 100000 in
theorem mm_pm122 : mm_pmP (11, 205, 146, 0) := ⟨Nat.le_of_ble_eq_true rfl, fun _ => (mm_tw3 174 rfl rfl), fun h => absurd h (by decide), fun _ => rfl, fun h => absurd rfl h⟩
set_option maxRecDepth 100000 in
theorem mm_pm123 : mm_pmP (11, 209, 54, 0) := ⟨Nat.le_of_ble_eq_true rfl, fun _ => (mm_tw4 27 rfl rfl), fun h => absurd h (by decide), fun _ => rfl, fun h => absurd rfl h⟩
set_option maxRecDepth 100000 in
theorem mm_pm124 : mm_pmP (11, 212, 16, 0) := ⟨Nat.le_of_ble_eq_true rfl, fun _ => (mm_tw3 178 rfl rfl), fun h => absurd h (by decide), fun _ => rfl, fun h => absurd rfl h⟩
set_option maxRecDepth 100000 in
theorem mm_pm125 : mm_pmP (11, 216, 19, 0) := ⟨Nat.le_of_ble_eq_true rfl, fun _ => (mm_tw4 40 rfl rfl), fun h => absurd h (by decide), fun _ => rfl, fun h => absurd rfl h⟩
set_option maxRecDepth 100000 in
theorem mm_pm126 : mm_pmP (11, 225, 26, 0) := ⟨Nat.le_of_ble_eq_true rfl, fun _ => (mm_tw3 183 rfl rfl), fun h => absurd h (by decide), fun _ => rfl, fun h => absurd rfl h⟩
set_option maxRecDepth 100000 in
theorem mm_pm127 : mm_pmP (11, 229, 147, 0) := ⟨Nat.le_of_ble_eq_true rfl, fun _ => (mm_tw4 5 rfl rfl), fun h => absurd h (by decide), fun _ => rfl, fun h => absurd rfl h⟩
set_option maxRecDepth 100000 in
theorem mm_pm128 : mm_pmP (11, 233, 48, 0) := ⟨Nat.le_of_ble_eq_true rfl, fun _ => (mm_tw4 46 rfl rfl), fun h => absurd h (by decide), fun _ => rfl, fun h => absurd rfl h⟩
set_option maxRecDepth 100000 in
theorem mm_pm129 : mm_pmP (11, 237, 24, 0) := ⟨Nat.le_of_ble_eq_true rfl, fun _ => (mm_tw4 54 rfl rfl), fun h => absurd h (by decide), fun _ => rfl, fun h => absurd rfl h⟩
set_option maxRecDepth 100000 in
theorem mm_pm130 : mm_pmP (11, 243, 36, 0) := ⟨Nat.le_of_ble_eq_true rfl, fun _ => (mm_tw4 66 rfl rfl), fun h => absurd h (by decide), fun _ => rfl, fun h => absurd rfl h⟩
set_option maxRecDepth 100000 in
theorem mm_pm131 : mm_pmP (11, 246, 153, 1) := ⟨Nat.le_of_ble_eq_true rfl, fun _ => (mm_tw4 74 rfl rfl), fun h => absurd h (by decide), fun h => absurd h (by decide), fun _ => rfl⟩
set_option maxRecDepth 100000 in
theorem mm_pm132 : mm_pmP (11, 249, 9, 0) := ⟨Nat.le_of_ble_eq_true rfl, fun _ => (mm_tw4 79 rfl rfl), fun h => absurd h (by decide), fun _ => rfl, fun h => absurd rfl h⟩
set_option maxRecDepth 100000 in
theorem mm_pm133 : mm_pmP (11, 262, 61, 0) := ⟨Nat.le_of_ble_eq_true rfl, fun _ => (mm_tw4 123 rfl rfl), fun h => absurd h (by decide), fun _ => rfl, fun h => absurd rfl h⟩
set_option maxRecDepth 100000 in
theorem mm_pm134 : mm_pmP (11, 271, 18, 0) := ⟨Nat.le_of_ble_eq_true rfl, fun _ => (mm_tw4 151 rfl rfl), fun h => absurd h (by decide), fun _ => rfl, fun h => absurd rfl h⟩
set_option maxRecDepth 100000 in
theorem mm_pm135 : mm_pmP (11, 274, 53, 0) := ⟨Nat.le_of_ble_eq_true rfl, fun _ => (mm_tw4 152 rfl rfl), fun h => absurd h (by decide), fun _ => rfl, fun h => absurd rfl h⟩
set_option maxRecDepth 100000 in
theorem mm_pm136 : mm_pmP (11, 277, 37, 0) := ⟨Nat.le_of_ble_eq_true rfl, fun _ => (mm_tw4 158 rfl rfl), fun h => absurd h (by decide), fun _ => rfl, fun h => absurd rfl h⟩
set_option maxRecDepth 100000 in
theorem mm_pm137 : mm_pmP (11, 280, 43, 0) := ⟨Nat.le_of_ble_eq_true rfl, fun _ => (mm_tw4 166 rfl rfl), fun h => absurd h (by decide), fun _ => rfl, fun h => absurd rfl h⟩
set_option maxRecDepth 100000 in
theorem mm_pm138 : mm_pmP (11, 286, 57, 0) := ⟨Nat.le_of_ble_eq_true rfl, fun _ => (mm_tw4 190 rfl rfl), fun h => absurd h (by decide), fun _ => rfl, fun h => absurd rfl h⟩
set_option maxRecDepth 100000 in
theorem mm_pm139 : mm_pmP (11, 290, 149, 0) := ⟨Nat.le_of_ble_eq_true rfl, fun _ => (mm_tw4 195 rfl rfl), fun h => absurd h (by decide), fun _ => rfl, fun h => absurd rfl h⟩
set_option maxRecDepth 100000 in
theorem mm_pm140 : mm_pmP (11, 296, 150, 0) := ⟨Nat.le_of_ble_eq_true rfl, fun _ => (mm_tw4 204 rfl rfl), fun h => absurd h (by decide), fun _ => rfl, fun h => absurd rfl h⟩
set_option maxRecDepth 100000 in
theorem mm_pm141 : mm_pmP (11, 299, 151, 0) := ⟨Nat.le_of_ble_eq_true rfl, fun _ => (mm_tw5 16 rfl rfl), fun h => absurd h (by decide), fun _ => rfl, fun h => absurd rfl h⟩
set_option maxRecDepth 100000 in
theorem mm_pm142 : mm_pmP (11, 308, 38, 0) := ⟨Nat.le_of_ble_eq_true rfl, fun _ => (mm_tw5 31 rfl rfl), fun h => absurd h (by decide), fun _ => rfl, fun h => absurd rfl h⟩
set_option maxRecDepth 100000 in
theorem mm_pm143 : mm_pmP (11, 311, 0, 0) := ⟨Nat.le_of_ble_eq_true rfl, fun _ => (mm_tw5 59 rfl rfl), fun h => absurd h (by decide), fun _ => rfl, fun h => absurd rfl h⟩
set_option maxRecDepth 100000 in
theorem mm_pm144 : mm_pmP (11, 315, 7, 0) := ⟨Nat.le_of_ble_eq_true rfl, fun _ => (mm_tw5 110 rfl rfl), fun h => absurd h (by decide), fun _ => rfl, fun h => absurd rfl h⟩
set_option maxRecDepth 100000 in
theorem mm_pm145 : mm_pmP (11, 322, 8, 0) := ⟨Nat.le_of_ble_eq_true rfl, fun _ => (mm_tw5 120 rfl rfl), fun h => absurd h (by decide), fun _ => rfl, fun h => absurd rfl h⟩
set_option maxRecDepth 100000 in
theorem mm_pm146 : mm_pmP (11, 325, 70, 0) := ⟨Nat.le_of_ble_eq_true rfl, fun _ => (mm_tw5 128 rfl rfl), fun h => absurd h (by decide), fun _ => rfl, fun h => absurd rfl h⟩
set_option maxRecDepth 100000 in
theorem mm_pm147 : mm_pmP (11, 331, 69, 0) := ⟨Nat.le_of_ble_eq_true rfl, fun _ => (mm_tw5 193 rfl rfl), fun h => absurd h (by decide), fun _ => rfl, fun h => absurd rfl h⟩
set_option maxRecDepth 100000 in
theorem mm_pm148 : mm_pmP (11, 337, 68, 0) := ⟨Nat.le_of_ble_eq_true rfl, fun _ => (mm_tw5 201 rfl rfl), fun h => absurd h (by decide), fun _ => rfl, fun h => absurd rfl h⟩
set_option maxRecDepth 100000 in
theorem mm_pm149 : mm_pmP (11, 343, 77, 0) := ⟨Nat.le_of_ble_eq_true rfl, fun _ => (mm_tw5 205 rfl rfl), fun h => absurd h (by decide), fun _ => rfl, fun h => absurd rfl h⟩
set_option maxRecDepth 100000 in
theorem mm_pm150 : mm_pmP (11, 347, 66, 0) := ⟨Nat.le_of_ble_eq_true rfl, fun _ => (mm_tw5 229 rfl rfl), fun h => absurd h (by decide), fun _ => rfl, fun h => absurd rfl h⟩
set_option maxRecDepth 100000 in
theorem mm_pm151 : mm_pmP (11, 356, 47, 0) := ⟨Nat.le_of_ble_eq_true rfl, fun _ => (mm_tw4 9 rfl rfl), fun h => absurd h (by decide), fun _ => rfl, fun h => absurd rfl h⟩
set_option maxRecDepth 100000 in
theorem mm_pm152 : mm_pmP (11, 361, 148, 0) := ⟨Nat.le_of_ble_eq_true rfl, fun _ => (mm_tw4 199 rfl rfl), fun h => absurd h (by decide), fun _ => rfl, fun h => absurd rfl h⟩
set_option maxRecDepth 100000 in
theorem mm_pm153 : mm_pmP (12, 14, 156, 0) := ⟨Nat.le_of_ble_eq_true rfl, fun _ => (mm_tw6 86 rfl rfl), fun h => absurd h (by decide), fun _ => rfl, fun h => absurd rfl h⟩
set_option maxRecDepth 100000 in
theorem mm_pm154 : mm_pmP (12, 33, 167, 1) := ⟨Nat.le_of_ble_eq_true rfl, fun _ => (mm_tw7 26 rfl rfl), fun h => absurd h (by decide), fun h => absurd h (by decide), fun _ => rfl⟩
set_option maxRecDepth 100000 in
theorem mm_pm155 : mm_pmP (12, 37, 166, 1) := ⟨Nat.le_of_ble_eq_true rfl, fun _ => (mm_tw7 29 rfl rfl), fun h => absurd h (by decide), fun h => absurd h (by decide), fun _ => rfl⟩
set_option maxRecDepth 100000 in
theorem mm_pm156 : mm_pmP (12, 50, 165, 0) := ⟨Nat.le_of_ble_eq_true rfl, fun _ => (mm_tw7 32 rfl rfl), fun h => absurd h (by decide), fun _ => rfl, fun h => absurd rfl h⟩
set_option maxRecDepth 100000 in
theorem mm_pm157 : mm_pmP (12, 58, 169, 1) := ⟨Nat.le_of_ble_eq_true rfl, fun _ => (mm_tw7 49 rfl rfl), fun h => absurd h (by decide), fun h => absurd h (by decide), fun _ => rfl⟩
set_option maxRecDepth 100000 in
theorem mm_pm158 : mm_pmP (12, 62, 170, 1) := ⟨Nat.le_of_ble_eq_true rfl, fun _ => (mm_tw7 46 rfl rfl), fun h => absurd h (by decide), fun h => absurd h (by decide), fun _ => rfl⟩
set_option maxRecDepth 100000 in
theorem mm_pm159 : mm_pmP (12, 72, 174, 0) := ⟨Nat.le_of_ble_eq_true rfl, fun _ => (mm_tw7 56 rfl rfl), fun h => absurd h (by decide), fun _ => rfl, fun h => absurd rfl h⟩
set_option maxRecDepth 100000 in
theorem mm_pm160 : mm_pmP (12, 75, 160, 1) := ⟨Nat.le_of_ble_eq_true rfl, fun _ => (mm_tw7 68 rfl rfl), fun h => absurd h (by decide), fun h => absurd h (by decide), fun _ => rfl⟩
set_option maxRecDepth 100000 in
theorem mm_pm161 : mm_pmP (12, 82, 168, 0) := ⟨Nat.le_of_ble_eq_true rfl, fun _ => (mm_tw7 22 rfl rfl), fun h => absurd h (by decide), fun _ => rfl, fun h => absurd rfl h⟩
set_option maxRecDepth 100000 in
theorem mm_pm162 : mm_pmP (12, 86, 172, 0) := ⟨Nat.le_of_ble_eq_true rfl, fun _ => (mm_tw7 129 rfl rfl), fun h => absurd h (by decide), fun _ => rfl, fun h => absurd rfl h⟩
set_option maxRecDepth 100000 in
theorem mm_pm163 : mm_pmP (12, 89, 159, 0) := ⟨Nat.le_of_ble_eq_true rfl, fun _ => (mm_tw7 18 rfl rfl), fun h => absurd h (by decide), fun _ => rfl, fun h => absurd rfl h⟩
set_option maxRecDepth 100000 in
theorem mm_pm164 : mm_pmP (12, 166, 178, 0) := ⟨Nat.le_of_ble_eq_true rfl, fun _ => (mm_tw6 100 rfl rfl), fun h => absurd h (by decide), fun _ => rfl, fun h => absurd rfl h⟩
set_option maxRecDepth 100000 in
theorem mm_pm165 : mm_pmP (12, 169, 179, 0) := ⟨Nat.le_of_ble_eq_true rfl, fun _ => (mm_tw6 104 rfl rfl), fun h => absurd h (by decide), fun _ => rfl, fun h => absurd rfl h⟩
set_option maxRecDepth 100000 in
theorem mm_pm166 : mm_pmP (12, 176, 180, 1) := ⟨Nat.le_of_ble_eq_true rfl, fun _ => (mm_tw7 95 rfl rfl), fun h => absurd h (by decide), fun h => absurd h (by decide), fun _ => rfl⟩
set_option maxRecDepth 100000 in
theorem mm_pm167 : mm_pmP (12, 180, 173, 0) := ⟨Nat.le_of_ble_eq_true rfl, fun _ => (mm_tw7 87 rfl rfl), fun h => absurd h (by decide), fun _ => rfl, fun h => absurd rfl h⟩
set_option maxRecDepth 100000 in
theorem mm_pm168 : mm_pmP (12, 184, 181, 0) := ⟨Nat.le_of_ble_eq_true rfl, fun _ => (mm_tw7 91 rfl rfl), fun h => absurd h (by decide), fun _ => rfl, fun h => absurd rfl h⟩
set_option maxRecDepth 100000 in
theorem mm_pm169 : mm_pmP (12, 187, 185, 0) := ⟨Nat.le_of_ble_eq_true rfl, fun _ => (mm_tw7 60 rfl rfl), fun h => absurd h (by decide), fun _ => rfl, fun h => absurd rfl h⟩
set_option maxRecDepth 100000 in
theorem mm_pm170 : mm_pmP (12, 190, 175, 0) := ⟨Nat.le_of_ble_eq_true rfl, fun _ => (mm_tw7 64 rfl rfl), fun h => absurd h (by decide), fun _ => rfl, fun h => absurd rfl h⟩
set_option maxRecDepth 100000 in
theorem mm_pm171 : mm_pmP (12, 194, 184, 0) := ⟨Nat.le_of_ble_eq_true rfl, fun _ => (mm_tw7 71 rfl rfl), fun h => absurd h (by decide), fun _ => rfl, fun h => absurd rfl h⟩
set_option maxRecDepth 100000 in
theorem mm_pm172 : mm_pmP (12, 198, 183, 0) := ⟨Nat.le_of_ble_eq_true rfl, fun _ => (mm_tw7 79 rfl rfl), fun h => absurd h (by decide), fun _ => rfl, fun h => absurd rfl h⟩
set_option maxRecDepth 100000 in
theorem mm_pm173 : mm_pmP (12, 201, 182, 0) := ⟨Nat.le_of_ble_eq_true rfl, fun _ => (mm_tw7 83 rfl rfl), fun h => absurd h (by decide), fun _ => rfl, fun h => absurd rfl h⟩
set_option maxRecDepth 100000 in
theorem mm_pm174 : mm_pmP (12, 204, 188, 0) := ⟨Nat.le_of_ble_eq_true rfl, fun _ => (mm_tw7 102 rfl rfl), fun h => absurd h (by decide), fun _ => rfl, fun h => absurd rfl h⟩
set_option maxRecDepth 100000 in
theorem mm_pm175 : mm_pmP (12, 207, 171, 0) := ⟨Nat.le_of_ble_eq_true rfl, fun _ => (mm_tw7 42 rfl rfl), fun h => absurd h (by decide), fun _ => rfl, fun h => absurd rfl h⟩
set_option maxRecDepth 100000 in
theorem mm_pm176 : mm_pmP (12, 210, 191, 0) := ⟨Nat.le_of_ble_eq_true rfl, fun _ => (mm_tw7 114 rfl rfl), fun h => absurd h (by decide), fun _ => rfl, fun h => absurd rfl h⟩
set_option maxRecDepth 100000 in
theorem mm_pm177 : mm_pmP (12, 213, 161, 1) := ⟨Nat.le_of_ble_eq_true rfl, fun _ => (mm_tw7 118 rfl rfl), fun h => absurd h (by decide), fun h => absurd h (by decide), fun _ => rfl⟩
set_option maxRecDepth 100000 in
theorem mm_pm178 : mm_pmP (12, 216, 186, 0) := ⟨Nat.le_of_ble_eq_true rfl, fun _ => (mm_tw7 52 rfl rfl), fun h => absurd h (by decide), fun _ => rfl, fun h => absurd rfl h⟩
set_option maxRecDepth 100000 in
theorem mm_pm179 : mm_pmP (12, 219, 187, 0) := ⟨Nat.le_of_ble_eq_true rfl, fun _ => (mm_tw7 75 rfl rfl), fun h => absurd h (by decide), fun _ => rfl, fun h => absurd rfl h⟩
set_option maxRecDepth 100000 in
theorem mm_pm180 : mm_pmP (12, 222, 189, 0) := ⟨Nat.le_of_ble_eq_true rfl, fun _ => (mm_tw7 98 rfl rfl), fun h => absurd h (by decide), fun _ => rfl, fun h => absurd rfl h⟩
set_option maxRecDepth 100000 in
theorem mm_pm181 : mm_pmP (12, 225, 190, 0) := ⟨Nat.le_of_ble_eq_true rfl, fun _ => (mm_tw7 106 rfl rfl), fun h => absurd h (by decide), fun _ => rfl, fun h => absurd rfl h⟩
set_option maxRecDepth 100000 in
theorem mm_pm182 : mm_pmP (12, 228, 192, 0) := ⟨Nat.le_of_ble_eq_true rfl, fun _ => (mm_tw7 110 rfl rfl), fun h => absurd h (by decide), fun _ => rfl, fun h => absurd rfl h⟩
set_option maxRecDepth 100000 in
theorem mm_pm183 : mm_pmP (12, 231, 193, 0) := ⟨Nat.le_of_ble_eq_true rfl, fun _ => (mm_tw7 121 rfl rfl), fun h => absurd h (by decide), fun _ => rfl, fun h => absurd rfl h⟩
set_option maxRecDepth 100000 in
theorem mm_pm184 : mm_pmP (12, 234, 177, 0) := ⟨Nat.le_of_ble_eq_true rfl, fun _ => (mm_tw7 14 rfl rfl), fun h => absurd h (by decide), fun _ => rfl, fun h => absurd rfl h⟩
set_option maxRecDepth 100000 in
theorem mm_pm185 : mm_pmP (12, 237, 194, 0) := ⟨Nat.le_of_ble_eq_true rfl, fun _ => (mm_tw7 38 rfl rfl), fun h => absurd h (by decide), fun _ => rfl, fun h => absurd rfl h⟩
set_option maxRecDepth 100000 in
theorem mm_pm186 : mm_pmP (12, 240, 176, 0) := ⟨Nat.le_of_ble_eq_true rfl, fun _ => (mm_tw7 125 rfl rfl), fun h => absurd h (by decide), fun _ => rfl, fun h => absurd rfl h⟩
set_option maxRecDepth 100000 in
theorem mm_pm187 : mm_pmP (12, 246, 202, 0) := ⟨Nat.le_of_ble_eq_true rfl, fun _ => (mm_tw7 161 rfl rfl), fun h => absurd h (by decide), fun _ => rfl, fun h => absurd rfl h⟩
set_option maxRecDepth 100000 in
theorem mm_pm188 : mm_pmP (12, 249, 200, 0) := ⟨Nat.le_of_ble_eq_true rfl, fun _ => (mm_tw7 149 rfl rfl), fun h => absurd h (by decide), fun _ => rfl, fun h => absurd rfl h⟩
set_option maxRecDepth 100000 in
theorem mm_pm189 : mm_pmP (12, 252, 203, 0) := ⟨Nat.le_of_ble_eq_true rfl, fun _ => (mm_tw7 157 rfl rfl), fun h => absurd h (by decide), fun _ => rfl, fun h => absurd rfl h⟩
set_option maxRecDepth 100000 in
theorem mm_pm190 : mm_pmP (12, 255, 198, 0) := ⟨Nat.le_of_ble_eq_true rfl, fun _ => (mm_tw7 141 rfl rfl), fun h => absurd h (by decide), fun _ => rfl, fun h => absurd rfl h⟩
set_option maxRecDepth 100000 in
theorem mm_pm191 : mm_pmP (12, 258, 155, 0) := ⟨Nat.le_of_ble_eq_true rfl, fun _ => (mm_tw7 145 rfl rfl), fun h => absurd h (by decide), fun _ => rfl, fun h => absurd rfl h⟩
set_option maxRecDepth 100000 in
theorem mm_pm192 : mm_pmP (12, 261, 204, 0) := ⟨Nat.le_of_ble_eq_true rfl, fun _ => (mm_tw7 153 rfl rfl), fun h => absurd h (by decide), fun _ => rfl, fun h => absurd rfl h⟩
set_option maxRecDepth 100000 in
theorem mm_pm193 : mm_pmP (12, 264, 199, 0) := ⟨Nat.le_of_ble_eq_true rfl, fun _ => (mm_tw7 169 rfl rfl), fun h => absurd h (by decide), fun _ => rfl, fun h => absurd rfl h⟩
set_option maxRecDepth 100000 in
theorem mm_pm194 : mm_pmP (12, 267, 197, 0) := ⟨Nat.le_of_ble_eq_true rfl, fun _ => (mm_tw7 177 rfl rfl), fun h => absurd h (by decide), fun _ => rfl, fun h => absurd rfl h⟩
set_option maxRecDepth 100000 in
theorem mm_pm195 : mm_pmP (12, 270, 210, 0) := ⟨Nat.le_of_ble_eq_true rfl, fun _ => (mm_tw7 197 rfl rfl), fun h => absurd h (by decide), fun _ => rfl, fun h => absurd rfl h⟩
set_option maxRecDepth 100000 in
theorem mm_pm196 : mm_pmP (12, 273, 162, 1) := ⟨Nat.le_of_ble_eq_true rfl, fun _ => (mm_tw7 209 rfl rfl), fun h => absurd h (by decide), fun h => absurd h (by decide), fun _ => rfl⟩
set_option maxRecDepth 100000 in
theorem mm_pm197 : mm_pmP (12, 277, 212, 0) := ⟨Nat.le_of_ble_eq_true rfl, fun _ => (mm_tw7 212 rfl rfl), fun h => absurd h (by decide), fun _ => rfl, fun h => absurd rfl h⟩
set_option maxRecDepth 100000 in
theorem mm_pm198 : mm_pmP (12, 280, 211, 0) := ⟨Nat.le_of_ble_eq_true rfl, fun _ => (mm_tw7 193 rfl rfl), fun h => absurd h (by decide), fun _ => rfl, fun h => absurd rfl h⟩
set_option maxRecDepth 100000 in
theorem mm_pm199 : mm_pmP (12, 283, 209, 0) := ⟨Nat.le_of_ble_eq_true rfl, fun _ => (mm_tw7 201 rfl rfl), fun h => absurd h (by decide), fun _ => rfl, fun h => absurd rfl h⟩
set_option maxRecDepth 100000 in
theorem mm_pm200 : mm_pmP (12, 286, 213, 0) := ⟨Nat.le_of_ble_eq_true rfl, fun _ => (mm_tw7 205 rfl rfl), fun h => absurd h (by decide), fun _ => rfl, fun h => absurd rfl h⟩
set_option maxRecDepth 100000 in
theorem mm_pm201 : mm_pmP (12, 290, 214, 0) := ⟨Nat.le_of_ble_eq_true rfl, fun _ => (mm_tw7 189 rfl rfl), fun h => absurd h (by decide), fun _ => rfl, fun h => absurd rfl h⟩
set_option maxRecDepth 100000 in
theorem mm_pm202 : mm_pmP (12, 294, 201, 0) := ⟨Nat.le_of_ble_eq_true rfl, fun _ => (mm_tw8 12 rfl rfl), fun h => absurd h (by decide), fun _ => rfl, fun h => absurd rfl h⟩
set_option maxRecDepth 100000 in
theorem mm_pm203 : mm_pmP (12, 297, 222, 0) := ⟨Nat.le_of_ble_eq_true rfl, fun _ => (mm_tw8 16 rfl rfl), fun h => absurd h (by decide), fun _ => rfl, fun h => absurd rfl h⟩
set_option maxRecDepth 100000 in
theorem mm_pm204 : mm_pmP (12, 300, 223, 0) := ⟨Nat.le_of_ble_eq_true rfl, fun _ => (mm_tw8 8 rfl rfl), fun h => absurd h (by decide), fun _ => rfl, fun h => absurd rfl h⟩
set_option maxRecDepth 100000 in
theorem mm_pm205 : mm_pmP (12, 303, 224, 0) := ⟨Nat.le_of_ble_eq_true rfl, fun _ => (mm_tw8 4 rfl rfl), fun h => absurd h (by decide), fun _ => rfl, fun h => absurd rfl h⟩
set_option maxRecDepth 100000 in
theorem mm_pm206 : mm_pmP (12, 306, 226, 0) := ⟨Nat.le_of_ble_eq_true rfl, fun _ => (mm_tw8 24 rfl rfl), fun h => absurd h (by decide), fun _ => rfl, fun h => absurd rfl h⟩
set_option maxRecDepth 100000 in
theorem mm_pm207 : mm_pmP (12, 309, 229, 0) := ⟨Nat.le_of_ble_eq_true rfl, fun _ => (mm_tw8 40 rfl rfl), fun h => absurd h (by decide), fun _ => rfl, fun h => absurd rfl h⟩
set_option maxRecDepth 100000 in
theorem mm_pm208 : mm_pmP (12, 313, 230, 0) := ⟨Nat.le_of_ble_eq_true rfl, fun _ => (mm_tw8 45 rfl rfl), fun h => absurd h (by decide), fun _ => rfl, fun h => absurd rfl h⟩
set_option maxRecDepth 100000 in
theorem mm_pm209 : mm_pmP (12, 316, 231, 0) := ⟨Nat.le_of_ble_eq_true rfl, fun _ => (mm_tw8 36 rfl rfl), fun h => absurd h (by decide), fun _ => rfl, fun h => absurd rfl h⟩
set_option maxRecDepth 100000 in
theorem mm_pm210 : mm_pmP (12, 319, 164, 1) := ⟨Nat.le_of_ble_eq_true rfl, fun _ => (mm_tw8 61 rfl rfl), fun h => absurd h (by decide), fun h => absurd h (by decide), fun _ => rfl⟩
set_option maxRecDepth 100000 in
theorem mm_pm211 : mm_pmP (12, 322, 236, 0) := ⟨Nat.le_of_ble_eq_true rfl, fun _ => (mm_tw8 68 rfl rfl), fun h => absurd h (by decide), fun _ => rfl, fun h => absurd rfl h⟩
set_option maxRecDepth 100000 in
theorem mm_pm212 : mm_pmP (12, 325, 237, 0) := ⟨Nat.le_of_ble_eq_true rfl, fun _ => (mm_tw8 72 rfl rfl), fun h => absurd h (by decide), fun _ => rfl, fun h => absurd rfl h⟩
set_option maxRecDepth 100000 in
theorem mm_pm213 : mm_pmP (12, 328, 242, 0) := ⟨Nat.le_of_ble_eq_true rfl, fun _ => (mm_tw8 96 rfl rfl), fun h => absurd h (by decide), fun _ => rfl, fun h => absurd rfl h⟩
set_option maxRecDepth 100000 in
theorem mm_pm214 : mm_pmP (12, 331, 243, 0) := ⟨Nat.le_of_ble_eq_true rfl, fun _ => (mm_tw8 92 rfl rfl), fun h => absurd h (by decide), fun _ => rfl, fun h => absurd rfl h⟩
set_option maxRecDepth 100000 in
theorem mm_pm215 : mm_pmP (12, 337, 163, 1) := ⟨Nat.le_of_ble_eq_true rfl, fun _ => (mm_tw8 116 rfl rfl), fun h => absurd h (by decide), fun h => absurd h (by decide), fun _ => rfl⟩
set_option maxRecDepth 100000 in
theorem mm_pm216 : mm_pmP (12, 339, 246, 0) := ⟨Nat.le_of_ble_eq_true rfl, fun _ => (mm_tw8 112 rfl rfl), fun h => absurd h (by decide), fun _ => rfl, fun h => absurd rfl h⟩
set_option maxRecDepth 100000 in
theorem mm_pm217 : mm_pmP (12, 342, 247, 0) := ⟨Nat.le_of_ble_eq_true rfl, fun _ => (mm_tw8 108 rfl rfl), fun h => absurd h (by decide), fun _ => rfl, fun h => absurd rfl h⟩
set_option maxRecDepth 100000 in
theorem mm_pm218 : mm_pmP (12, 348, 251, 0) := ⟨Nat.le_of_ble_eq_true rfl, fun _ => (mm_tw8 127 rfl rfl), fun h => absurd h (by decide), fun _ => rfl, fun h => absurd rfl h⟩
set_option maxRecDepth 100000 in
theorem mm_pm219 : mm_pmP (12, 352, 250, 0) := ⟨Nat.le_of_ble_eq_true rfl, fun _ => (mm_tw8 131 rfl rfl), fun h => absurd h (by decide), fun _ => rfl, fun h => absurd rfl h⟩
set_option maxRecDepth 100000 in
theorem mm_pm220 : mm_pmP (12, 355, 252, 0) := ⟨Nat.le_of_ble_eq_true rfl, fun _ => (mm_tw8 139 rfl rfl), fun h => absurd h (by decide), fun _ => rfl, fun h => absurd rfl h⟩
set_option maxRecDepth 100000 in
theorem mm_pm221 : mm_pmP (12, 358, 253, 0) := ⟨Nat.le_of_ble_eq_true rfl, fun _ => (mm_tw8 135 rfl rfl), fun h => absurd h (by decide), fun _ => rfl, fun h => absurd rfl h⟩
set_option maxRecDepth 100000 in
theorem mm_pm222 : mm_pmP (12, 365, 256, 0) := ⟨Nat.le_of_ble_eq_true rfl, fun _ => (mm_tw8 155 rfl rfl), fun h => absurd h (by decide), fun _ => rfl, fun h => absurd rfl h⟩
set_option maxRecDepth 100000 in
theorem mm_pm223 : mm_pmP (12, 368, 257, 0) := ⟨Nat.le_of_ble_eq_true rfl, fun _ => (mm_tw8 160 rfl rfl), fun h => absurd h (by decide), fun _ => rfl, fun h => absurd rfl h⟩
set_option maxRecDepth 100000 in
theorem mm_pm224 : mm_pmP (12, 371, 258, 0) := ⟨Nat.le_of_ble_eq_true rfl, fun _ => (mm_tw8 151 rfl rfl), fun h => absurd h (by decide), fun _ => rfl, fun h => absurd rfl h⟩
set_option maxRecDepth 100000 in
theorem mm_pm225 : mm_pmP (12, 374, 262, 0) := ⟨Nat.le_of_ble_eq_true rfl, fun _ => (mm_tw8 184 rfl rfl), fun h => absurd h (by decide), fun _ => rfl, fun h => absurd rfl h⟩
set_option maxRecDepth 100000 in
theorem mm_pm226 : mm_pmP (12, 380, 264, 0) := ⟨Nat.le_of_ble_eq_true rfl, fun _ => (mm_tw8 176 rfl rfl), fun h => absurd h (by decide), fun _ => rfl, fun h => absurd rfl h⟩
set_option maxRecDepth 100000 in
theorem mm_pm227 : mm_pmP (12, 383, 263, 0) := ⟨Nat.le_of_ble_eq_true rfl, fun _ => (mm_tw8 180 rfl rfl), fun h => absurd h (by decide), fun _ => rfl, fun h => absurd rfl h⟩
set_option maxRecDepth 100000 in
theorem mm_pm228 : mm_pmP (12, 386, 261, 0) := ⟨Nat.le_of_ble_eq_true rfl, fun _ => (mm_tw8 188 rfl rfl), fun h => absurd h (by decide), fun _ => rfl, fun h => absurd rfl h⟩
set_option maxRecDepth 100000 in
theorem mm_pm229 : mm_pmP (12, 389, 265, 0) := ⟨Nat.le_of_ble_eq_true rfl, fun _ => (mm_tw8 172 rfl rfl), fun h => absurd h (by decide), fun _ => rfl, fun h => absurd rfl h⟩
set_option maxRecDepth 100000 in
theorem mm_pm230 : mm_pmP (12, 392, 266, 0) := ⟨Nat.le_of_ble_eq_true rfl, fun _ => (mm_tw8 192 rfl rfl), fun h => absurd h (by decide), fun _ => rfl, fun h => absurd rfl h⟩
set_option maxRecDepth 100000 in
theorem mm_pm231 : mm_pmP (12, 398, 268, 0) := ⟨Nat.le_of_ble_eq_true rfl, fun _ => (mm_tw8 196 rfl rfl), fun h => absurd h (by decide), fun _ => rfl, fun h => absurd rfl h⟩
set_option maxRecDepth 100000 in
theorem mm_pm232 : mm_pmP (12, 405, 272, 0) := ⟨Nat.le_of_ble_eq_true rfl, fun _ => (mm_tw8 212 rfl rfl), fun h => absurd h (by decide), fun _ => rfl, fun h => absurd rfl h⟩
set_option maxRecDepth 100000 in
theorem mm_pm233 : mm_pmP (12, 411, 270, 0) := ⟨Nat.le_of_ble_eq_true rfl, fun _ => (mm_tw8 228 rfl rfl), fun h => absurd h (by decide), fun _ => rfl, fun h => absurd rfl h⟩
set_option maxRecDepth 100000 in
theorem mm_pm234 : mm_pmP (12, 415, 273, 0) := ⟨Nat.le_of_ble_eq_true rfl, fun _ => (mm_tw8 216 rfl rfl), fun h => absurd h (by decide), fun _ => rfl, fun h => absurd rfl h⟩
set_option maxRecDepth 100000 in
theorem mm_pm235 : mm_pmP (12, 424, 275, 0) := ⟨Nat.le_of_ble_eq_true rfl, fun _ => (mm_tw8 220 rfl rfl), fun h => absurd h (by decide), fun _ => rfl, fun h => absurd rfl h⟩
set_option maxRecDepth 100000 in
theorem mm_pm236 : mm_pmP (12, 427, 274, 0) := ⟨Nat.le_of_ble_eq_true rfl, fun _ => (mm_tw8 224 rfl rfl), fun h => absurd h (by decide), fun _ => rfl, fun h => absurd rfl h⟩
set_option maxRecDepth 100000 in
theorem mm_pm237 : mm_pmP (12, 430, 276, 0) := ⟨Nat.le_of_ble_eq_true rfl, fun _ => (mm_tw8 232 rfl rfl), fun h => absurd h (by decide), fun _ => rfl, fun h => absurd rfl h⟩
set_option maxRecDepth 100000 in
theorem mm_pm238 : mm_pmP (12, 433, 277, 0) := ⟨Nat.le_of_ble_eq_true rfl, fun _ => (mm_tw8 236 rfl rfl), fun h => absurd h (by decide), fun _ => rfl, fun h => absurd rfl h⟩
set_option maxRecDepth 100000 in
theorem mm_pm239 : mm_pmP (12, 436, 271, 0) := ⟨Nat.le_of_ble_eq_true rfl, fun _ => (mm_tw8 208 rfl rfl), fun h => absurd h (by decide), fun _ => rfl, fun h => absurd rfl h⟩
set_option maxRecDepth 100000 in
theorem mm_pm240 : mm_pmP (12, 439, 279, 0) := ⟨Nat.le_of_ble_eq_true rfl, fun _ => (mm_tw9 4 rfl rfl), fun h => absurd h (by decide), fun _ => rfl, fun h => absurd rfl h⟩
set_option maxRecDepth 100000 in
theorem mm_pm_ok : ∀ z ∈ mm_pm, mm_pmP z := (List.forall_mem_cons.mpr ⟨mm_pm0, (List.forall_mem_cons.mpr ⟨mm_pm1, (List.forall_mem_cons.mpr ⟨mm_pm2, (List.forall_mem_cons.mpr ⟨mm_pm3, (List.forall_mem_cons.mpr ⟨mm_pm4, (List.forall_mem_cons.mpr ⟨mm_pm5, (List.forall_mem_cons.mpr ⟨mm_pm6, (List.forall_mem_cons.mpr ⟨mm_pm7, (List.forall_mem_cons.mpr ⟨mm_pm8, (List.forall_mem_cons.mpr ⟨mm_pm9, (List.forall_mem_cons.mpr ⟨mm_pm10, (List.forall_mem_cons.mpr ⟨mm_pm11, (List.forall_mem_cons.mpr ⟨mm_pm12, (List.forall_mem_cons.mpr ⟨mm_pm13, (List.forall_mem_cons.mpr ⟨mm_pm14, (List.forall_mem_cons.mpr ⟨mm_pm15, (List.forall_mem_cons.mpr ⟨mm_pm16, (List.forall_mem_cons.mpr ⟨mm_pm17, (List.forall_mem_cons.mpr ⟨mm_pm18, (List.forall_mem_cons.mpr ⟨mm_pm19, (List.forall_mem_cons.mpr ⟨mm_pm20, (List.forall_mem_cons.mpr ⟨mm_pm21, (List.forall_mem_cons.mpr ⟨mm_pm22, (List.forall_mem_cons.mpr ⟨mm_pm23, (List.forall_mem_cons.mpr ⟨mm_pm24, (List.forall_mem_cons.mpr ⟨mm_pm25, (List.forall_mem_cons.mpr ⟨mm_pm26, (List.forall_mem_cons.mpr ⟨mm_pm27, (List.forall_mem_cons.mpr ⟨mm_pm28, (List.forall_mem_cons.mpr ⟨mm_pm29, (List.forall_mem_cons.mpr ⟨mm_pm30, (List.forall_mem_cons.mpr ⟨mm_pm31, (List.forall_mem_cons.mpr ⟨mm_pm32, (List.forall_mem_cons.mpr ⟨mm_pm33, (List.forall_mem_cons.mpr ⟨mm_pm34, (List.forall_mem_cons.mpr ⟨mm_pm35, (List.forall_mem_cons.mpr ⟨mm_pm36, (List.forall_mem_cons.mpr ⟨mm_pm37, (List.forall_mem_cons.mpr ⟨mm_pm38, (List.forall_mem_cons.mpr ⟨mm_pm39, (List.forall_mem_cons.mpr ⟨mm_pm40, (List.forall_mem_cons.mpr ⟨mm_pm41, (List.forall_mem_cons.mpr ⟨mm_pm42, (List.forall_mem_cons.mpr ⟨mm_pm43, (List.forall_mem_cons.mpr ⟨mm_pm44, (List.forall_mem_cons.mpr ⟨mm_pm45, (List.forall_mem_cons.mpr ⟨mm_pm46, (List.forall_mem_cons.mpr ⟨mm_pm47, (List.forall_mem_cons.mpr ⟨mm_pm48, (List.forall_mem_cons.mpr ⟨mm_pm49, (List.forall_mem_cons.mpr ⟨mm_pm50, (List.forall_mem_cons.mpr ⟨mm_pm51, (List.forall_mem_cons.mpr ⟨mm_pm52, (List.forall_mem_cons.mpr ⟨mm_pm53, (List.forall_mem_cons.mpr ⟨mm_pm54, (List.forall_mem_cons.mpr ⟨mm_pm55, (List.forall_mem_cons.mpr ⟨mm_pm56, (List.forall_mem_cons.mpr ⟨mm_pm57, (List.forall_mem_cons.mpr ⟨mm_pm58, (List.forall_mem_cons.mpr ⟨mm_pm59, (List.forall_mem_cons.mpr ⟨mm_pm60, (List.forall_mem_cons.mpr ⟨mm_pm61, (List.forall_mem_cons.mpr ⟨mm_pm62, (List.forall_mem_cons.mpr ⟨mm_pm63, (List.forall_mem_cons.mpr ⟨mm_pm64, (List.forall_mem_cons.mpr ⟨mm_pm65, (List.forall_mem_cons.mpr ⟨mm_pm66, (List.forall_mem_cons.mpr ⟨mm_pm67, (List.forall_mem_cons.mpr ⟨mm_pm68, (List.forall_mem_cons.mpr ⟨mm_pm69, (List.forall_mem_cons.mpr ⟨mm_pm70, (List.forall_mem_cons.mpr ⟨mm_pm71, (List.forall_mem_cons.mpr ⟨mm_pm72, (List.forall_mem_cons.mpr ⟨mm_pm73, (List.forall_mem_cons.mpr ⟨mm_pm74, (List.forall_mem_cons.mpr ⟨mm_pm75, (List.forall_mem_cons.mpr ⟨mm_pm76, (List.forall_mem_cons.mpr ⟨mm_pm77, (List.forall_mem_cons.mpr ⟨mm_pm78, (List.forall_mem_cons.mpr ⟨mm_pm79, (List.forall_mem_cons.mpr ⟨mm_pm80, (List.forall_mem_cons.mpr ⟨mm_pm81, (List.forall_mem_cons.mpr ⟨mm_pm82, (List.forall_mem_cons.mpr ⟨mm_pm83, (List.forall_mem_cons.mpr ⟨mm_pm84, (List.forall_mem_cons.mpr ⟨mm_pm85, (List.forall_mem_cons.mpr ⟨mm_pm86, (List.forall_mem_cons.mpr ⟨mm_pm87, (List.forall_mem_cons.mpr ⟨mm_pm88, (List.forall_mem_cons.mpr ⟨mm_pm89, (List.forall_mem_cons.mpr ⟨mm_pm90, (List.forall_mem_cons.mpr ⟨mm_pm91, (List.forall_mem_cons.mpr ⟨mm_pm92, (List.forall_mem_cons.mpr ⟨mm_pm93, (List.forall_mem_cons.mpr ⟨mm_pm94, (List.forall_mem_cons.mpr ⟨mm_pm95, (List.forall_mem_cons.mpr ⟨mm_pm96, (List.forall_mem_cons.mpr ⟨mm_pm97, (List.forall_mem_cons.mpr ⟨mm_pm98, (List.forall_mem_cons.mpr ⟨mm_pm99, (List.forall_mem_cons.mpr ⟨mm_pm100, (List.forall_mem_cons.mpr ⟨mm_pm101, (List.forall_mem_cons.mpr ⟨mm_pm102, (List.forall_mem_cons.mpr ⟨mm_pm103, (List.forall_mem_cons.mpr ⟨mm_pm104, (List.forall_mem_cons.mpr ⟨mm_pm105, (List.forall_mem_cons.mpr ⟨mm_pm106, (List.forall_mem_cons.mpr ⟨mm_pm107, (List.forall_mem_cons.mpr ⟨mm_pm108, (List.forall_mem_cons.mpr ⟨mm_pm109, (List.forall_mem_cons.mpr ⟨mm_pm110, (List.forall_mem_cons.mpr ⟨mm_pm111, (List.forall_mem_cons.mpr ⟨mm_pm112, (List.forall_mem_cons.mpr ⟨mm_pm113, (List.forall_mem_cons.mpr ⟨mm_pm114, (List.forall_mem_cons.mpr ⟨mm_pm115, (List.forall_mem_cons.mpr ⟨mm_pm116, (List.forall_mem_cons.mpr ⟨mm_pm117, (List.forall_mem_cons.mpr ⟨mm_pm118, (List.forall_mem_cons.mpr ⟨mm_pm119, (List.forall_mem_cons.mpr ⟨mm_pm120, (List.forall_mem_cons.mpr ⟨mm_pm121, (List.forall_mem_cons.mpr ⟨mm_pm122, (List.forall_mem_cons.mpr ⟨mm_pm123, (List.forall_mem_cons.mpr ⟨mm_pm124, (List.forall_mem_cons.mpr ⟨mm_pm125, (List.forall_mem_cons.mpr ⟨mm_pm126, (List.forall_mem_cons.mpr ⟨mm_pm127, (List.forall_mem_cons.mpr ⟨mm_pm128, (List.forall_mem_cons.mpr ⟨mm_pm129, (List.forall_mem_cons.mpr ⟨mm_pm130, (List.forall_mem_cons.mpr ⟨mm_pm131, (List.forall_mem_cons.mpr ⟨mm_pm132, (List.forall_mem_cons.mpr ⟨mm_pm133, (List.forall_mem_cons.mpr ⟨mm_pm134, (List.forall_mem_cons.mpr ⟨mm_pm135, (List.forall_mem_cons.mpr ⟨mm_pm136, (List.forall_mem_cons.mpr ⟨mm_pm137, (List.forall_mem_cons.mpr ⟨mm_pm138, (List.forall_mem_cons.mpr ⟨mm_pm139, (List.forall_mem_cons.mpr ⟨mm_pm140, (List.forall_mem_cons.mpr ⟨mm_pm141, (List.forall_mem_cons.mpr ⟨mm_pm142, (List.forall_mem_cons.mpr ⟨mm_pm143, (List.forall_mem_cons.mpr ⟨mm_pm144, (List.forall_mem_cons.mpr ⟨mm_pm145, (List.forall_mem_cons.mpr ⟨mm_pm146, (List.forall_mem_cons.mpr ⟨mm_pm147, (List.forall_mem_cons.mpr ⟨mm_pm148, (List.forall_mem_cons.mpr ⟨mm_pm149, (List.forall_mem_cons.mpr ⟨mm_pm150, (List.forall_mem_cons.mpr ⟨mm_pm151, (List.forall_mem_cons.mpr ⟨mm_pm152, (List.forall_mem_cons.mpr ⟨mm_pm153, (List.forall_mem_cons.mpr ⟨mm_pm154, (List.forall_mem_cons.mpr ⟨mm_pm155, (List.forall_mem_cons.mpr ⟨mm_pm156, (List.forall_mem_cons.mpr ⟨mm_pm157, (List.forall_mem_cons.mpr ⟨mm_pm158, (List.forall_mem_cons.mpr ⟨mm_pm159, (List.forall_mem_cons.mpr ⟨mm_pm160, (List.forall_mem_cons.mpr ⟨mm_pm161, (List.forall_mem_cons.mpr ⟨mm_pm162, (List.forall_mem_cons.mpr ⟨mm_pm163, (List.forall_mem_cons.mpr ⟨mm_pm164, (List.forall_mem_cons.mpr ⟨mm_pm165, (List.forall_mem_cons.mpr ⟨mm_pm166, (List.forall_mem_cons.mpr ⟨mm_pm167, (List.forall_mem_cons.mpr ⟨mm_pm168, (List.forall_mem_cons.mpr ⟨mm_pm169, (List.forall_mem_cons.mpr ⟨mm_pm170, (List.forall_mem_cons.mpr ⟨mm_pm171, (List.forall_mem_cons.mpr ⟨mm_pm172, (List.forall_mem_cons.mpr ⟨mm_pm173, (List.forall_mem_cons.mpr ⟨mm_pm174, (List.forall_mem_cons.mpr ⟨mm_pm175, (List.forall_mem_cons.mpr ⟨mm_pm176, (List.forall_mem_cons.mpr ⟨mm_pm177, (List.forall_mem_cons.mpr ⟨mm_pm178, (List.forall_mem_cons.mpr ⟨mm_pm179, (List.forall_mem_cons.mpr ⟨mm_pm180, (List.forall_mem_cons.mpr ⟨mm_pm181, (List.forall_mem_cons.mpr ⟨mm_pm182, (List.forall_mem_cons.mpr ⟨mm_pm183, (List.forall_mem_cons.mpr ⟨mm_pm184, (List.forall_mem_cons.mpr ⟨mm_pm185, (List.forall_mem_cons.mpr ⟨mm_pm186, (List.forall_mem_cons.mpr ⟨mm_pm187, (List.forall_mem_cons.mpr ⟨mm_pm188, (List.forall_mem_cons.mpr ⟨mm_pm189, (List.forall_mem_cons.mpr ⟨mm_pm190, (List.forall_mem_cons.mpr ⟨mm_pm191, (List.forall_mem_cons.mpr ⟨mm_pm192, (List.forall_mem_cons.mpr ⟨mm_pm193, (List.forall_mem_cons.mpr ⟨mm_pm194, (List.forall_mem_cons.mpr ⟨mm_pm195, (List.forall_mem_cons.mpr ⟨mm_pm196, (List.forall_mem_cons.mpr ⟨mm_pm197, (List.forall_mem_cons.mpr ⟨mm_pm198, (List.forall_mem_cons.mpr ⟨mm_pm199, (List.forall_mem_cons.mpr ⟨mm_pm200, (List.forall_mem_cons.mpr ⟨mm_pm201, (List.forall_mem_cons.mpr ⟨mm_pm202, (List.forall_mem_cons.mpr ⟨mm_pm203, (List.forall_mem_cons.mpr ⟨mm_pm204, (List.forall_mem_cons.mpr ⟨mm_pm205, (List.forall_mem_cons.mpr ⟨mm_pm206, (List.forall_mem_cons.mpr ⟨mm_pm207, (List.forall_mem_cons.mpr ⟨mm_pm208, (List.forall_mem_cons.mpr ⟨mm_pm209, (List.forall_mem_cons.mpr ⟨mm_pm210, (List.forall_mem_cons.mpr ⟨mm_pm211, (List.forall_mem_cons.mpr ⟨mm_pm212, (List.forall_mem_cons.mpr ⟨mm_pm213, (List.forall_mem_cons.mpr ⟨mm_pm214, (List.forall_mem_cons.mpr ⟨mm_pm215, (List.forall_mem_cons.mpr ⟨mm_pm216, (List.forall_mem_cons.mpr ⟨mm_pm217, (List.forall_mem_cons.mpr ⟨mm_pm218, (List.forall_mem_cons.mpr ⟨mm_pm219, (List.forall_mem_cons.mpr ⟨mm_pm220, (List.forall_mem_cons.mpr ⟨mm_pm221, (List.forall_mem_cons.mpr ⟨mm_pm222, (List.forall_mem_cons.mpr ⟨mm_pm223, (List.forall_mem_cons.mpr ⟨mm_pm224, (List.forall_mem_cons.mpr ⟨mm_pm225, (List.forall_mem_cons.mpr ⟨mm_pm226, (List.forall_mem_cons.mpr ⟨mm_pm227, (List.forall_mem_cons.mpr ⟨mm_pm228, (List.forall_mem_cons.mpr ⟨mm_pm229, (List.forall_mem_cons.mpr ⟨mm_pm230, (List.forall_mem_cons.mpr ⟨mm_pm231, (List.forall_mem_cons.mpr ⟨mm_pm232, (List.forall_mem_cons.mpr ⟨mm_pm233, (List.forall_mem_cons.mpr ⟨mm_pm234, (List.forall_mem_cons.mpr ⟨mm_pm235, (List.forall_mem_cons.mpr ⟨mm_pm236, (List.forall_mem_cons.mpr ⟨mm_pm237, (List.forall_mem_cons.mpr ⟨mm_pm238, (List.forall_mem_cons.mpr ⟨mm_pm239, (List.forall_mem_cons.mpr ⟨mm_pm240, (fun _ h => absurd h List.not_mem_nil)⟩)⟩)⟩)⟩)⟩)⟩)⟩)⟩)⟩)⟩)⟩)⟩)⟩)⟩)⟩)⟩)⟩)⟩)⟩)⟩)⟩)⟩)⟩)⟩)⟩)⟩)⟩)⟩)⟩)⟩)⟩)⟩)⟩)⟩)⟩)⟩)⟩)⟩)⟩)⟩)⟩)⟩)⟩)⟩)⟩)⟩)⟩)⟩)⟩)⟩)⟩)⟩)⟩)⟩)⟩)⟩)⟩)⟩)⟩)⟩)⟩)⟩)⟩)⟩)⟩)⟩)⟩)⟩)⟩)⟩)⟩)⟩)⟩)⟩)⟩)⟩)⟩)⟩)⟩)⟩)⟩)⟩)⟩)⟩)⟩)⟩)⟩)⟩)⟩)⟩)⟩)⟩)⟩)⟩)⟩)⟩)⟩)⟩)⟩)⟩)⟩)⟩)⟩)⟩)⟩)⟩)⟩)⟩)⟩)⟩)⟩)⟩)⟩)⟩)⟩)⟩)⟩)⟩)⟩)⟩)⟩)⟩)⟩)⟩)⟩)⟩)⟩)⟩)⟩)⟩)⟩)⟩)⟩)⟩)⟩)⟩)⟩)⟩)⟩)⟩)⟩)⟩)⟩)⟩)⟩)⟩)⟩)⟩)⟩)⟩)⟩)⟩)⟩)⟩)⟩)⟩)⟩)⟩)⟩)⟩)⟩)⟩)⟩)⟩)⟩)⟩)⟩)⟩)⟩)⟩)⟩)⟩)⟩)⟩)⟩)⟩)⟩)⟩)⟩)⟩)⟩)⟩)⟩)⟩)⟩)⟩)⟩)⟩)⟩)⟩)⟩)⟩)⟩)⟩)⟩)⟩)⟩)⟩)⟩)⟩)⟩)⟩)⟩)⟩)⟩)⟩)⟩)⟩)⟩)⟩)⟩)⟩)⟩)⟩)⟩)⟩)⟩)⟩)⟩)⟩)⟩)⟩)⟩)⟩)⟩)⟩)⟩)⟩)⟩)⟩)⟩)⟩)⟩)⟩)⟩)⟩)⟩)⟩)⟩)⟩)⟩)
def mm_pkP (z : Nat × Nat × Int) : Prop := Cond.constant (mm_xn z.1) z.2.1 (Int32.ofInt z.2.2) ∈ mm_TW ∧ -2147483648 ≤ z.2.2 ∧ z.2.2 < 2147483648
set_option maxRecDepth 100000 in
theorem mm_pk_ok : ∀ z ∈ mm_pk, mm_pkP z := (List.forall_mem_cons.mpr ⟨⟨(mm_tw5 42 rfl rfl), by decide, by decide⟩, (List.forall_mem_cons.mpr ⟨⟨(mm_tw8 44 rfl rfl), by decide, by decide⟩, (List.forall_mem_cons.mpr ⟨⟨(mm_tw8 159 rfl rfl), by decide, by decide⟩, (fun _ h => absurd h List.not_mem_nil)⟩)⟩)⟩)
def mm_plP (z : Nat × Nat × Int) : Prop := Cond.constantLong (mm_xn z.1) z.2.1 (Int64.ofInt z.2.2) ∈ mm_TW ∧ -9223372036854775808 ≤ z.2.2 ∧ z.2.2 < 9223372036854775808
set_option maxRecDepth 100000 in
theorem mm_pl_ok : ∀ z ∈ mm_pl, mm_plP z := (List.forall_mem_cons.mpr ⟨⟨(mm_tw7 36 rfl rfl), by decide, by decide⟩, (List.forall_mem_cons.mpr ⟨⟨(mm_tw7 37 rfl rfl), by decide, by decide⟩, (fun _ h => absurd h List.not_mem_nil)⟩)⟩)
def mm_qP (q : Nat) : Prop := mm_rok q ∧ Cond.code (mm_y q) (mm_b q) (mm_prog q).2 (mm_r q) ∈ mm_TW ∧ Cond.initialized (mm_y q).cls ∈ mm_TW ∧ (mm_sq q = 1 → Cond.static (mm_y q) ∈ mm_TW) ∧ (mm_sq q = 0 → Cond.instanceMethod (mm_y q) ∈ mm_TW ∧ Cond.selects (mm_y q).cls (mm_y q) (mm_y q) ∈ mm_TW ∧ ∃ r : vw_C, vwCl[mm_xt (mm_xq q) - 10]? = some r ∧ r.1 = (mm_y q).cls ∧ 10 ≤ mm_xt (mm_xq q) ∧ mm_xt (mm_xq q) < 22) ∧
  (mm_y q).cls = mm_xn (mm_xq q) ∧ (mm_prog q).2 ≤ 9 ∧ plainName (mm_y q).cls = true ∧ (mm_y q).cls ≠ "java/lang/invoke/MethodHandle" ∧ (mm_y q).cls ≠ "java/lang/invoke/VarHandle" ∧ (parseMethodDescriptor (mm_y q).desc).map (fun d => d.parameters.length) = some (mm_na q)
set_option maxRecDepth 100000 in
theorem mm_q0 : mm_qP 0 := ⟨mm_rk0, (mm_tw5 62 rfl rfl), (mm_tw1 13 rfl rfl), fun h => absurd h (by decide +kernel), fun _ => ⟨(mm_tw5 60 rfl rfl), (mm_tw5 61 rfl rfl), _, rfl, rfl, Nat.le_of_ble_eq_true rfl, Nat.le_of_ble_eq_true rfl⟩, rfl, Nat.le_of_ble_eq_true rfl, by decide +kernel, by decide +kernel, by decide +kernel, by decide +kernel⟩
set_option maxRecDepth 100000 in
theorem mm_q1 : mm_qP 1 := ⟨mm_rk1, (mm_tw5 67 rfl rfl), (mm_tw1 13 rfl rfl), fun h => absurd h (by decide +kernel), fun _ => ⟨(mm_tw5 66 rfl rfl), (mm_tp 40 (by decide +kernel) rfl), _, rfl, rfl, Nat.le_of_ble_eq_true rfl, Nat.le_of_ble_eq_true rfl⟩, rfl, Nat.le_of_ble_eq_true rfl, by decide +kernel, by decide +kernel, by decide +kernel, by decide +kernel⟩
set_option maxRecDepth 100000 in
theorem mm_q2 : mm_qP 2 := ⟨mm_rk2, (mm_tw5 73 rfl rfl), (mm_tw1 13 rfl rfl), fun _ => (mm_tw5 72 rfl rfl), fun h => absurd h (by decide +kernel), rfl, Nat.le_of_ble_eq_true rfl, by decide +kernel, by decide +kernel, by decide +kernel, by decide +kernel⟩
set_option maxRecDepth 100000 in
theorem mm_q3 : mm_qP 3 := ⟨mm_rk3, (mm_tw5 108 rfl rfl), (mm_tw1 13 rfl rfl), fun _ => (mm_tw5 107 rfl rfl), fun h => absurd h (by decide +kernel), rfl, Nat.le_of_ble_eq_true rfl, by decide +kernel, by decide +kernel, by decide +kernel, by decide +kernel⟩
set_option maxRecDepth 100000 in
theorem mm_q4 : mm_qP 4 := ⟨mm_rk4, (mm_tw5 88 rfl rfl), (mm_tw1 13 rfl rfl), fun h => absurd h (by decide +kernel), fun _ => ⟨(mm_tw5 87 rfl rfl), (mm_tp 41 (by decide +kernel) rfl), _, rfl, rfl, Nat.le_of_ble_eq_true rfl, Nat.le_of_ble_eq_true rfl⟩, rfl, Nat.le_of_ble_eq_true rfl, by decide +kernel, by decide +kernel, by decide +kernel, by decide +kernel⟩
set_option maxRecDepth 100000 in
theorem mm_q5 : mm_qP 5 := ⟨mm_rk5, (mm_tw5 100 rfl rfl), (mm_tw1 13 rfl rfl), fun h => absurd h (by decide +kernel), fun _ => ⟨(mm_tw5 99 rfl rfl), (mm_tp 43 (by decide +kernel) rfl), _, rfl, rfl, Nat.le_of_ble_eq_true rfl, Nat.le_of_ble_eq_true rfl⟩, rfl, Nat.le_of_ble_eq_true rfl, by decide +kernel, by decide +kernel, by decide +kernel, by decide +kernel⟩
set_option maxRecDepth 100000 in
theorem mm_q6 : mm_qP 6 := ⟨mm_rk6, (mm_tw5 94 rfl rfl), (mm_tw1 13 rfl rfl), fun h => absurd h (by decide +kernel), fun _ => ⟨(mm_tw5 93 rfl rfl), (mm_tp 42 (by decide +kernel) rfl), _, rfl, rfl, Nat.le_of_ble_eq_true rfl, Nat.le_of_ble_eq_true rfl⟩, rfl, Nat.le_of_ble_eq_true rfl, by decide +kernel, by decide +kernel, by decide +kernel, by decide +kernel⟩
set_option maxRecDepth 100000 in
theorem mm_q7 : mm_qP 7 := ⟨mm_rk7, (mm_tw5 113 rfl rfl), (mm_tw1 13 rfl rfl), fun h => absurd h (by decide +kernel), fun _ => ⟨(mm_tw5 111 rfl rfl), (mm_tw5 112 rfl rfl), _, rfl, rfl, Nat.le_of_ble_eq_true rfl, Nat.le_of_ble_eq_true rfl⟩, rfl, Nat.le_of_ble_eq_true rfl, by decide +kernel, by decide +kernel, by decide +kernel, by decide +kernel⟩
set_option maxRecDepth 100000 in
theorem mm_q8 : mm_qP 8 := ⟨mm_rk8, (mm_tw5 123 rfl rfl), (mm_tw1 13 rfl rfl), fun h => absurd h (by decide +kernel), fun _ => ⟨(mm_tw5 121 rfl rfl), (mm_tw5 122 rfl rfl), _, rfl, rfl, Nat.le_of_ble_eq_true rfl, Nat.le_of_ble_eq_true rfl⟩, rfl, Nat.le_of_ble_eq_true rfl, by decide +kernel, by decide +kernel, by decide +kernel, by decide +kernel⟩
set_option maxRecDepth 100000 in
theorem mm_q9 : mm_qP 9 := ⟨mm_rk9, (mm_tw4 82 rfl rfl), (mm_tw1 11 rfl rfl), fun h => absurd h (by decide +kernel), fun _ => ⟨(mm_tw4 80 rfl rfl), (mm_tw4 81 rfl rfl), _, rfl, rfl, Nat.le_of_ble_eq_true rfl, Nat.le_of_ble_eq_true rfl⟩, rfl, Nat.le_of_ble_eq_true rfl, by decide +kernel, by decide +kernel, by decide +kernel, by decide +kernel⟩
set_option maxRecDepth 100000 in
theorem mm_q10 : mm_qP 10 := ⟨mm_rk10, (mm_tw4 85 rfl rfl), (mm_tw1 11 rfl rfl), fun _ => (mm_tw4 84 rfl rfl), fun h => absurd h (by decide +kernel), rfl, Nat.le_of_ble_eq_true rfl, by decide +kernel, by decide +kernel, by decide +kernel, by decide +kernel⟩
set_option maxRecDepth 100000 in
theorem mm_q11 : mm_qP 11 := ⟨mm_rk11, (mm_tw4 90 rfl rfl), (mm_tw1 11 rfl rfl), fun _ => (mm_tw4 89 rfl rfl), fun h => absurd h (by decide +kernel), rfl, Nat.le_of_ble_eq_true rfl, by decide +kernel, by decide +kernel, by decide +kernel, by decide +kernel⟩
set_option maxRecDepth 100000 in
theorem mm_q12 : mm_qP 12 := ⟨mm_rk12, (mm_tw4 95 rfl rfl), (mm_tw1 11 rfl rfl), fun h => absurd h (by decide +kernel), fun _ => ⟨(mm_tw4 94 rfl rfl), (mm_tp 26 (by decide +kernel) rfl), _, rfl, rfl, Nat.le_of_ble_eq_true rfl, Nat.le_of_ble_eq_true rfl⟩, rfl, Nat.le_of_ble_eq_true rfl, by decide +kernel, by decide +kernel, by decide +kernel, by decide +kernel⟩
set_option maxRecDepth 100000 in
theorem mm_q13 : mm_qP 13 := ⟨mm_rk13, (mm_tw4 99 rfl rfl), (mm_tw1 11 rfl rfl), fun h => absurd h (by decide +kernel), fun _ => ⟨(mm_tw4 98 rfl rfl), (mm_tp 27 (by decide +kernel) rfl), _, rfl, rfl, Nat.le_of_ble_eq_true rfl, Nat.le_of_ble_eq_true rfl⟩, rfl, Nat.le_of_ble_eq_true rfl, by decide +kernel, by decide +kernel, by decide +kernel, by decide +kernel⟩
set_option maxRecDepth 100000 in
theorem mm_q14 : mm_qP 14 := ⟨mm_rk14, (mm_tw4 103 rfl rfl), (mm_tw1 11 rfl rfl), fun h => absurd h (by decide +kernel), fun _ => ⟨(mm_tw4 102 rfl rfl), (mm_tp 28 (by decide +kernel) rfl), _, rfl, rfl, Nat.le_of_ble_eq_true rfl, Nat.le_of_ble_eq_true rfl⟩, rfl, Nat.le_of_ble_eq_true rfl, by decide +kernel, by decide +kernel, by decide +kernel, by decide +kernel⟩
set_option maxRecDepth 100000 in
theorem mm_q15 : mm_qP 15 := ⟨mm_rk15, (mm_tw3 113 rfl rfl), (mm_tw1 8 rfl rfl), fun h => absurd h (by decide +kernel), fun _ => ⟨(mm_tw3 111 rfl rfl), (mm_tw3 112 rfl rfl), _, rfl, rfl, Nat.le_of_ble_eq_true rfl, Nat.le_of_ble_eq_true rfl⟩, rfl, Nat.le_of_ble_eq_true rfl, by decide +kernel, by decide +kernel, by decide +kernel, by decide +kernel⟩
set_option maxRecDepth 100000 in
theorem mm_q16 : mm_qP 16 := ⟨mm_rk16, (mm_tw3 181 rfl rfl), (mm_tw1 8 rfl rfl), fun h => absurd h (by decide +kernel), fun _ => ⟨(mm_tw3 179 rfl rfl), (mm_tw3 180 rfl rfl), _, rfl, rfl, Nat.le_of_ble_eq_true rfl, Nat.le_of_ble_eq_true rfl⟩, rfl, Nat.le_of_ble_eq_true rfl, by decide +kernel, by decide +kernel, by decide +kernel, by decide +kernel⟩
set_option maxRecDepth 100000 in
theorem mm_q17 : mm_qP 17 := ⟨mm_rk17, (mm_tw3 213 rfl rfl), (mm_tw1 8 rfl rfl), fun h => absurd h (by decide +kernel), fun _ => ⟨(mm_tw3 211 rfl rfl), (mm_tw3 212 rfl rfl), _, rfl, rfl, Nat.le_of_ble_eq_true rfl, Nat.le_of_ble_eq_true rfl⟩, rfl, Nat.le_of_ble_eq_true rfl, by decide +kernel, by decide +kernel, by decide +kernel, by decide +kernel⟩
set_option maxRecDepth 100000 in
theorem mm_q18 : mm_qP 18 := ⟨mm_rk18, (mm_tw3 149 rfl rfl), (mm_tw1 8 rfl rfl), fun h => absurd h (by decide +kernel), fun _ => ⟨(mm_tw3 147 rfl rfl), (mm_tw3 148 rfl rfl), _, rfl, rfl, Nat.le_of_ble_eq_true rfl, Nat.le_of_ble_eq_true rfl⟩, rfl, Nat.le_of_ble_eq_true rfl, by decide +kernel, by decide +kernel, by decide +kernel, by decide +kernel⟩
set_option maxRecDepth 100000 in
theorem mm_q19 : mm_qP 19 := ⟨mm_rk19, (mm_tw3 229 rfl rfl), (mm_tw1 8 rfl rfl), fun h => absurd h (by decide +kernel), fun _ => ⟨(mm_tw3 227 rfl rfl), (mm_tw3 228 rfl rfl), _, rfl, rfl, Nat.le_of_ble_eq_true rfl, Nat.le_of_ble_eq_true rfl⟩, rfl, Nat.le_of_ble_eq_true rfl, by decide +kernel, by decide +kernel, by decide +kernel, by decide +kernel⟩
set_option maxRecDepth 100000 in
theorem mm_q20 : mm_qP 20 := ⟨mm_rk20, (mm_tw3 157 rfl rfl), (mm_tw1 8 rfl rfl), fun h => absurd h (by decide +kernel), fun _ => ⟨(mm_tw3 155 rfl rfl), (mm_tw3 156 rfl rfl), _, rfl, rfl, Nat.le_of_ble_eq_true rfl, Nat.le_of_ble_eq_true rfl⟩, rfl, Nat.le_of_ble_eq_true rfl, by decide +kernel, by decide +kernel, by decide +kernel, by decide +kernel⟩
set_option maxRecDepth 100000 in
theorem mm_q21 : mm_qP 21 := ⟨mm_rk21, (mm_tw3 153 rfl rfl), (mm_tw1 8 rfl rfl), fun h => absurd h (by decide +kernel), fun _ => ⟨(mm_tw3 151 rfl rfl), (mm_tw3 152 rfl rfl), _, rfl, rfl, Nat.le_of_ble_eq_true rfl, Nat.le_of_ble_eq_true rfl⟩, rfl, Nat.le_of_ble_eq_true rfl, by decide +kernel, by decide +kernel, by decide +kernel, by decide +kernel⟩
set_option maxRecDepth 100000 in
theorem mm_q22 : mm_qP 22 := ⟨mm_rk22, (mm_tw3 145 rfl rfl), (mm_tw1 8 rfl rfl), fun h => absurd h (by decide +kernel), fun _ => ⟨(mm_tw3 143 rfl rfl), (mm_tw3 144 rfl rfl), _, rfl, rfl, Nat.le_of_ble_eq_true rfl, Nat.le_of_ble_eq_true rfl⟩, rfl, Nat.le_of_ble_eq_true rfl, by decide +kernel, by decide +kernel, by decide +kernel, by decide +kernel⟩
set_option maxRecDepth 100000 in
theorem mm_q23 : mm_qP 23 := ⟨mm_rk23, (mm_tw5 217 rfl rfl), (mm_tw1 8 rfl rfl), fun h => absurd h (by decide +kernel), fun _ => ⟨(mm_tw5 215 rfl rfl), (mm_tw5 216 rfl rfl), _, rfl, rfl, Nat.le_of_ble_eq_true rfl, Nat.le_of_ble_eq_true rfl⟩, rfl, Nat.le_of_ble_eq_true rfl, by decide +kernel, by decide +kernel, by decide +kernel, by decide +kernel⟩
set_option maxRecDepth 100000 in
theorem mm_q24 : mm_qP 24 := ⟨mm_rk24, (mm_tw4 57 rfl rfl), (mm_tw1 8 rfl rfl), fun h => absurd h (by decide +kernel), fun _ => ⟨(mm_tw4 55 rfl rfl), (mm_tw4 56 rfl rfl), _, rfl, rfl, Nat.le_of_ble_eq_true rfl, Nat.le_of_ble_eq_true rfl⟩, rfl, Nat.le_of_ble_eq_true rfl, by decide +kernel, by decide +kernel, by decide +kernel, by decide +kernel⟩
set_option maxRecDepth 100000 in
theorem mm_q25 : mm_qP 25 := ⟨mm_rk25, (mm_tw3 221 rfl rfl), (mm_tw1 8 rfl rfl), fun h => absurd h (by decide +kernel), fun _ => ⟨(mm_tw3 220 rfl rfl), (mm_tp 21 (by decide +kernel) rfl), _, rfl, rfl, Nat.le_of_ble_eq_true rfl, Nat.le_of_ble_eq_true rfl⟩, rfl, Nat.le_of_ble_eq_true rfl, by decide +kernel, by decide +kernel, by decide +kernel, by decide +kernel⟩
set_option maxRecDepth 100000 in
theorem mm_q26 : mm_qP 26 := ⟨mm_rk26, (mm_tw3 186 rfl rfl), (mm_tw1 8 rfl rfl), fun h => absurd h (by decide +kernel), fun _ => ⟨(mm_tw3 184 rfl rfl), (mm_tw3 185 rfl rfl), _, rfl, rfl, Nat.le_of_ble_eq_true rfl, Nat.le_of_ble_eq_true rfl⟩, rfl, Nat.le_of_ble_eq_true rfl, by decide +kernel, by decide +kernel, by decide +kernel, by decide +kernel⟩
set_option maxRecDepth 100000 in
theorem mm_q27 : mm_qP 27 := ⟨mm_rk27, (mm_tw3 190 rfl rfl), (mm_tw1 8 rfl rfl), fun h => absurd h (by decide +kernel), fun _ => ⟨(mm_tw3 189 rfl rfl), (mm_tp 15 (by decide +kernel) rfl), _, rfl, rfl, Nat.le_of_ble_eq_true rfl, Nat.le_of_ble_eq_true rfl⟩, rfl, Nat.le_of_ble_eq_true rfl, by decide +kernel, by decide +kernel, by decide +kernel, by decide +kernel⟩
set_option maxRecDepth 100000 in
theorem mm_q28 : mm_qP 28 := ⟨mm_rk28, (mm_tw3 197 rfl rfl), (mm_tw1 8 rfl rfl), fun h => absurd h (by decide +kernel), fun _ => ⟨(mm_tw3 196 rfl rfl), (mm_tp 16 (by decide +kernel) rfl), _, rfl, rfl, Nat.le_of_ble_eq_true rfl, Nat.le_of_ble_eq_true rfl⟩, rfl, Nat.le_of_ble_eq_true rfl, by decide +kernel, by decide +kernel, by decide +kernel, by decide +kernel⟩
set_option maxRecDepth 100000 in
theorem mm_q29 : mm_qP 29 := ⟨mm_rk29, (mm_tw3 201 rfl rfl), (mm_tw1 8 rfl rfl), fun h => absurd h (by decide +kernel), fun _ => ⟨(mm_tw3 200 rfl rfl), (mm_tp 17 (by decide +kernel) rfl), _, rfl, rfl, Nat.le_of_ble_eq_true rfl, Nat.le_of_ble_eq_true rfl⟩, rfl, Nat.le_of_ble_eq_true rfl, by decide +kernel, by decide +kernel, by decide +kernel, by decide +kernel⟩
set_option maxRecDepth 100000 in
theorem mm_q30 : mm_qP 30 := ⟨mm_rk30, (mm_tw3 205 rfl rfl), (mm_tw1 8 rfl rfl), fun h => absurd h (by decide +kernel), fun _ => ⟨(mm_tw3 204 rfl rfl), (mm_tp 18 (by decide +kernel) rfl), _, rfl, rfl, Nat.le_of_ble_eq_true rfl, Nat.le_of_ble_eq_true rfl⟩, rfl, Nat.le_of_ble_eq_true rfl, by decide +kernel, by decide +kernel, by decide +kernel, by decide +kernel⟩
set_option maxRecDepth 100000 in
theorem mm_q31 : mm_qP 31 := ⟨mm_rk31, (mm_tw3 209 rfl rfl), (mm_tw1 8 rfl rfl), fun h => absurd h (by decide +kernel), fun _ => ⟨(mm_tw3 208 rfl rfl), (mm_tp 19 (by decide +kernel) rfl), _, rfl, rfl, Nat.le_of_ble_eq_true rfl, Nat.le_of_ble_eq_true rfl⟩, rfl, Nat.le_of_ble_eq_true rfl, by decide +kernel, by decide +kernel, by decide +kernel, by decide +kernel⟩
set_option maxRecDepth 100000 in
theorem mm_q32 : mm_qP 32 := ⟨mm_rk32, (mm_tw3 217 rfl rfl), (mm_tw1 8 rfl rfl), fun h => absurd h (by decide +kernel), fun _ => ⟨(mm_tw3 216 rfl rfl), (mm_tp 20 (by decide +kernel) rfl), _, rfl, rfl, Nat.le_of_ble_eq_true rfl, Nat.le_of_ble_eq_true rfl⟩, rfl, Nat.le_of_ble_eq_true rfl, by decide +kernel, by decide +kernel, by decide +kernel, by decide +kernel⟩
set_option maxRecDepth 100000 in
theorem mm_q33 : mm_qP 33 := ⟨mm_rk33, (mm_tw3 225 rfl rfl), (mm_tw1 8 rfl rfl), fun h => absurd h (by decide +kernel), fun _ => ⟨(mm_tw3 224 rfl rfl), (mm_tp 22 (by decide +kernel) rfl), _, rfl, rfl, Nat.le_of_ble_eq_true rfl, Nat.le_of_ble_eq_true rfl⟩, rfl, Nat.le_of_ble_eq_true rfl, by decide +kernel, by decide +kernel, by decide +kernel, by decide +kernel⟩
set_option maxRecDepth 100000 in
theorem mm_q34 : mm_qP 34 := ⟨mm_rk34, (mm_tw3 233 rfl rfl), (mm_tw1 8 rfl rfl), fun h => absurd h (by decide +kernel), fun _ => ⟨(mm_tw3 232 rfl rfl), (mm_tp 23 (by decide +kernel) rfl), _, rfl, rfl, Nat.le_of_ble_eq_true rfl, Nat.le_of_ble_eq_true rfl⟩, rfl, Nat.le_of_ble_eq_true rfl, by decide +kernel, by decide +kernel, by decide +kernel, by decide +kernel⟩
set_option maxRecDepth 100000 in
theorem mm_q35 : mm_qP 35 := ⟨mm_rk35, (mm_tw3 237 rfl rfl), (mm_tw1 8 rfl rfl), fun h => absurd h (by decide +kernel), fun _ => ⟨(mm_tw3 236 rfl rfl), (mm_tp 24 (by decide +kernel) rfl), _, rfl, rfl, Nat.le_of_ble_eq_true rfl, Nat.le_of_ble_eq_true rfl⟩, rfl, Nat.le_of_ble_eq_true rfl, by decide +kernel, by decide +kernel, by decide +kernel, by decide +kernel⟩
set_option maxRecDepth 100000 in
theorem mm_q36 : mm_qP 36 := ⟨mm_rk36, (mm_tw4 69 rfl rfl), (mm_tw1 8 rfl rfl), fun h => absurd h (by decide +kernel), fun _ => ⟨(mm_tw4 67 rfl rfl), (mm_tw4 68 rfl rfl), _, rfl, rfl, Nat.le_of_ble_eq_true rfl, Nat.le_of_ble_eq_true rfl⟩, rfl, Nat.le_of_ble_eq_true rfl, by decide +kernel, by decide +kernel, by decide +kernel, by decide +kernel⟩
set_option maxRecDepth 100000 in
theorem mm_q37 : mm_qP 37 := ⟨mm_rk37, (mm_tw4 161 rfl rfl), (mm_tw1 8 rfl rfl), fun h => absurd h (by decide +kernel), fun _ => ⟨(mm_tw4 159 rfl rfl), (mm_tw4 160 rfl rfl), _, rfl, rfl, Nat.le_of_ble_eq_true rfl, Nat.le_of_ble_eq_true rfl⟩, rfl, Nat.le_of_ble_eq_true rfl, by decide +kernel, by decide +kernel, by decide +kernel, by decide +kernel⟩
set_option maxRecDepth 100000 in
theorem mm_q38 : mm_qP 38 := ⟨mm_rk38, (mm_tw5 34 rfl rfl), (mm_tw1 8 rfl rfl), fun h => absurd h (by decide +kernel), fun _ => ⟨(mm_tw5 32 rfl rfl), (mm_tw5 33 rfl rfl), _, rfl, rfl, Nat.le_of_ble_eq_true rfl, Nat.le_of_ble_eq_true rfl⟩, rfl, Nat.le_of_ble_eq_true rfl, by decide +kernel, by decide +kernel, by decide +kernel, by decide +kernel⟩
set_option maxRecDepth 100000 in
theorem mm_q39 : mm_qP 39 := ⟨mm_rk39, (mm_tw5 38 rfl rfl), (mm_tw1 8 rfl rfl), fun h => absurd h (by decide +kernel), fun _ => ⟨(mm_tw5 37 rfl rfl), (mm_tp 38 (by decide +kernel) rfl), _, rfl, rfl, Nat.le_of_ble_eq_true rfl, Nat.le_of_ble_eq_true rfl⟩, rfl, Nat.le_of_ble_eq_true rfl, by decide +kernel, by decide +kernel, by decide +kernel, by decide +kernel⟩
set_option maxRecDepth 100000 in
theorem mm_q40 : mm_qP 40 := ⟨mm_rk40, (mm_tw5 50 rfl rfl), (mm_tw1 8 rfl rfl), fun h => absurd h (by decide +kernel), fun _ => ⟨(mm_tw5 49 rfl rfl), (mm_tp 39 (by decide +kernel) rfl), _, rfl, rfl, Nat.le_of_ble_eq_true rfl, Nat.le_of_ble_eq_true rfl⟩, rfl, Nat.le_of_ble_eq_true rfl, by decide +kernel, by decide +kernel, by decide +kernel, by decide +kernel⟩
set_option maxRecDepth 100000 in
theorem mm_q41 : mm_qP 41 := ⟨mm_rk41, (mm_tw5 41 rfl rfl), (mm_tw1 8 rfl rfl), fun _ => (mm_tw5 40 rfl rfl), fun h => absurd h (by decide +kernel), rfl, Nat.le_of_ble_eq_true rfl, by decide +kernel, by decide +kernel, by decide +kernel, by decide +kernel⟩
set_option maxRecDepth 100000 in
theorem mm_q42 : mm_qP 42 := ⟨mm_rk42, (mm_tw5 45 rfl rfl), (mm_tw1 8 rfl rfl), fun _ => (mm_tw5 44 rfl rfl), fun h => absurd h (by decide +kernel), rfl, Nat.le_of_ble_eq_true rfl, by decide +kernel, by decide +kernel, by decide +kernel, by decide +kernel⟩
set_option maxRecDepth 100000 in
theorem mm_q43 : mm_qP 43 := ⟨mm_rk43, (mm_tw4 169 rfl rfl), (mm_tw1 8 rfl rfl), fun h => absurd h (by decide +kernel), fun _ => ⟨(mm_tw4 167 rfl rfl), (mm_tw4 168 rfl rfl), _, rfl, rfl, Nat.le_of_ble_eq_true rfl, Nat.le_of_ble_eq_true rfl⟩, rfl, Nat.le_of_ble_eq_true rfl, by decide +kernel, by decide +kernel, by decide +kernel, by decide +kernel⟩
set_option maxRecDepth 100000 in
theorem mm_q44 : mm_qP 44 := ⟨mm_rk44, (mm_tw4 173 rfl rfl), (mm_tw1 8 rfl rfl), fun h => absurd h (by decide +kernel), fun _ => ⟨(mm_tw4 172 rfl rfl), (mm_tp 32 (by decide +kernel) rfl), _, rfl, rfl, Nat.le_of_ble_eq_true rfl, Nat.le_of_ble_eq_true rfl⟩, rfl, Nat.le_of_ble_eq_true rfl, by decide +kernel, by decide +kernel, by decide +kernel, by decide +kernel⟩
set_option maxRecDepth 100000 in
theorem mm_q45 : mm_qP 45 := ⟨mm_rk45, (mm_tw4 177 rfl rfl), (mm_tw1 8 rfl rfl), fun h => absurd h (by decide +kernel), fun _ => ⟨(mm_tw4 176 rfl rfl), (mm_tp 33 (by decide +kernel) rfl), _, rfl, rfl, Nat.le_of_ble_eq_true rfl, Nat.le_of_ble_eq_true rfl⟩, rfl, Nat.le_of_ble_eq_true rfl, by decide +kernel, by decide +kernel, by decide +kernel, by decide +kernel⟩
set_option maxRecDepth 100000 in
theorem mm_q46 : mm_qP 46 := ⟨mm_rk46, (mm_tw3 129 rfl rfl), (mm_tw1 10 rfl rfl), fun h => absurd h (by decide +kernel), fun _ => ⟨(mm_tw3 127 rfl rfl), (mm_tw3 128 rfl rfl), _, rfl, rfl, Nat.le_of_ble_eq_true rfl, Nat.le_of_ble_eq_true rfl⟩, rfl, Nat.le_of_ble_eq_true rfl, by decide +kernel, by decide +kernel, by decide +kernel, by decide +kernel⟩
set_option maxRecDepth 100000 in
theorem mm_q47 : mm_qP 47 := ⟨mm_rk47, (mm_tw4 12 rfl rfl), (mm_tw1 10 rfl rfl), fun h => absurd h (by decide +kernel), fun _ => ⟨(mm_tw4 10 rfl rfl), (mm_tw4 11 rfl rfl), _, rfl, rfl, Nat.le_of_ble_eq_true rfl, Nat.le_of_ble_eq_true rfl⟩, rfl, Nat.le_of_ble_eq_true rfl, by decide +kernel, by decide +kernel, by decide +kernel, by decide +kernel⟩
set_option maxRecDepth 100000 in
theorem mm_q48 : mm_qP 48 := ⟨mm_rk48, (mm_tw4 49 rfl rfl), (mm_tw1 10 rfl rfl), fun h => absurd h (by decide +kernel), fun _ => ⟨(mm_tw4 47 rfl rfl), (mm_tw4 48 rfl rfl), _, rfl, rfl, Nat.le_of_ble_eq_true rfl, Nat.le_of_ble_eq_true rfl⟩, rfl, Nat.le_of_ble_eq_true rfl, by decide +kernel, by decide +kernel, by decide +kernel, by decide +kernel⟩
set_option maxRecDepth 100000 in
theorem mm_q49 : mm_qP 49 := ⟨mm_rk49, (mm_tw2 233 rfl rfl), (mm_tw1 6 rfl rfl), fun h => absurd h (by decide +kernel), fun _ => ⟨(mm_tw2 231 rfl rfl), (mm_tw2 232 rfl rfl), _, rfl, rfl, Nat.le_of_ble_eq_true rfl, Nat.le_of_ble_eq_true rfl⟩, rfl, Nat.le_of_ble_eq_true rfl, by decide +kernel, by decide +kernel, by decide +kernel, by decide +kernel⟩
set_option maxRecDepth 100000 in
theorem mm_q50 : mm_qP 50 := ⟨mm_rk50, (mm_tw3 106 rfl rfl), (mm_tw1 6 rfl rfl), fun h => absurd h (by decide +kernel), fun _ => ⟨(mm_tw3 104 rfl rfl), (mm_tw3 105 rfl rfl), _, rfl, rfl, Nat.le_of_ble_eq_true rfl, Nat.le_of_ble_eq_true rfl⟩, rfl, Nat.le_of_ble_eq_true rfl, by decide +kernel, by decide +kernel, by decide +kernel, by decide +kernel⟩
set_option maxRecDepth 100000 in
theorem mm_q51 : mm_qP 51 := ⟨mm_rk51, (mm_tw3 141 rfl rfl), (mm_tw1 6 rfl rfl), fun h => absurd h (by decide +kernel), fun _ => ⟨(mm_tw3 139 rfl rfl), (mm_tw3 140 rfl rfl), _, rfl, rfl, Nat.le_of_ble_eq_true rfl, Nat.le_of_ble_eq_true rfl⟩, rfl, Nat.le_of_ble_eq_true rfl, by decide +kernel, by decide +kernel, by decide +kernel, by decide +kernel⟩
set_option maxRecDepth 100000 in
theorem mm_q52 : mm_qP 52 := ⟨mm_rk52, (mm_tw3 38 rfl rfl), (mm_tw1 6 rfl rfl), fun h => absurd h (by decide +kernel), fun _ => ⟨(mm_tw3 36 rfl rfl), (mm_tw3 37 rfl rfl), _, rfl, rfl, Nat.le_of_ble_eq_true rfl, Nat.le_of_ble_eq_true rfl⟩, rfl, Nat.le_of_ble_eq_true rfl, by decide +kernel, by decide +kernel, by decide +kernel, by decide +kernel⟩
set_option maxRecDepth 100000 in
theorem mm_q53 : mm_qP 53 := ⟨mm_rk53, (mm_tw4 134 rfl rfl), (mm_tw1 6 rfl rfl), fun h => absurd h (by decide +kernel), fun _ => ⟨(mm_tw4 132 rfl rfl), (mm_tw4 133 rfl rfl), _, rfl, rfl, Nat.le_of_ble_eq_true rfl, Nat.le_of_ble_eq_true rfl⟩, rfl, Nat.le_of_ble_eq_true rfl, by decide +kernel, by decide +kernel, by decide +kernel, by decide +kernel⟩
set_option maxRecDepth 100000 in
theorem mm_q54 : mm_qP 54 := ⟨mm_rk54, (mm_tw3 121 rfl rfl), (mm_tw1 6 rfl rfl), fun h => absurd h (by decide +kernel), fun _ => ⟨(mm_tw3 119 rfl rfl), (mm_tw3 120 rfl rfl), _, rfl, rfl, Nat.le_of_ble_eq_true rfl, Nat.le_of_ble_eq_true rfl⟩, rfl, Nat.le_of_ble_eq_true rfl, by decide +kernel, by decide +kernel, by decide +kernel, by decide +kernel⟩
set_option maxRecDepth 100000 in
theorem mm_q55 : mm_qP 55 := ⟨mm_rk55, (mm_tw3 117 rfl rfl), (mm_tw1 6 rfl rfl), fun h => absurd h (by decide +kernel), fun _ => ⟨(mm_tw3 115 rfl rfl), (mm_tw3 116 rfl rfl), _, rfl, rfl, Nat.le_of_ble_eq_true rfl, Nat.le_of_ble_eq_true rfl⟩, rfl, Nat.le_of_ble_eq_true rfl, by decide +kernel, by decide +kernel, by decide +kernel, by decide +kernel⟩
set_option maxRecDepth 100000 in
theorem mm_q56 : mm_qP 56 := ⟨mm_rk56, (mm_tw3 53 rfl rfl), (mm_tw1 6 rfl rfl), fun h => absurd h (by decide +kernel), fun _ => ⟨(mm_tw3 51 rfl rfl), (mm_tw3 52 rfl rfl), _, rfl, rfl, Nat.le_of_ble_eq_true rfl, Nat.le_of_ble_eq_true rfl⟩, rfl, Nat.le_of_ble_eq_true rfl, by decide +kernel, by decide +kernel, by decide +kernel, by decide +kernel⟩
set_option maxRecDepth 100000 in
theorem mm_q57 : mm_qP 57 := ⟨mm_rk57, (mm_tw4 193 rfl rfl), (mm_tw1 6 rfl rfl), fun h => absurd h (by decide +kernel), fun _ => ⟨(mm_tw4 191 rfl rfl), (mm_tw4 192 rfl rfl), _, rfl, rfl, Nat.le_of_ble_eq_true rfl, Nat.le_of_ble_eq_true rfl⟩, rfl, Nat.le_of_ble_eq_true rfl, by decide +kernel, by decide +kernel, by decide +kernel, by decide +kernel⟩
set_option maxRecDepth 100000 in
theorem mm_q58 : mm_qP 58 := ⟨mm_rk58, (mm_tw3 49 rfl rfl), (mm_tw1 6 rfl rfl), fun h => absurd h (by decide +kernel), fun _ => ⟨(mm_tw3 47 rfl rfl), (mm_tw3 48 rfl rfl), _, rfl, rfl, Nat.le_of_ble_eq_true rfl, Nat.le_of_ble_eq_true rfl⟩, rfl, Nat.le_of_ble_eq_true rfl, by decide +kernel, by decide +kernel, by decide +kernel, by decide +kernel⟩
set_option maxRecDepth 100000 in
theorem mm_q59 : mm_qP 59 := ⟨mm_rk59, (mm_tw3 45 rfl rfl), (mm_tw1 6 rfl rfl), fun h => absurd h (by decide +kernel), fun _ => ⟨(mm_tw3 43 rfl rfl), (mm_tw3 44 rfl rfl), _, rfl, rfl, Nat.le_of_ble_eq_true rfl, Nat.le_of_ble_eq_true rfl⟩, rfl, Nat.le_of_ble_eq_true rfl, by decide +kernel, by decide +kernel, by decide +kernel, by decide +kernel⟩
set_option maxRecDepth 100000 in
theorem mm_q60 : mm_qP 60 := ⟨mm_rk60, (mm_tw4 1 rfl rfl), (mm_tw1 6 rfl rfl), fun h => absurd h (by decide +kernel), fun _ => ⟨(mm_tw3 239 rfl rfl), (mm_tw4 0 rfl rfl), _, rfl, rfl, Nat.le_of_ble_eq_true rfl, Nat.le_of_ble_eq_true rfl⟩, rfl, Nat.le_of_ble_eq_true rfl, by decide +kernel, by decide +kernel, by decide +kernel, by decide +kernel⟩
set_option maxRecDepth 100000 in
theorem mm_q61 : mm_qP 61 := ⟨mm_rk61, (mm_tw4 126 rfl rfl), (mm_tw1 12 rfl rfl), fun h => absurd h (by decide +kernel), fun _ => ⟨(mm_tw4 124 rfl rfl), (mm_tw4 125 rfl rfl), _, rfl, rfl, Nat.le_of_ble_eq_true rfl, Nat.le_of_ble_eq_true rfl⟩, rfl, Nat.le_of_ble_eq_true rfl, by decide +kernel, by decide +kernel, by decide +kernel, by decide +kernel⟩
set_option maxRecDepth 100000 in
theorem mm_q62 : mm_qP 62 := ⟨mm_rk62, (mm_tw4 130 rfl rfl), (mm_tw1 12 rfl rfl), fun h => absurd h (by decide +kernel), fun _ => ⟨(mm_tw4 129 rfl rfl), (mm_tp 29 (by decide +kernel) rfl), _, rfl, rfl, Nat.le_of_ble_eq_true rfl, Nat.le_of_ble_eq_true rfl⟩, rfl, Nat.le_of_ble_eq_true rfl, by decide +kernel, by decide +kernel, by decide +kernel, by decide +kernel⟩
set_option maxRecDepth 100000 in
theorem mm_q63 : mm_qP 63 := ⟨mm_rk63, (mm_tw4 138 rfl rfl), (mm_tw1 12 rfl rfl), fun h => absurd h (by decide +kernel), fun _ => ⟨(mm_tw4 137 rfl rfl), (mm_tp 30 (by decide +kernel) rfl), _, rfl, rfl, Nat.le_of_ble_eq_true rfl, Nat.le_of_ble_eq_true rfl⟩, rfl, Nat.le_of_ble_eq_true rfl, by decide +kernel, by decide +kernel, by decide +kernel, by decide +kernel⟩
set_option maxRecDepth 100000 in
theorem mm_q64 : mm_qP 64 := ⟨mm_rk64, (mm_tw4 142 rfl rfl), (mm_tw1 12 rfl rfl), fun h => absurd h (by decide +kernel), fun _ => ⟨(mm_tw4 141 rfl rfl), (mm_tp 31 (by decide +kernel) rfl), _, rfl, rfl, Nat.le_of_ble_eq_true rfl, Nat.le_of_ble_eq_true rfl⟩, rfl, Nat.le_of_ble_eq_true rfl, by decide +kernel, by decide +kernel, by decide +kernel, by decide +kernel⟩
set_option maxRecDepth 100000 in
theorem mm_q65 : mm_qP 65 := ⟨mm_rk65, (mm_tw3 102 rfl rfl), (mm_tw1 7 rfl rfl), fun h => absurd h (by decide +kernel), fun _ => ⟨(mm_tw3 100 rfl rfl), (mm_tw3 101 rfl rfl), _, rfl, rfl, Nat.le_of_ble_eq_true rfl, Nat.le_of_ble_eq_true rfl⟩, rfl, Nat.le_of_ble_eq_true rfl, by decide +kernel, by decide +kernel, by decide +kernel, by decide +kernel⟩
set_option maxRecDepth 100000 in
theorem mm_q66 : mm_qP 66 := ⟨mm_rk66, (mm_tw5 232 rfl rfl), (mm_tw1 7 rfl rfl), fun h => absurd h (by decide +kernel), fun _ => ⟨(mm_tw5 230 rfl rfl), (mm_tw5 231 rfl rfl), _, rfl, rfl, Nat.le_of_ble_eq_true rfl, Nat.le_of_ble_eq_true rfl⟩, rfl, Nat.le_of_ble_eq_true rfl, by decide +kernel, by decide +kernel, by decide +kernel, by decide +kernel⟩
set_option maxRecDepth 100000 in
theorem mm_q67 : mm_qP 67 := ⟨mm_rk67, (mm_tw3 125 rfl rfl), (mm_tw1 9 rfl rfl), fun h => absurd h (by decide +kernel), fun _ => ⟨(mm_tw3 123 rfl rfl), (mm_tw3 124 rfl rfl), _, rfl, rfl, Nat.le_of_ble_eq_true rfl, Nat.le_of_ble_eq_true rfl⟩, rfl, Nat.le_of_ble_eq_true rfl, by decide +kernel, by decide +kernel, by decide +kernel, by decide +kernel⟩
set_option maxRecDepth 100000 in
theorem mm_q68 : mm_qP 68 := ⟨mm_rk68, (mm_tw5 204 rfl rfl), (mm_tw1 9 rfl rfl), fun h => absurd h (by decide +kernel), fun _ => ⟨(mm_tw5 202 rfl rfl), (mm_tw5 203 rfl rfl), _, rfl, rfl, Nat.le_of_ble_eq_true rfl, Nat.le_of_ble_eq_true rfl⟩, rfl, Nat.le_of_ble_eq_true rfl, by decide +kernel, by decide +kernel, by decide +kernel, by decide +kernel⟩
set_option maxRecDepth 100000 in
theorem mm_q69 : mm_qP 69 := ⟨mm_rk69, (mm_tw5 196 rfl rfl), (mm_tw1 9 rfl rfl), fun h => absurd h (by decide +kernel), fun _ => ⟨(mm_tw5 194 rfl rfl), (mm_tw5 195 rfl rfl), _, rfl, rfl, Nat.le_of_ble_eq_true rfl, Nat.le_of_ble_eq_true rfl⟩, rfl, Nat.le_of_ble_eq_true rfl, by decide +kernel, by decide +kernel, by decide +kernel, by decide +kernel⟩
set_option maxRecDepth 100000 in
theorem mm_q70 : mm_qP 70 := ⟨mm_rk70, (mm_tw5 131 rfl rfl), (mm_tw1 9 rfl rfl), fun h => absurd h (by decide +kernel), fun _ => ⟨(mm_tw5 129 rfl rfl), (mm_tw5 130 rfl rfl), _, rfl, rfl, Nat.le_of_ble_eq_true rfl, Nat.le_of_ble_eq_true rfl⟩, rfl, Nat.le_of_ble_eq_true rfl, by decide +kernel, by decide +kernel, by decide +kernel, by decide +kernel⟩
set_option maxRecDepth 100000 in
theorem mm_q71 : mm_qP 71 := ⟨mm_rk71, (mm_tw5 136 rfl rfl), (mm_tw1 9 rfl rfl), fun h => absurd h (by decide +kernel), fun _ => ⟨(mm_tw5 135 rfl rfl), (mm_tp 44 (by decide +kernel) rfl), _, rfl, rfl, Nat.le_of_ble_eq_true rfl, Nat.le_of_ble_eq_true rfl⟩, rfl, Nat.le_of_ble_eq_true rfl, by decide +kernel, by decide +kernel, by decide +kernel, by decide +kernel⟩
set_option maxRecDepth 100000 in
theorem mm_q72 : mm_qP 72 := ⟨mm_rk72, (mm_tw5 140 rfl rfl), (mm_tw1 9 rfl rfl), fun h => absurd h (by decide +kernel), fun _ => ⟨(mm_tw5 139 rfl rfl), (mm_tp 45 (by decide +kernel) rfl), _, rfl, rfl, Nat.le_of_ble_eq_true rfl, Nat.le_of_ble_eq_true rfl⟩, rfl, Nat.le_of_ble_eq_true rfl, by decide +kernel, by decide +kernel, by decide +kernel, by decide +kernel⟩
set_option maxRecDepth 100000 in
theorem mm_q73 : mm_qP 73 := ⟨mm_rk73, (mm_tw5 144 rfl rfl), (mm_tw1 9 rfl rfl), fun h => absurd h (by decide +kernel), fun _ => ⟨(mm_tw5 143 rfl rfl), (mm_tp 46 (by decide +kernel) rfl), _, rfl, rfl, Nat.le_of_ble_eq_true rfl, Nat.le_of_ble_eq_true rfl⟩, rfl, Nat.le_of_ble_eq_true rfl, by decide +kernel, by decide +kernel, by decide +kernel, by decide +kernel⟩
set_option maxRecDepth 100000 in
theorem mm_q74 : mm_qP 74 := ⟨mm_rk74, (mm_tw5 147 rfl rfl), (mm_tw1 9 rfl rfl), fun _ => (mm_tw5 146 rfl rfl), fun h => absurd h (by decide +kernel), rfl, Nat.le_of_ble_eq_true rfl, by decide +kernel, by decide +kernel, by decide +kernel, by decide +kernel⟩
set_option maxRecDepth 100000 in
theorem mm_q75 : mm_qP 75 := ⟨mm_rk75, (mm_tw5 180 rfl rfl), (mm_tw1 9 rfl rfl), fun h => absurd h (by decide +kernel), fun _ => ⟨(mm_tw5 179 rfl rfl), (mm_tp 48 (by decide +kernel) rfl), _, rfl, rfl, Nat.le_of_ble_eq_true rfl, Nat.le_of_ble_eq_true rfl⟩, rfl, Nat.le_of_ble_eq_true rfl, by decide +kernel, by decide +kernel, by decide +kernel, by decide +kernel⟩
set_option maxRecDepth 100000 in
theorem mm_q76 : mm_qP 76 := ⟨mm_rk76, (mm_tw5 172 rfl rfl), (mm_tw1 9 rfl rfl), fun h => absurd h (by decide +kernel), fun _ => ⟨(mm_tw5 171 rfl rfl), (mm_tp 47 (by decide +kernel) rfl), _, rfl, rfl, Nat.le_of_ble_eq_true rfl, Nat.le_of_ble_eq_true rfl⟩, rfl, Nat.le_of_ble_eq_true rfl, by decide +kernel, by decide +kernel, by decide +kernel, by decide +kernel⟩
set_option maxRecDepth 100000 in
theorem mm_q77 : mm_qP 77 := ⟨mm_rk77, (mm_tw5 208 rfl rfl), (mm_tw1 9 rfl rfl), fun h => absurd h (by decide +kernel), fun _ => ⟨(mm_tw5 206 rfl rfl), (mm_tw5 207 rfl rfl), _, rfl, rfl, Nat.le_of_ble_eq_true rfl, Nat.le_of_ble_eq_true rfl⟩, rfl, Nat.le_of_ble_eq_true rfl, by decide +kernel, by decide +kernel, by decide +kernel, by decide +kernel⟩
set_option maxRecDepth 100000 in
theorem mm_q78 : mm_qP 78 := ⟨mm_rk78, (mm_tw5 212 rfl rfl), (mm_tw1 9 rfl rfl), fun h => absurd h (by decide +kernel), fun _ => ⟨(mm_tw5 211 rfl rfl), (mm_tp 49 (by decide +kernel) rfl), _, rfl, rfl, Nat.le_of_ble_eq_true rfl, Nat.le_of_ble_eq_true rfl⟩, rfl, Nat.le_of_ble_eq_true rfl, by decide +kernel, by decide +kernel, by decide +kernel, by decide +kernel⟩
set_option maxRecDepth 100000 in
theorem mm_q79 : mm_qP 79 := ⟨mm_rk79, (mm_tw5 221 rfl rfl), (mm_tw1 9 rfl rfl), fun _ => (mm_tw5 220 rfl rfl), fun h => absurd h (by decide +kernel), rfl, Nat.le_of_ble_eq_true rfl, by decide +kernel, by decide +kernel, by decide +kernel, by decide +kernel⟩
set_option maxRecDepth 100000 in
theorem mm_q80 : mm_qP 80 := ⟨mm_rk80, (mm_tw5 224 rfl rfl), (mm_tw1 9 rfl rfl), fun _ => (mm_tw5 223 rfl rfl), fun h => absurd h (by decide +kernel), rfl, Nat.le_of_ble_eq_true rfl, by decide +kernel, by decide +kernel, by decide +kernel, by decide +kernel⟩
set_option maxRecDepth 100000 in
theorem mm_q81 : mm_qP 81 := ⟨mm_rk81, (mm_tw2 178 rfl rfl), (mm_tw1 2 rfl rfl), fun h => absurd h (by decide +kernel), fun _ => ⟨(mm_tw2 176 rfl rfl), (mm_tw2 177 rfl rfl), _, rfl, rfl, Nat.le_of_ble_eq_true rfl, Nat.le_of_ble_eq_true rfl⟩, rfl, Nat.le_of_ble_eq_true rfl, by decide +kernel, by decide +kernel, by decide +kernel, by decide +kernel⟩
set_option maxRecDepth 100000 in
theorem mm_q82 : mm_qP 82 := ⟨mm_rk82, (mm_tw2 208 rfl rfl), (mm_tw1 2 rfl rfl), fun h => absurd h (by decide +kernel), fun _ => ⟨(mm_tw2 206 rfl rfl), (mm_tw2 207 rfl rfl), _, rfl, rfl, Nat.le_of_ble_eq_true rfl, Nat.le_of_ble_eq_true rfl⟩, rfl, Nat.le_of_ble_eq_true rfl, by decide +kernel, by decide +kernel, by decide +kernel, by decide +kernel⟩
set_option maxRecDepth 100000 in
theorem mm_q83 : mm_qP 83 := ⟨mm_rk83, (mm_tw2 190 rfl rfl), (mm_tw1 2 rfl rfl), fun h => absurd h (by decide +kernel), fun _ => ⟨(mm_tw2 188 rfl rfl), (mm_tw2 189 rfl rfl), _, rfl, rfl, Nat.le_of_ble_eq_true rfl, Nat.le_of_ble_eq_true rfl⟩, rfl, Nat.le_of_ble_eq_true rfl, by decide +kernel, by decide +kernel, by decide +kernel, by decide +kernel⟩
set_option maxRecDepth 100000 in
theorem mm_q84 : mm_qP 84 := ⟨mm_rk84, (mm_tw2 194 rfl rfl), (mm_tw1 2 rfl rfl), fun h => absurd h (by decide +kernel), fun _ => ⟨(mm_tw2 192 rfl rfl), (mm_tw2 193 rfl rfl), _, rfl, rfl, Nat.le_of_ble_eq_true rfl, Nat.le_of_ble_eq_true rfl⟩, rfl, Nat.le_of_ble_eq_true rfl, by decide +kernel, by decide +kernel, by decide +kernel, by decide +kernel⟩
set_option maxRecDepth 100000 in
theorem mm_q85 : mm_qP 85 := ⟨mm_rk85, (mm_tw2 198 rfl rfl), (mm_tw1 2 rfl rfl), fun h => absurd h (by decide +kernel), fun _ => ⟨(mm_tw2 197 rfl rfl), (mm_tp 0 (by decide +kernel) rfl), _, rfl, rfl, Nat.le_of_ble_eq_true rfl, Nat.le_of_ble_eq_true rfl⟩, rfl, Nat.le_of_ble_eq_true rfl, by decide +kernel, by decide +kernel, by decide +kernel, by decide +kernel⟩
set_option maxRecDepth 100000 in
theorem mm_q86 : mm_qP 86 := ⟨mm_rk86, (mm_tw2 204 rfl rfl), (mm_tw1 2 rfl rfl), fun h => absurd h (by decide +kernel), fun _ => ⟨(mm_tw2 203 rfl rfl), (mm_tp 1 (by decide +kernel) rfl), _, rfl, rfl, Nat.le_of_ble_eq_true rfl, Nat.le_of_ble_eq_true rfl⟩, rfl, Nat.le_of_ble_eq_true rfl, by decide +kernel, by decide +kernel, by decide +kernel, by decide +kernel⟩
set_option maxRecDepth 100000 in
theorem mm_q87 : mm_qP 87 := ⟨mm_rk87, (mm_tw2 212 rfl rfl), (mm_tw1 2 rfl rfl), fun h => absurd h (by decide +kernel), fun _ => ⟨(mm_tw2 211 rfl rfl), (mm_tp 2 (by decide +kernel) rfl), _, rfl, rfl, Nat.le_of_ble_eq_true rfl, Nat.le_of_ble_eq_true rfl⟩, rfl, Nat.le_of_ble_eq_true rfl, by decide +kernel, by decide +kernel, by decide +kernel, by decide +kernel⟩
set_option maxRecDepth 100000 in
theorem mm_q88 : mm_qP 88 := ⟨mm_rk88, (mm_tw2 218 rfl rfl), (mm_tw1 2 rfl rfl), fun h => absurd h (by decide +kernel), fun _ => ⟨(mm_tw2 217 rfl rfl), (mm_tp 3 (by decide +kernel) rfl), _, rfl, rfl, Nat.le_of_ble_eq_true rfl, Nat.le_of_ble_eq_true rfl⟩, rfl, Nat.le_of_ble_eq_true rfl, by decide +kernel, by decide +kernel, by decide +kernel, by decide +kernel⟩
set_option maxRecDepth 100000 in
theorem mm_q89 : mm_qP 89 := ⟨mm_rk89, (mm_tw3 12 rfl rfl), (mm_tw1 2 rfl rfl), fun h => absurd h (by decide +kernel), fun _ => ⟨(mm_tw3 10 rfl rfl), (mm_tw3 11 rfl rfl), _, rfl, rfl, Nat.le_of_ble_eq_true rfl, Nat.le_of_ble_eq_true rfl⟩, rfl, Nat.le_of_ble_eq_true rfl, by decide +kernel, by decide +kernel, by decide +kernel, by decide +kernel⟩
set_option maxRecDepth 100000 in
theorem mm_q90 : mm_qP 90 := ⟨mm_rk90, (mm_tw3 8 rfl rfl), (mm_tw1 2 rfl rfl), fun h => absurd h (by decide +kernel), fun _ => ⟨(mm_tw3 6 rfl rfl), (mm_tw3 7 rfl rfl), _, rfl, rfl, Nat.le_of_ble_eq_true rfl, Nat.le_of_ble_eq_true rfl⟩, rfl, Nat.le_of_ble_eq_true rfl, by decide +kernel, by decide +kernel, by decide +kernel, by decide +kernel⟩
set_option maxRecDepth 100000 in
theorem mm_q91 : mm_qP 91 := ⟨mm_rk91, (mm_tw3 94 rfl rfl), (mm_tw1 2 rfl rfl), fun h => absurd h (by decide +kernel), fun _ => ⟨(mm_tw3 92 rfl rfl), (mm_tw3 93 rfl rfl), _, rfl, rfl, Nat.le_of_ble_eq_true rfl, Nat.le_of_ble_eq_true rfl⟩, rfl, Nat.le_of_ble_eq_true rfl, by decide +kernel, by decide +kernel, by decide +kernel, by decide +kernel⟩
set_option maxRecDepth 100000 in
theorem mm_q92 : mm_qP 92 := ⟨mm_rk92, (mm_tw3 17 rfl rfl), (mm_tw1 2 rfl rfl), fun h => absurd h (by decide +kernel), fun _ => ⟨(mm_tw3 15 rfl rfl), (mm_tw3 16 rfl rfl), _, rfl, rfl, Nat.le_of_ble_eq_true rfl, Nat.le_of_ble_eq_true rfl⟩, rfl, Nat.le_of_ble_eq_true rfl, by decide +kernel, by decide +kernel, by decide +kernel, by decide +kernel⟩
set_option maxRecDepth 100000 in
theorem mm_q93 : mm_qP 93 := ⟨mm_rk93, (mm_tw3 77 rfl rfl), (mm_tw1 2 rfl rfl), fun h => absurd h (by decide +kernel), fun _ => ⟨(mm_tw3 75 rfl rfl), (mm_tw3 76 rfl rfl), _, rfl, rfl, Nat.le_of_ble_eq_true rfl, Nat.le_of_ble_eq_true rfl⟩, rfl, Nat.le_of_ble_eq_true rfl, by decide +kernel, by decide +kernel, by decide +kernel, by decide +kernel⟩
set_option maxRecDepth 100000 in
theorem mm_q94 : mm_qP 94 := ⟨mm_rk94, (mm_tw2 229 rfl rfl), (mm_tw1 5 rfl rfl), fun h => absurd h (by decide +kernel), fun _ => ⟨(mm_tw2 227 rfl rfl), (mm_tw2 228 rfl rfl), _, rfl, rfl, Nat.le_of_ble_eq_true rfl, Nat.le_of_ble_eq_true rfl⟩, rfl, Nat.le_of_ble_eq_true rfl, by decide +kernel, by decide +kernel, by decide +kernel, by decide +kernel⟩
set_option maxRecDepth 100000 in
theorem mm_q95 : mm_qP 95 := ⟨mm_rk95, (mm_tw2 238 rfl rfl), (mm_tw1 5 rfl rfl), fun h => absurd h (by decide +kernel), fun _ => ⟨(mm_tw2 237 rfl rfl), (mm_tp 4 (by decide +kernel) rfl), _, rfl, rfl, Nat.le_of_ble_eq_true rfl, Nat.le_of_ble_eq_true rfl⟩, rfl, Nat.le_of_ble_eq_true rfl, by decide +kernel, by decide +kernel, by decide +kernel, by decide +kernel⟩
set_option maxRecDepth 100000 in
theorem mm_q96 : mm_qP 96 := ⟨mm_rk96, (mm_tw3 4 rfl rfl), (mm_tw1 5 rfl rfl), fun h => absurd h (by decide +kernel), fun _ => ⟨(mm_tw3 3 rfl rfl), (mm_tp 5 (by decide +kernel) rfl), _, rfl, rfl, Nat.le_of_ble_eq_true rfl, Nat.le_of_ble_eq_true rfl⟩, rfl, Nat.le_of_ble_eq_true rfl, by decide +kernel, by decide +kernel, by decide +kernel, by decide +kernel⟩
set_option maxRecDepth 100000 in
theorem mm_q97 : mm_qP 97 := ⟨mm_rk97, (mm_tw3 24 rfl rfl), (mm_tw1 5 rfl rfl), fun h => absurd h (by decide +kernel), fun _ => ⟨(mm_tw3 23 rfl rfl), (mm_tp 6 (by decide +kernel) rfl), _, rfl, rfl, Nat.le_of_ble_eq_true rfl, Nat.le_of_ble_eq_true rfl⟩, rfl, Nat.le_of_ble_eq_true rfl, by decide +kernel, by decide +kernel, by decide +kernel, by decide +kernel⟩
set_option maxRecDepth 100000 in
theorem mm_q98 : mm_qP 98 := ⟨mm_rk98, (mm_tw3 34 rfl rfl), (mm_tw1 5 rfl rfl), fun h => absurd h (by decide +kernel), fun _ => ⟨(mm_tw3 33 rfl rfl), (mm_tp 8 (by decide +kernel) rfl), _, rfl, rfl, Nat.le_of_ble_eq_true rfl, Nat.le_of_ble_eq_true rfl⟩, rfl, Nat.le_of_ble_eq_true rfl, by decide +kernel, by decide +kernel, by decide +kernel, by decide +kernel⟩
set_option maxRecDepth 100000 in
theorem mm_q99 : mm_qP 99 := ⟨mm_rk99, (mm_tw3 30 rfl rfl), (mm_tw1 5 rfl rfl), fun h => absurd h (by decide +kernel), fun _ => ⟨(mm_tw3 29 rfl rfl), (mm_tp 7 (by decide +kernel) rfl), _, rfl, rfl, Nat.le_of_ble_eq_true rfl, Nat.le_of_ble_eq_true rfl⟩, rfl, Nat.le_of_ble_eq_true rfl, by decide +kernel, by decide +kernel, by decide +kernel, by decide +kernel⟩
set_option maxRecDepth 100000 in
theorem mm_q100 : mm_qP 100 := ⟨mm_rk100, (mm_tw3 59 rfl rfl), (mm_tw1 5 rfl rfl), fun h => absurd h (by decide +kernel), fun _ => ⟨(mm_tw3 58 rfl rfl), (mm_tp 9 (by decide +kernel) rfl), _, rfl, rfl, Nat.le_of_ble_eq_true rfl, Nat.le_of_ble_eq_true rfl⟩, rfl, Nat.le_of_ble_eq_true rfl, by decide +kernel, by decide +kernel, by decide +kernel, by decide +kernel⟩
set_option maxRecDepth 100000 in
theorem mm_q101 : mm_qP 101 := ⟨mm_rk101, (mm_tw3 67 rfl rfl), (mm_tw1 5 rfl rfl), fun h => absurd h (by decide +kernel), fun _ => ⟨(mm_tw3 66 rfl rfl), (mm_tp 10 (by decide +kernel) rfl), _, rfl, rfl, Nat.le_of_ble_eq_true rfl, Nat.le_of_ble_eq_true rfl⟩, rfl, Nat.le_of_ble_eq_true rfl, by decide +kernel, by decide +kernel, by decide +kernel, by decide +kernel⟩
set_option maxRecDepth 100000 in
theorem mm_q102 : mm_qP 102 := ⟨mm_rk102, (mm_tw3 73 rfl rfl), (mm_tw1 5 rfl rfl), fun h => absurd h (by decide +kernel), fun _ => ⟨(mm_tw3 72 rfl rfl), (mm_tp 11 (by decide +kernel) rfl), _, rfl, rfl, Nat.le_of_ble_eq_true rfl, Nat.le_of_ble_eq_true rfl⟩, rfl, Nat.le_of_ble_eq_true rfl, by decide +kernel, by decide +kernel, by decide +kernel, by decide +kernel⟩
set_option maxRecDepth 100000 in
theorem mm_q103 : mm_qP 103 := ⟨mm_rk103, (mm_tw3 88 rfl rfl), (mm_tw1 5 rfl rfl), fun h => absurd h (by decide +kernel), fun _ => ⟨(mm_tw3 87 rfl rfl), (mm_tp 12 (by decide +kernel) rfl), _, rfl, rfl, Nat.le_of_ble_eq_true rfl, Nat.le_of_ble_eq_true rfl⟩, rfl, Nat.le_of_ble_eq_true rfl, by decide +kernel, by decide +kernel, by decide +kernel, by decide +kernel⟩
set_option maxRecDepth 100000 in
theorem mm_q104 : mm_qP 104 := ⟨mm_rk104, (mm_tw2 223 rfl rfl), (mm_tw1 4 rfl rfl), fun _ => (mm_tw2 222 rfl rfl), fun h => absurd h (by decide +kernel), rfl, Nat.le_of_ble_eq_true rfl, by decide +kernel, by decide +kernel, by decide +kernel, by decide +kernel⟩
set_option maxRecDepth 100000 in
theorem mm_q105 : mm_qP 105 := ⟨mm_rk105, (mm_tw2 174 rfl rfl), (mm_tw1 1 rfl rfl), fun h => absurd h (by decide +kernel), fun _ => ⟨(mm_tw2 172 rfl rfl), (mm_tw2 173 rfl rfl), _, rfl, rfl, Nat.le_of_ble_eq_true rfl, Nat.le_of_ble_eq_true rfl⟩, rfl, Nat.le_of_ble_eq_true rfl, by decide +kernel, by decide +kernel, by decide +kernel, by decide +kernel⟩
set_option maxRecDepth 100000 in
theorem mm_q106 : mm_qP 106 := ⟨mm_rk106, (mm_tw2 182 rfl rfl), (mm_tw1 1 rfl rfl), fun h => absurd h (by decide +kernel), fun _ => ⟨(mm_tw2 180 rfl rfl), (mm_tw2 181 rfl rfl), _, rfl, rfl, Nat.le_of_ble_eq_true rfl, Nat.le_of_ble_eq_true rfl⟩, rfl, Nat.le_of_ble_eq_true rfl, by decide +kernel, by decide +kernel, by decide +kernel, by decide +kernel⟩
set_option maxRecDepth 100000 in
theorem mm_q107 : mm_qP 107 := ⟨mm_rk107, (mm_tw2 186 rfl rfl), (mm_tw1 1 rfl rfl), fun h => absurd h (by decide +kernel), fun _ => ⟨(mm_tw2 184 rfl rfl), (mm_tw2 185 rfl rfl), _, rfl, rfl, Nat.le_of_ble_eq_true rfl, Nat.le_of_ble_eq_true rfl⟩, rfl, Nat.le_of_ble_eq_true rfl, by decide +kernel, by decide +kernel, by decide +kernel, by decide +kernel⟩
set_option maxRecDepth 100000 in
theorem mm_q108 : mm_qP 108 := ⟨mm_rk108, (mm_tw3 133 rfl rfl), (mm_tw1 1 rfl rfl), fun h => absurd h (by decide +kernel), fun _ => ⟨(mm_tw3 131 rfl rfl), (mm_tw3 132 rfl rfl), _, rfl, rfl, Nat.le_of_ble_eq_true rfl, Nat.le_of_ble_eq_true rfl⟩, rfl, Nat.le_of_ble_eq_true rfl, by decide +kernel, by decide +kernel, by decide +kernel, by decide +kernel⟩
set_option maxRecDepth 100000 in
theorem mm_q109 : mm_qP 109 := ⟨mm_rk109, (mm_tw3 137 rfl rfl), (mm_tw1 1 rfl rfl), fun h => absurd h (by decide +kernel), fun _ => ⟨(mm_tw3 135 rfl rfl), (mm_tw3 136 rfl rfl), _, rfl, rfl, Nat.le_of_ble_eq_true rfl, Nat.le_of_ble_eq_true rfl⟩, rfl, Nat.le_of_ble_eq_true rfl, by decide +kernel, by decide +kernel, by decide +kernel, by decide +kernel⟩
set_option maxRecDepth 100000 in
theorem mm_q110 : mm_qP 110 := ⟨mm_rk110, (mm_tw3 162 rfl rfl), (mm_tw1 1 rfl rfl), fun h => absurd h (by decide +kernel), fun _ => ⟨(mm_tw3 160 rfl rfl), (mm_tw3 161 rfl rfl), _, rfl, rfl, Nat.le_of_ble_eq_true rfl, Nat.le_of_ble_eq_true rfl⟩, rfl, Nat.le_of_ble_eq_true rfl, by decide +kernel, by decide +kernel, by decide +kernel, by decide +kernel⟩
set_option maxRecDepth 100000 in
theorem mm_q111 : mm_qP 111 := ⟨mm_rk111, (mm_tw3 167 rfl rfl), (mm_tw1 1 rfl rfl), fun h => absurd h (by decide +kernel), fun _ => ⟨(mm_tw3 165 rfl rfl), (mm_tw3 166 rfl rfl), _, rfl, rfl, Nat.le_of_ble_eq_true rfl, Nat.le_of_ble_eq_true rfl⟩, rfl, Nat.le_of_ble_eq_true rfl, by decide +kernel, by decide +kernel, by decide +kernel, by decide +kernel⟩
set_option maxRecDepth 100000 in
theorem mm_q112 : mm_qP 112 := ⟨mm_rk112, (mm_tw3 173 rfl rfl), (mm_tw1 1 rfl rfl), fun h => absurd h (by decide +kernel), fun _ => ⟨(mm_tw3 171 rfl rfl), (mm_tw3 172 rfl rfl), _, rfl, rfl, Nat.le_of_ble_eq_true rfl, Nat.le_of_ble_eq_true rfl⟩, rfl, Nat.le_of_ble_eq_true rfl, by decide +kernel, by decide +kernel, by decide +kernel, by decide +kernel⟩
set_option maxRecDepth 100000 in
theorem mm_q113 : mm_qP 113 := ⟨mm_rk113, (mm_tw4 18 rfl rfl), (mm_tw1 1 rfl rfl), fun h => absurd h (by decide +kernel), fun _ => ⟨(mm_tw4 16 rfl rfl), (mm_tw4 17 rfl rfl), _, rfl, rfl, Nat.le_of_ble_eq_true rfl, Nat.le_of_ble_eq_true rfl⟩, rfl, Nat.le_of_ble_eq_true rfl, by decide +kernel, by decide +kernel, by decide +kernel, by decide +kernel⟩
set_option maxRecDepth 100000 in
theorem mm_q114 : mm_qP 114 := ⟨mm_rk114, (mm_tw4 22 rfl rfl), (mm_tw1 1 rfl rfl), fun h => absurd h (by decide +kernel), fun _ => ⟨(mm_tw4 20 rfl rfl), (mm_tw4 21 rfl rfl), _, rfl, rfl, Nat.le_of_ble_eq_true rfl, Nat.le_of_ble_eq_true rfl⟩, rfl, Nat.le_of_ble_eq_true rfl, by decide +kernel, by decide +kernel, by decide +kernel, by decide +kernel⟩
set_option maxRecDepth 100000 in
theorem mm_q115 : mm_qP 115 := ⟨mm_rk115, (mm_tw4 26 rfl rfl), (mm_tw1 1 rfl rfl), fun h => absurd h (by decide +kernel), fun _ => ⟨(mm_tw4 24 rfl rfl), (mm_tw4 25 rfl rfl), _, rfl, rfl, Nat.le_of_ble_eq_true rfl, Nat.le_of_ble_eq_true rfl⟩, rfl, Nat.le_of_ble_eq_true rfl, by decide +kernel, by decide +kernel, by decide +kernel, by decide +kernel⟩
set_option maxRecDepth 100000 in
theorem mm_q116 : mm_qP 116 := ⟨mm_rk116, (mm_tw4 31 rfl rfl), (mm_tw1 1 rfl rfl), fun h => absurd h (by decide +kernel), fun _ => ⟨(mm_tw4 29 rfl rfl), (mm_tw4 30 rfl rfl), _, rfl, rfl, Nat.le_of_ble_eq_true rfl, Nat.le_of_ble_eq_true rfl⟩, rfl, Nat.le_of_ble_eq_true rfl, by decide +kernel, by decide +kernel, by decide +kernel, by decide +kernel⟩
set_option maxRecDepth 100000 in
theorem mm_q117 : mm_qP 117 := ⟨mm_rk117, (mm_tw4 35 rfl rfl), (mm_tw1 1 rfl rfl), fun h => absurd h (by decide +kernel), fun _ => ⟨(mm_tw4 33 rfl rfl), (mm_tw4 34 rfl rfl), _, rfl, rfl, Nat.le_of_ble_eq_true rfl, Nat.le_of_ble_eq_true rfl⟩, rfl, Nat.le_of_ble_eq_true rfl, by decide +kernel, by decide +kernel, by decide +kernel, by decide +kernel⟩
set_option maxRecDepth 100000 in
theorem mm_q118 : mm_qP 118 := ⟨mm_rk118, (mm_tw4 39 rfl rfl), (mm_tw1 1 rfl rfl), fun h => absurd h (by decide +kernel), fun _ => ⟨(mm_tw4 37 rfl rfl), (mm_tw4 38 rfl rfl), _, rfl, rfl, Nat.le_of_ble_eq_true rfl, Nat.le_of_ble_eq_true rfl⟩, rfl, Nat.le_of_ble_eq_true rfl, by decide +kernel, by decide +kernel, by decide +kernel, by decide +kernel⟩
set_option maxRecDepth 100000 in
theorem mm_q119 : mm_qP 119 := ⟨mm_rk119, (mm_tw4 45 rfl rfl), (mm_tw1 1 rfl rfl), fun h => absurd h (by decide +kernel), fun _ => ⟨(mm_tw4 43 rfl rfl), (mm_tw4 44 rfl rfl), _, rfl, rfl, Nat.le_of_ble_eq_true rfl, Nat.le_of_ble_eq_true rfl⟩, rfl, Nat.le_of_ble_eq_true rfl, by decide +kernel, by decide +kernel, by decide +kernel, by decide +kernel⟩
set_option maxRecDepth 100000 in
theorem mm_q120 : mm_qP 120 := ⟨mm_rk120, (mm_tw4 53 rfl rfl), (mm_tw1 1 rfl rfl), fun h => absurd h (by decide +kernel), fun _ => ⟨(mm_tw4 51 rfl rfl), (mm_tw4 52 rfl rfl), _, rfl, rfl, Nat.le_of_ble_eq_true rfl, Nat.le_of_ble_eq_true rfl⟩, rfl, Nat.le_of_ble_eq_true rfl, by decide +kernel, by decide +kernel, by decide +kernel, by decide +kernel⟩
set_option maxRecDepth 100000 in
theorem mm_q121 : mm_qP 121 := ⟨mm_rk121, (mm_tw4 61 rfl rfl), (mm_tw1 1 rfl rfl), fun h => absurd h (by decide +kernel), fun _ => ⟨(mm_tw4 59 rfl rfl), (mm_tw4 60 rfl rfl), _, rfl, rfl, Nat.le_of_ble_eq_true rfl, Nat.le_of_ble_eq_true rfl⟩, rfl, Nat.le_of_ble_eq_true rfl, by decide +kernel, by decide +kernel, by decide +kernel, by decide +kernel⟩
set_option maxRecDepth 100000 in
theorem mm_q122 : mm_qP 122 := ⟨mm_rk122, (mm_tw4 65 rfl rfl), (mm_tw1 1 rfl rfl), fun h => absurd h (by decide +kernel), fun _ => ⟨(mm_tw4 63 rfl rfl), (mm_tw4 64 rfl rfl), _, rfl, rfl, Nat.le_of_ble_eq_true rfl, Nat.le_of_ble_eq_true rfl⟩, rfl, Nat.le_of_ble_eq_true rfl, by decide +kernel, by decide +kernel, by decide +kernel, by decide +kernel⟩
set_option maxRecDepth 100000 in
theorem mm_q123 : mm_qP 123 := ⟨mm_rk123, (mm_tw4 73 rfl rfl), (mm_tw1 1 rfl rfl), fun h => absurd h (by decide +kernel), fun _ => ⟨(mm_tw4 71 rfl rfl), (mm_tw4 72 rfl rfl), _, rfl, rfl, Nat.le_of_ble_eq_true rfl, Nat.le_of_ble_eq_true rfl⟩, rfl, Nat.le_of_ble_eq_true rfl, by decide +kernel, by decide +kernel, by decide +kernel, by decide +kernel⟩
set_option maxRecDepth 100000 in
theorem mm_q124 : mm_qP 124 := ⟨mm_rk124, (mm_tw4 78 rfl rfl), (mm_tw1 1 rfl rfl), fun h => absurd h (by decide +kernel), fun _ => ⟨(mm_tw4 76 rfl rfl), (mm_tw4 77 rfl rfl), _, rfl, rfl, Nat.le_of_ble_eq_true rfl, Nat.le_of_ble_eq_true rfl⟩, rfl, Nat.le_of_ble_eq_true rfl, by decide +kernel, by decide +kernel, by decide +kernel, by decide +kernel⟩
set_option maxRecDepth 100000 in
theorem mm_q125 : mm_qP 125 := ⟨mm_rk125, (mm_tw4 110 rfl rfl), (mm_tw1 1 rfl rfl), fun h => absurd h (by decide +kernel), fun _ => ⟨(mm_tw4 108 rfl rfl), (mm_tw4 109 rfl rfl), _, rfl, rfl, Nat.le_of_ble_eq_true rfl, Nat.le_of_ble_eq_true rfl⟩, rfl, Nat.le_of_ble_eq_true rfl, by decide +kernel, by decide +kernel, by decide +kernel, by decide +kernel⟩
set_option maxRecDepth 100000 in
theorem mm_q126 : mm_qP 126 := ⟨mm_rk126, (mm_tw4 114 rfl rfl), (mm_tw1 1 rfl rfl), fun h => absurd h (by decide +kernel), fun _ => ⟨(mm_tw4 112 rfl rfl), (mm_tw4 113 rfl rfl), _, rfl, rfl, Nat.le_of_ble_eq_true rfl, Nat.le_of_ble_eq_true rfl⟩, rfl, Nat.le_of_ble_eq_true rfl, by decide +kernel, by decide +kernel, by decide +kernel, by decide +kernel⟩
set_option maxRecDepth 100000 in
theorem mm_q127 : mm_qP 127 := ⟨mm_rk127, (mm_tw4 118 rfl rfl), (mm_tw1 1 rfl rfl), fun h => absurd h (by decide +kernel), fun _ => ⟨(mm_tw4 116 rfl rfl), (mm_tw4 117 rfl rfl), _, rfl, rfl, Nat.le_of_ble_eq_true rfl, Nat.le_of_ble_eq_true rfl⟩, rfl, Nat.le_of_ble_eq_true rfl, by decide +kernel, by decide +kernel, by decide +kernel, by decide +kernel⟩
set_option maxRecDepth 100000 in
theorem mm_q128 : mm_qP 128 := ⟨mm_rk128, (mm_tw4 122 rfl rfl), (mm_tw1 1 rfl rfl), fun h => absurd h (by decide +kernel), fun _ => ⟨(mm_tw4 120 rfl rfl), (mm_tw4 121 rfl rfl), _, rfl, rfl, Nat.le_of_ble_eq_true rfl, Nat.le_of_ble_eq_true rfl⟩, rfl, Nat.le_of_ble_eq_true rfl, by decide +kernel, by decide +kernel, by decide +kernel, by decide +kernel⟩
set_option maxRecDepth 100000 in
theorem mm_q129 : mm_qP 129 := ⟨mm_rk129, (mm_tw4 146 rfl rfl), (mm_tw1 1 rfl rfl), fun h => absurd h (by decide +kernel), fun _ => ⟨(mm_tw4 144 rfl rfl), (mm_tw4 145 rfl rfl), _, rfl, rfl, Nat.le_of_ble_eq_true rfl, Nat.le_of_ble_eq_true rfl⟩, rfl, Nat.le_of_ble_eq_true rfl, by decide +kernel, by decide +kernel, by decide +kernel, by decide +kernel⟩
set_option maxRecDepth 100000 in
theorem mm_q130 : mm_qP 130 := ⟨mm_rk130, (mm_tw4 150 rfl rfl), (mm_tw1 1 rfl rfl), fun h => absurd h (by decide +kernel), fun _ => ⟨(mm_tw4 148 rfl rfl), (mm_tw4 149 rfl rfl), _, rfl, rfl, Nat.le_of_ble_eq_true rfl, Nat.le_of_ble_eq_true rfl⟩, rfl, Nat.le_of_ble_eq_true rfl, by decide +kernel, by decide +kernel, by decide +kernel, by decide +kernel⟩
set_option maxRecDepth 100000 in
theorem mm_q131 : mm_qP 131 := ⟨mm_rk131, (mm_tw4 156 rfl rfl), (mm_tw1 1 rfl rfl), fun h => absurd h (by decide +kernel), fun _ => ⟨(mm_tw4 154 rfl rfl), (mm_tw4 155 rfl rfl), _, rfl, rfl, Nat.le_of_ble_eq_true rfl, Nat.le_of_ble_eq_true rfl⟩, rfl, Nat.le_of_ble_eq_true rfl, by decide +kernel, by decide +kernel, by decide +kernel, by decide +kernel⟩
set_option maxRecDepth 100000 in
theorem mm_q132 : mm_qP 132 := ⟨mm_rk132, (mm_tw4 165 rfl rfl), (mm_tw1 1 rfl rfl), fun h => absurd h (by decide +kernel), fun _ => ⟨(mm_tw4 163 rfl rfl), (mm_tw4 164 rfl rfl), _, rfl, rfl, Nat.le_of_ble_eq_true rfl, Nat.le_of_ble_eq_true rfl⟩, rfl, Nat.le_of_ble_eq_true rfl, by decide +kernel, by decide +kernel, by decide +kernel, by decide +kernel⟩
set_option maxRecDepth 100000 in
theorem mm_q133 : mm_qP 133 := ⟨mm_rk133, (mm_tw4 185 rfl rfl), (mm_tw1 1 rfl rfl), fun h => absurd h (by decide +kernel), fun _ => ⟨(mm_tw4 183 rfl rfl), (mm_tw4 184 rfl rfl), _, rfl, rfl, Nat.le_of_ble_eq_true rfl, Nat.le_of_ble_eq_true rfl⟩, rfl, Nat.le_of_ble_eq_true rfl, by decide +kernel, by decide +kernel, by decide +kernel, by decide +kernel⟩
set_option maxRecDepth 100000 in
theorem mm_q134 : mm_qP 134 := ⟨mm_rk134, (mm_tw4 189 rfl rfl), (mm_tw1 1 rfl rfl), fun h => absurd h (by decide +kernel), fun _ => ⟨(mm_tw4 187 rfl rfl), (mm_tw4 188 rfl rfl), _, rfl, rfl, Nat.le_of_ble_eq_true rfl, Nat.le_of_ble_eq_true rfl⟩, rfl, Nat.le_of_ble_eq_true rfl, by decide +kernel, by decide +kernel, by decide +kernel, by decide +kernel⟩
set_option maxRecDepth 100000 in
theorem mm_q135 : mm_qP 135 := ⟨mm_rk135, (mm_tw5 26 rfl rfl), (mm_tw1 1 rfl rfl), fun h => absurd h (by decide +kernel), fun _ => ⟨(mm_tw5 24 rfl rfl), (mm_tw5 25 rfl rfl), _, rfl, rfl, Nat.le_of_ble_eq_true rfl, Nat.le_of_ble_eq_true rfl⟩, rfl, Nat.le_of_ble_eq_true rfl, by decide +kernel, by decide +kernel, by decide +kernel, by decide +kernel⟩
set_option maxRecDepth 100000 in
theorem mm_q136 : mm_qP 136 := ⟨mm_rk136, (mm_tw5 30 rfl rfl), (mm_tw1 1 rfl rfl), fun h => absurd h (by decide +kernel), fun _ => ⟨(mm_tw5 28 rfl rfl), (mm_tw5 29 rfl rfl), _, rfl, rfl, Nat.le_of_ble_eq_true rfl, Nat.le_of_ble_eq_true rfl⟩, rfl, Nat.le_of_ble_eq_true rfl, by decide +kernel, by decide +kernel, by decide +kernel, by decide +kernel⟩
set_option maxRecDepth 100000 in
theorem mm_q137 : mm_qP 137 := ⟨mm_rk137, (mm_tw5 54 rfl rfl), (mm_tw1 1 rfl rfl), fun h => absurd h (by decide +kernel), fun _ => ⟨(mm_tw5 52 rfl rfl), (mm_tw5 53 rfl rfl), _, rfl, rfl, Nat.le_of_ble_eq_true rfl, Nat.le_of_ble_eq_true rfl⟩, rfl, Nat.le_of_ble_eq_true rfl, by decide +kernel, by decide +kernel, by decide +kernel, by decide +kernel⟩
set_option maxRecDepth 100000 in
theorem mm_q138 : mm_qP 138 := ⟨mm_rk138, (mm_tw5 58 rfl rfl), (mm_tw1 1 rfl rfl), fun h => absurd h (by decide +kernel), fun _ => ⟨(mm_tw5 56 rfl rfl), (mm_tw5 57 rfl rfl), _, rfl, rfl, Nat.le_of_ble_eq_true rfl, Nat.le_of_ble_eq_true rfl⟩, rfl, Nat.le_of_ble_eq_true rfl, by decide +kernel, by decide +kernel, by decide +kernel, by decide +kernel⟩
set_option maxRecDepth 100000 in
theorem mm_q139 : mm_qP 139 := ⟨mm_rk139, (mm_tw5 119 rfl rfl), (mm_tw1 1 rfl rfl), fun h => absurd h (by decide +kernel), fun _ => ⟨(mm_tw5 117 rfl rfl), (mm_tw5 118 rfl rfl), _, rfl, rfl, Nat.le_of_ble_eq_true rfl, Nat.le_of_ble_eq_true rfl⟩, rfl, Nat.le_of_ble_eq_true rfl, by decide +kernel, by decide +kernel, by decide +kernel, by decide +kernel⟩
set_option maxRecDepth 100000 in
theorem mm_q140 : mm_qP 140 := ⟨mm_rk140, (mm_tw5 127 rfl rfl), (mm_tw1 1 rfl rfl), fun h => absurd h (by decide +kernel), fun _ => ⟨(mm_tw5 125 rfl rfl), (mm_tw5 126 rfl rfl), _, rfl, rfl, Nat.le_of_ble_eq_true rfl, Nat.le_of_ble_eq_true rfl⟩, rfl, Nat.le_of_ble_eq_true rfl, by decide +kernel, by decide +kernel, by decide +kernel, by decide +kernel⟩
set_option maxRecDepth 100000 in
theorem mm_q141 : mm_qP 141 := ⟨mm_rk141, (mm_tw5 200 rfl rfl), (mm_tw1 1 rfl rfl), fun h => absurd h (by decide +kernel), fun _ => ⟨(mm_tw5 198 rfl rfl), (mm_tw5 199 rfl rfl), _, rfl, rfl, Nat.le_of_ble_eq_true rfl, Nat.le_of_ble_eq_true rfl⟩, rfl, Nat.le_of_ble_eq_true rfl, by decide +kernel, by decide +kernel, by decide +kernel, by decide +kernel⟩
set_option maxRecDepth 100000 in
theorem mm_q142 : mm_qP 142 := ⟨mm_rk142, (mm_tw5 228 rfl rfl), (mm_tw1 1 rfl rfl), fun h => absurd h (by decide +kernel), fun _ => ⟨(mm_tw5 226 rfl rfl), (mm_tw5 227 rfl rfl), _, rfl, rfl, Nat.le_of_ble_eq_true rfl, Nat.le_of_ble_eq_true rfl⟩, rfl, Nat.le_of_ble_eq_true rfl, by decide +kernel, by decide +kernel, by decide +kernel, by decide +kernel⟩
set_option maxRecDepth 100000 in
theorem mm_q143 : mm_qP 143 := ⟨mm_rk143, (mm_tw5 238 rfl rfl), (mm_tw1 1 rfl rfl), fun h => absurd h (by decide +kernel), fun _ => ⟨(mm_tw5 236 rfl rfl), (mm_tw5 237 rfl rfl), _, rfl, rfl, Nat.le_of_ble_eq_true rfl, Nat.le_of_ble_eq_true rfl⟩, rfl, Nat.le_of_ble_eq_true rfl, by decide +kernel, by decide +kernel, by decide +kernel, by decide +kernel⟩
set_option maxRecDepth 100000 in
theorem mm_q144 : mm_qP 144 := ⟨mm_rk144, (mm_tw6 2 rfl rfl), (mm_tw1 1 rfl rfl), fun h => absurd h (by decide +kernel), fun _ => ⟨(mm_tw6 0 rfl rfl), (mm_tw6 1 rfl rfl), _, rfl, rfl, Nat.le_of_ble_eq_true rfl, Nat.le_of_ble_eq_true rfl⟩, rfl, Nat.le_of_ble_eq_true rfl, by decide +kernel, by decide +kernel, by decide +kernel, by decide +kernel⟩
set_option maxRecDepth 100000 in
theorem mm_q145 : mm_qP 145 := ⟨mm_rk145, (mm_tw3 98 rfl rfl), (mm_tw1 1 rfl rfl), fun h => absurd h (by decide +kernel), fun _ => ⟨(mm_tw3 97 rfl rfl), (mm_tp 13 (by decide +kernel) rfl), _, rfl, rfl, Nat.le_of_ble_eq_true rfl, Nat.le_of_ble_eq_true rfl⟩, rfl, Nat.le_of_ble_eq_true rfl, by decide +kernel, by decide +kernel, by decide +kernel, by decide +kernel⟩
set_option maxRecDepth 100000 in
theorem mm_q146 : mm_qP 146 := ⟨mm_rk146, (mm_tw3 177 rfl rfl), (mm_tw1 1 rfl rfl), fun h => absurd h (by decide +kernel), fun _ => ⟨(mm_tw3 176 rfl rfl), (mm_tp 14 (by decide +kernel) rfl), _, rfl, rfl, Nat.le_of_ble_eq_true rfl, Nat.le_of_ble_eq_true rfl⟩, rfl, Nat.le_of_ble_eq_true rfl, by decide +kernel, by decide +kernel, by decide +kernel, by decide +kernel⟩
set_option maxRecDepth 100000 in
theorem mm_q147 : mm_qP 147 := ⟨mm_rk147, (mm_tw4 8 rfl rfl), (mm_tw1 1 rfl rfl), fun h => absurd h (by decide +kernel), fun _ => ⟨(mm_tw4 7 rfl rfl), (mm_tp 25 (by decide +kernel) rfl), _, rfl, rfl, Nat.le_of_ble_eq_true rfl, Nat.le_of_ble_eq_true rfl⟩, rfl, Nat.le_of_ble_eq_true rfl, by decide +kernel, by decide +kernel, by decide +kernel, by decide +kernel⟩
set_option maxRecDepth 100000 in
theorem mm_q148 : mm_qP 148 := ⟨mm_rk148, (mm_tw4 202 rfl rfl), (mm_tw1 1 rfl rfl), fun h => absurd h (by decide +kernel), fun _ => ⟨(mm_tw4 201 rfl rfl), (mm_tp 35 (by decide +kernel) rfl), _, rfl, rfl, Nat.le_of_ble_eq_true rfl, Nat.le_of_ble_eq_true rfl⟩, rfl, Nat.le_of_ble_eq_true rfl, by decide +kernel, by decide +kernel, by decide +kernel, by decide +kernel⟩
set_option maxRecDepth 100000 in
theorem mm_q149 : mm_qP 149 := ⟨mm_rk149, (mm_tw4 198 rfl rfl), (mm_tw1 1 rfl rfl), fun h => absurd h (by decide +kernel), fun _ => ⟨(mm_tw4 197 rfl rfl), (mm_tp 34 (by decide +kernel) rfl), _, rfl, rfl, Nat.le_of_ble_eq_true rfl, Nat.le_of_ble_eq_true rfl⟩, rfl, Nat.le_of_ble_eq_true rfl, by decide +kernel, by decide +kernel, by decide +kernel, by decide +kernel⟩
set_option maxRecDepth 100000 in
theorem mm_q150 : mm_qP 150 := ⟨mm_rk150, (mm_tw4 207 rfl rfl), (mm_tw1 1 rfl rfl), fun h => absurd h (by decide +kernel), fun _ => ⟨(mm_tw4 206 rfl rfl), (mm_tp 36 (by decide +kernel) rfl), _, rfl, rfl, Nat.le_of_ble_eq_true rfl, Nat.le_of_ble_eq_true rfl⟩, rfl, Nat.le_of_ble_eq_true rfl, by decide +kernel, by decide +kernel, by decide +kernel, by decide +kernel⟩
set_option maxRecDepth 100000 in
theorem mm_q151 : mm_qP 151 := ⟨mm_rk151, (mm_tw5 19 rfl rfl), (mm_tw1 1 rfl rfl), fun h => absurd h (by decide +kernel), fun _ => ⟨(mm_tw5 18 rfl rfl), (mm_tp 37 (by decide +kernel) rfl), _, rfl, rfl, Nat.le_of_ble_eq_true rfl, Nat.le_of_ble_eq_true rfl⟩, rfl, Nat.le_of_ble_eq_true rfl, by decide +kernel, by decide +kernel, by decide +kernel, by decide +kernel⟩
set_option maxRecDepth 100000 in
theorem mm_q152 : mm_qP 152 := ⟨mm_rk152, (mm_tw3 81 rfl rfl), (mm_tw1 1 rfl rfl), fun _ => (mm_tw3 80 rfl rfl), fun h => absurd h (by decide +kernel), rfl, Nat.le_of_ble_eq_true rfl, by decide +kernel, by decide +kernel, by decide +kernel, by decide +kernel⟩
set_option maxRecDepth 100000 in
theorem mm_q153 : mm_qP 153 := ⟨mm_rk153, (mm_tw4 4 rfl rfl), (mm_tw1 1 rfl rfl), fun _ => (mm_tw4 3 rfl rfl), fun h => absurd h (by decide +kernel), rfl, Nat.le_of_ble_eq_true rfl, by decide +kernel, by decide +kernel, by decide +kernel, by decide +kernel⟩
set_option maxRecDepth 100000 in
theorem mm_q154 : mm_qP 154 := ⟨mm_rk154, (mm_tw6 81 rfl rfl), (mm_tw1 14 rfl rfl), fun h => absurd h (by decide +kernel), fun _ => ⟨(mm_tw6 79 rfl rfl), (mm_tw6 80 rfl rfl), _, rfl, rfl, Nat.le_of_ble_eq_true rfl, Nat.le_of_ble_eq_true rfl⟩, rfl, Nat.le_of_ble_eq_true rfl, by decide +kernel, by decide +kernel, by decide +kernel, by decide +kernel⟩
set_option maxRecDepth 100000 in
theorem mm_q155 : mm_qP 155 := ⟨mm_rk155, (mm_tw7 148 rfl rfl), (mm_tw1 14 rfl rfl), fun h => absurd h (by decide +kernel), fun _ => ⟨(mm_tw7 147 rfl rfl), (mm_tp 79 (by decide +kernel) rfl), _, rfl, rfl, Nat.le_of_ble_eq_true rfl, Nat.le_of_ble_eq_true rfl⟩, rfl, Nat.le_of_ble_eq_true rfl, by decide +kernel, by decide +kernel, by decide +kernel, by decide +kernel⟩
set_option maxRecDepth 100000 in
theorem mm_q156 : mm_qP 156 := ⟨mm_rk156, (mm_tw6 90 rfl rfl), (mm_tw1 14 rfl rfl), fun h => absurd h (by decide +kernel), fun _ => ⟨(mm_tw6 88 rfl rfl), (mm_tp 51 (by decide +kernel) rfl), _, rfl, rfl, Nat.le_of_ble_eq_true rfl, Nat.le_of_ble_eq_true rfl⟩, rfl, Nat.le_of_ble_eq_true rfl, by decide +kernel, by decide +kernel, by decide +kernel, by decide +kernel⟩
set_option maxRecDepth 100000 in
theorem mm_q157 : mm_qP 157 := ⟨mm_rk157, (mm_tw6 85 rfl rfl), (mm_tw1 14 rfl rfl), fun h => absurd h (by decide +kernel), fun _ => ⟨(mm_tw6 83 rfl rfl), (mm_tw6 84 rfl rfl), _, rfl, rfl, Nat.le_of_ble_eq_true rfl, Nat.le_of_ble_eq_true rfl⟩, rfl, Nat.le_of_ble_eq_true rfl, by decide +kernel, by decide +kernel, by decide +kernel, by decide +kernel⟩
set_option maxRecDepth 100000 in
theorem mm_q158 : mm_qP 158 := ⟨mm_rk158, (mm_tw6 94 rfl rfl), (mm_tw1 14 rfl rfl), fun h => absurd h (by decide +kernel), fun _ => ⟨(mm_tw6 92 rfl rfl), (mm_tw6 93 rfl rfl), _, rfl, rfl, Nat.le_of_ble_eq_true rfl, Nat.le_of_ble_eq_true rfl⟩, rfl, Nat.le_of_ble_eq_true rfl, by decide +kernel, by decide +kernel, by decide +kernel, by decide +kernel⟩
set_option maxRecDepth 100000 in
theorem mm_q159 : mm_qP 159 := ⟨mm_rk159, (mm_tw7 21 rfl rfl), (mm_tw1 14 rfl rfl), fun h => absurd h (by decide +kernel), fun _ => ⟨(mm_tw7 20 rfl rfl), (mm_tp 55 (by decide +kernel) rfl), _, rfl, rfl, Nat.le_of_ble_eq_true rfl, Nat.le_of_ble_eq_true rfl⟩, rfl, Nat.le_of_ble_eq_true rfl, by decide +kernel, by decide +kernel, by decide +kernel, by decide +kernel⟩
set_option maxRecDepth 100000 in
theorem mm_q160 : mm_qP 160 := ⟨mm_rk160, (mm_tw7 70 rfl rfl), (mm_tw1 14 rfl rfl), fun _ => (mm_tw7 69 rfl rfl), fun h => absurd h (by decide +kernel), rfl, Nat.le_of_ble_eq_true rfl, by decide +kernel, by decide +kernel, by decide +kernel, by decide +kernel⟩
set_option maxRecDepth 100000 in
theorem mm_q161 : mm_qP 161 := ⟨mm_rk161, (mm_tw7 120 rfl rfl), (mm_tw1 14 rfl rfl), fun _ => (mm_tw7 119 rfl rfl), fun h => absurd h (by decide +kernel), rfl, Nat.le_of_ble_eq_true rfl, by decide +kernel, by decide +kernel, by decide +kernel, by decide +kernel⟩
set_option maxRecDepth 100000 in
theorem mm_q162 : mm_qP 162 := ⟨mm_rk162, (mm_tw7 211 rfl rfl), (mm_tw1 14 rfl rfl), fun _ => (mm_tw7 210 rfl rfl), fun h => absurd h (by decide +kernel), rfl, Nat.le_of_ble_eq_true rfl, by decide +kernel, by decide +kernel, by decide +kernel, by decide +kernel⟩
set_option maxRecDepth 100000 in
theorem mm_q163 : mm_qP 163 := ⟨mm_rk163, (mm_tw8 118 rfl rfl), (mm_tw1 14 rfl rfl), fun _ => (mm_tw8 117 rfl rfl), fun h => absurd h (by decide +kernel), rfl, Nat.le_of_ble_eq_true rfl, by decide +kernel, by decide +kernel, by decide +kernel, by decide +kernel⟩
set_option maxRecDepth 100000 in
theorem mm_q164 : mm_qP 164 := ⟨mm_rk164, (mm_tw8 63 rfl rfl), (mm_tw1 14 rfl rfl), fun _ => (mm_tw8 62 rfl rfl), fun h => absurd h (by decide +kernel), rfl, Nat.le_of_ble_eq_true rfl, by decide +kernel, by decide +kernel, by decide +kernel, by decide +kernel⟩
set_option maxRecDepth 100000 in
theorem mm_q165 : mm_qP 165 := ⟨mm_rk165, (mm_tw7 35 rfl rfl), (mm_tw1 14 rfl rfl), fun h => absurd h (by decide +kernel), fun _ => ⟨(mm_tw7 34 rfl rfl), (mm_tp 57 (by decide +kernel) rfl), _, rfl, rfl, Nat.le_of_ble_eq_true rfl, Nat.le_of_ble_eq_true rfl⟩, rfl, Nat.le_of_ble_eq_true rfl, by decide +kernel, by decide +kernel, by decide +kernel, by decide +kernel⟩
set_option maxRecDepth 100000 in
theorem mm_q166 : mm_qP 166 := ⟨mm_rk166, (mm_tw7 31 rfl rfl), (mm_tw1 14 rfl rfl), fun _ => (mm_tw7 30 rfl rfl), fun h => absurd h (by decide +kernel), rfl, Nat.le_of_ble_eq_true rfl, by decide +kernel, by decide +kernel, by decide +kernel, by decide +kernel⟩
set_option maxRecDepth 100000 in
theorem mm_q167 : mm_qP 167 := ⟨mm_rk167, (mm_tw7 28 rfl rfl), (mm_tw1 14 rfl rfl), fun _ => (mm_tw7 27 rfl rfl), fun h => absurd h (by decide +kernel), rfl, Nat.le_of_ble_eq_true rfl, by decide +kernel, by decide +kernel, by decide +kernel, by decide +kernel⟩
set_option maxRecDepth 100000 in
theorem mm_q168 : mm_qP 168 := ⟨mm_rk168, (mm_tw7 25 rfl rfl), (mm_tw1 14 rfl rfl), fun h => absurd h (by decide +kernel), fun _ => ⟨(mm_tw7 24 rfl rfl), (mm_tp 56 (by decide +kernel) rfl), _, rfl, rfl, Nat.le_of_ble_eq_true rfl, Nat.le_of_ble_eq_true rfl⟩, rfl, Nat.le_of_ble_eq_true rfl, by decide +kernel, by decide +kernel, by decide +kernel, by decide +kernel⟩
set_option maxRecDepth 100000 in
theorem mm_q169 : mm_qP 169 := ⟨mm_rk169, (mm_tw7 51 rfl rfl), (mm_tw1 14 rfl rfl), fun _ => (mm_tw7 50 rfl rfl), fun h => absurd h (by decide +kernel), rfl, Nat.le_of_ble_eq_true rfl, by decide +kernel, by decide +kernel, by decide +kernel, by decide +kernel⟩
set_option maxRecDepth 100000 in
theorem mm_q170 : mm_qP 170 := ⟨mm_rk170, (mm_tw7 48 rfl rfl), (mm_tw1 14 rfl rfl), fun _ => (mm_tw7 47 rfl rfl), fun h => absurd h (by decide +kernel), rfl, Nat.le_of_ble_eq_true rfl, by decide +kernel, by decide +kernel, by decide +kernel, by decide +kernel⟩
set_option maxRecDepth 100000 in
theorem mm_q171 : mm_qP 171 := ⟨mm_rk171, (mm_tw7 45 rfl rfl), (mm_tw1 14 rfl rfl), fun h => absurd h (by decide +kernel), fun _ => ⟨(mm_tw7 44 rfl rfl), (mm_tp 59 (by decide +kernel) rfl), _, rfl, rfl, Nat.le_of_ble_eq_true rfl, Nat.le_of_ble_eq_true rfl⟩, rfl, Nat.le_of_ble_eq_true rfl, by decide +kernel, by decide +kernel, by decide +kernel, by decide +kernel⟩
set_option maxRecDepth 100000 in
theorem mm_q172 : mm_qP 172 := ⟨mm_rk172, (mm_tw7 132 rfl rfl), (mm_tw1 14 rfl rfl), fun h => absurd h (by decide +kernel), fun _ => ⟨(mm_tw7 131 rfl rfl), (mm_tp 77 (by decide +kernel) rfl), _, rfl, rfl, Nat.le_of_ble_eq_true rfl, Nat.le_of_ble_eq_true rfl⟩, rfl, Nat.le_of_ble_eq_true rfl, by decide +kernel, by decide +kernel, by decide +kernel, by decide +kernel⟩
set_option maxRecDepth 100000 in
theorem mm_q173 : mm_qP 173 := ⟨mm_rk173, (mm_tw7 90 rfl rfl), (mm_tw1 14 rfl rfl), fun h => absurd h (by decide +kernel), fun _ => ⟨(mm_tw7 89 rfl rfl), (mm_tp 68 (by decide +kernel) rfl), _, rfl, rfl, Nat.le_of_ble_eq_true rfl, Nat.le_of_ble_eq_true rfl⟩, rfl, Nat.le_of_ble_eq_true rfl, by decide +kernel, by decide +kernel, by decide +kernel, by decide +kernel⟩
set_option maxRecDepth 100000 in
theorem mm_q174 : mm_qP 174 := ⟨mm_rk174, (mm_tw7 59 rfl rfl), (mm_tw1 14 rfl rfl), fun h => absurd h (by decide +kernel), fun _ => ⟨(mm_tw7 58 rfl rfl), (mm_tp 61 (by decide +kernel) rfl), _, rfl, rfl, Nat.le_of_ble_eq_true rfl, Nat.le_of_ble_eq_true rfl⟩, rfl, Nat.le_of_ble_eq_true rfl, by decide +kernel, by decide +kernel, by decide +kernel, by decide +kernel⟩
set_option maxRecDepth 100000 in
theorem mm_q175 : mm_qP 175 := ⟨mm_rk175, (mm_tw7 67 rfl rfl), (mm_tw1 14 rfl rfl), fun h => absurd h (by decide +kernel), fun _ => ⟨(mm_tw7 66 rfl rfl), (mm_tp 63 (by decide +kernel) rfl), _, rfl, rfl, Nat.le_of_ble_eq_true rfl, Nat.le_of_ble_eq_true rfl⟩, rfl, Nat.le_of_ble_eq_true rfl, by decide +kernel, by decide +kernel, by decide +kernel, by decide +kernel⟩
set_option maxRecDepth 100000 in
theorem mm_q176 : mm_qP 176 := ⟨mm_rk176, (mm_tw7 128 rfl rfl), (mm_tw1 14 rfl rfl), fun h => absurd h (by decide +kernel), fun _ => ⟨(mm_tw7 127 rfl rfl), (mm_tp 76 (by decide +kernel) rfl), _, rfl, rfl, Nat.le_of_ble_eq_true rfl, Nat.le_of_ble_eq_true rfl⟩, rfl, Nat.le_of_ble_eq_true rfl, by decide +kernel, by decide +kernel, by decide +kernel, by decide +kernel⟩
set_option maxRecDepth 100000 in
theorem mm_q177 : mm_qP 177 := ⟨mm_rk177, (mm_tw7 17 rfl rfl), (mm_tw1 14 rfl rfl), fun h => absurd h (by decide +kernel), fun _ => ⟨(mm_tw7 16 rfl rfl), (mm_tp 54 (by decide +kernel) rfl), _, rfl, rfl, Nat.le_of_ble_eq_true rfl, Nat.le_of_ble_eq_true rfl⟩, rfl, Nat.le_of_ble_eq_true rfl, by decide +kernel, by decide +kernel, by decide +kernel, by decide +kernel⟩
set_option maxRecDepth 100000 in
theorem mm_q178 : mm_qP 178 := ⟨mm_rk178, (mm_tw6 103 rfl rfl), (mm_tw1 14 rfl rfl), fun h => absurd h (by decide +kernel), fun _ => ⟨(mm_tw6 102 rfl rfl), (mm_tp 52 (by decide +kernel) rfl), _, rfl, rfl, Nat.le_of_ble_eq_true rfl, Nat.le_of_ble_eq_true rfl⟩, rfl, Nat.le_of_ble_eq_true rfl, by decide +kernel, by decide +kernel, by decide +kernel, by decide +kernel⟩
set_option maxRecDepth 100000 in
theorem mm_q179 : mm_qP 179 := ⟨mm_rk179, (mm_tw6 107 rfl rfl), (mm_tw1 14 rfl rfl), fun h => absurd h (by decide +kernel), fun _ => ⟨(mm_tw6 106 rfl rfl), (mm_tp 53 (by decide +kernel) rfl), _, rfl, rfl, Nat.le_of_ble_eq_true rfl, Nat.le_of_ble_eq_true rfl⟩, rfl, Nat.le_of_ble_eq_true rfl, by decide +kernel, by decide +kernel, by decide +kernel, by decide +kernel⟩
set_option maxRecDepth 100000 in
theorem mm_q180 : mm_qP 180 := ⟨mm_rk180, (mm_tw7 97 rfl rfl), (mm_tw1 14 rfl rfl), fun _ => (mm_tw7 96 rfl rfl), fun h => absurd h (by decide +kernel), rfl, Nat.le_of_ble_eq_true rfl, by decide +kernel, by decide +kernel, by decide +kernel, by decide +kernel⟩
set_option maxRecDepth 100000 in
theorem mm_q181 : mm_qP 181 := ⟨mm_rk181, (mm_tw7 94 rfl rfl), (mm_tw1 14 rfl rfl), fun h => absurd h (by decide +kernel), fun _ => ⟨(mm_tw7 93 rfl rfl), (mm_tp 69 (by decide +kernel) rfl), _, rfl, rfl, Nat.le_of_ble_eq_true rfl, Nat.le_of_ble_eq_true rfl⟩, rfl, Nat.le_of_ble_eq_true rfl, by decide +kernel, by decide +kernel, by decide +kernel, by decide +kernel⟩
set_option maxRecDepth 100000 in
theorem mm_q182 : mm_qP 182 := ⟨mm_rk182, (mm_tw7 86 rfl rfl), (mm_tw1 14 rfl rfl), fun h => absurd h (by decide +kernel), fun _ => ⟨(mm_tw7 85 rfl rfl), (mm_tp 67 (by decide +kernel) rfl), _, rfl, rfl, Nat.le_of_ble_eq_true rfl, Nat.le_of_ble_eq_true rfl⟩, rfl, Nat.le_of_ble_eq_true rfl, by decide +kernel, by decide +kernel, by decide +kernel, by decide +kernel⟩
set_option maxRecDepth 100000 in
theorem mm_q183 : mm_qP 183 := ⟨mm_rk183, (mm_tw7 82 rfl rfl), (mm_tw1 14 rfl rfl), fun h => absurd h (by decide +kernel), fun _ => ⟨(mm_tw7 81 rfl rfl), (mm_tp 66 (by decide +kernel) rfl), _, rfl, rfl, Nat.le_of_ble_eq_true rfl, Nat.le_of_ble_eq_true rfl⟩, rfl, Nat.le_of_ble_eq_true rfl, by decide +kernel, by decide +kernel, by decide +kernel, by decide +kernel⟩
set_option maxRecDepth 100000 in
theorem mm_q184 : mm_qP 184 := ⟨mm_rk184, (mm_tw7 74 rfl rfl), (mm_tw1 14 rfl rfl), fun h => absurd h (by decide +kernel), fun _ => ⟨(mm_tw7 73 rfl rfl), (mm_tp 64 (by decide +kernel) rfl), _, rfl, rfl, Nat.le_of_ble_eq_true rfl, Nat.le_of_ble_eq_true rfl⟩, rfl, Nat.le_of_ble_eq_true rfl, by decide +kernel, by decide +kernel, by decide +kernel, by decide +kernel⟩
set_option maxRecDepth 100000 in
theorem mm_q185 : mm_qP 185 := ⟨mm_rk185, (mm_tw7 63 rfl rfl), (mm_tw1 14 rfl rfl), fun h => absurd h (by decide +kernel), fun _ => ⟨(mm_tw7 62 rfl rfl), (mm_tp 62 (by decide +kernel) rfl), _, rfl, rfl, Nat.le_of_ble_eq_true rfl, Nat.le_of_ble_eq_true rfl⟩, rfl, Nat.le_of_ble_eq_true rfl, by decide +kernel, by decide +kernel, by decide +kernel, by decide +kernel⟩
set_option maxRecDepth 100000 in
theorem mm_q186 : mm_qP 186 := ⟨mm_rk186, (mm_tw7 55 rfl rfl), (mm_tw1 14 rfl rfl), fun h => absurd h (by decide +kernel), fun _ => ⟨(mm_tw7 54 rfl rfl), (mm_tp 60 (by decide +kernel) rfl), _, rfl, rfl, Nat.le_of_ble_eq_true rfl, Nat.le_of_ble_eq_true rfl⟩, rfl, Nat.le_of_ble_eq_true rfl, by decide +kernel, by decide +kernel, by decide +kernel, by decide +kernel⟩
set_option maxRecDepth 100000 in
theorem mm_q187 : mm_qP 187 := ⟨mm_rk187, (mm_tw7 78 rfl rfl), (mm_tw1 14 rfl rfl), fun h => absurd h (by decide +kernel), fun _ => ⟨(mm_tw7 77 rfl rfl), (mm_tp 65 (by decide +kernel) rfl), _, rfl, rfl, Nat.le_of_ble_eq_true rfl, Nat.le_of_ble_eq_true rfl⟩, rfl, Nat.le_of_ble_eq_true rfl, by decide +kernel, by decide +kernel, by decide +kernel, by decide +kernel⟩
set_option maxRecDepth 100000 in
theorem mm_q188 : mm_qP 188 := ⟨mm_rk188, (mm_tw7 105 rfl rfl), (mm_tw1 14 rfl rfl), fun h => absurd h (by decide +kernel), fun _ => ⟨(mm_tw7 104 rfl rfl), (mm_tp 71 (by decide +kernel) rfl), _, rfl, rfl, Nat.le_of_ble_eq_true rfl, Nat.le_of_ble_eq_true rfl⟩, rfl, Nat.le_of_ble_eq_true rfl, by decide +kernel, by decide +kernel, by decide +kernel, by decide +kernel⟩
set_option maxRecDepth 100000 in
theorem mm_q189 : mm_qP 189 := ⟨mm_rk189, (mm_tw7 101 rfl rfl), (mm_tw1 14 rfl rfl), fun h => absurd h (by decide +kernel), fun _ => ⟨(mm_tw7 100 rfl rfl), (mm_tp 70 (by decide +kernel) rfl), _, rfl, rfl, Nat.le_of_ble_eq_true rfl, Nat.le_of_ble_eq_true rfl⟩, rfl, Nat.le_of_ble_eq_true rfl, by decide +kernel, by decide +kernel, by decide +kernel, by decide +kernel⟩
set_option maxRecDepth 100000 in
theorem mm_q190 : mm_qP 190 := ⟨mm_rk190, (mm_tw7 109 rfl rfl), (mm_tw1 14 rfl rfl), fun h => absurd h (by decide +kernel), fun _ => ⟨(mm_tw7 108 rfl rfl), (mm_tp 72 (by decide +kernel) rfl), _, rfl, rfl, Nat.le_of_ble_eq_true rfl, Nat.le_of_ble_eq_true rfl⟩, rfl, Nat.le_of_ble_eq_true rfl, by decide +kernel, by decide +kernel, by decide +kernel, by decide +kernel⟩
set_option maxRecDepth 100000 in
theorem mm_q191 : mm_qP 191 := ⟨mm_rk191, (mm_tw7 117 rfl rfl), (mm_tw1 14 rfl rfl), fun h => absurd h (by decide +kernel), fun _ => ⟨(mm_tw7 116 rfl rfl), (mm_tp 74 (by decide +kernel) rfl), _, rfl, rfl, Nat.le_of_ble_eq_true rfl, Nat.le_of_ble_eq_true rfl⟩, rfl, Nat.le_of_ble_eq_true rfl, by decide +kernel, by decide +kernel, by decide +kernel, by decide +kernel⟩
set_option maxRecDepth 100000 in
theorem mm_q192 : mm_qP 192 := ⟨mm_rk192, (mm_tw7 113 rfl rfl), (mm_tw1 14 rfl rfl), fun h => absurd h (by decide +kernel), fun _ => ⟨(mm_tw7 112 rfl rfl), (mm_tp 73 (by decide +kernel) rfl), _, rfl, rfl, Nat.le_of_ble_eq_true rfl, Nat.le_of_ble_eq_true rfl⟩, rfl, Nat.le_of_ble_eq_true rfl, by decide +kernel, by decide +kernel, by decide +kernel, by decide +kernel⟩
set_option maxRecDepth 100000 in
theorem mm_q193 : mm_qP 193 := ⟨mm_rk193, (mm_tw7 124 rfl rfl), (mm_tw1 14 rfl rfl), fun h => absurd h (by decide +kernel), fun _ => ⟨(mm_tw7 123 rfl rfl), (mm_tp 75 (by decide +kernel) rfl), _, rfl, rfl, Nat.le_of_ble_eq_true rfl, Nat.le_of_ble_eq_true rfl⟩, rfl, Nat.le_of_ble_eq_true rfl, by decide +kernel, by decide +kernel, by decide +kernel, by decide +kernel⟩
set_option maxRecDepth 100000 in
theorem mm_q194 : mm_qP 194 := ⟨mm_rk194, (mm_tw7 41 rfl rfl), (mm_tw1 14 rfl rfl), fun h => absurd h (by decide +kernel), fun _ => ⟨(mm_tw7 40 rfl rfl), (mm_tp 58 (by decide +kernel) rfl), _, rfl, rfl, Nat.le_of_ble_eq_true rfl, Nat.le_of_ble_eq_true rfl⟩, rfl, Nat.le_of_ble_eq_true rfl, by decide +kernel, by decide +kernel, by decide +kernel, by decide +kernel⟩
set_option maxRecDepth 100000 in
theorem mm_q195 : mm_qP 195 := ⟨mm_rk195, (mm_tw7 13 rfl rfl), (mm_tw1 14 rfl rfl), fun h => absurd h (by decide +kernel), fun _ => ⟨(mm_tw7 11 rfl rfl), (mm_tw7 12 rfl rfl), _, rfl, rfl, Nat.le_of_ble_eq_true rfl, Nat.le_of_ble_eq_true rfl⟩, rfl, Nat.le_of_ble_eq_true rfl, by decide +kernel, by decide +kernel, by decide +kernel, by decide +kernel⟩
set_option maxRecDepth 100000 in
theorem mm_q196 : mm_qP 196 := ⟨mm_rk196, (mm_tw7 136 rfl rfl), (mm_tw1 14 rfl rfl), fun h => absurd h (by decide +kernel), fun _ => ⟨(mm_tw7 134 rfl rfl), (mm_tw7 135 rfl rfl), _, rfl, rfl, Nat.le_of_ble_eq_true rfl, Nat.le_of_ble_eq_true rfl⟩, rfl, Nat.le_of_ble_eq_true rfl, by decide +kernel, by decide +kernel, by decide +kernel, by decide +kernel⟩
set_option maxRecDepth 100000 in
theorem mm_q197 : mm_qP 197 := ⟨mm_rk197, (mm_tw7 180 rfl rfl), (mm_tw1 14 rfl rfl), fun h => absurd h (by decide +kernel), fun _ => ⟨(mm_tw7 179 rfl rfl), (mm_tp 85 (by decide +kernel) rfl), _, rfl, rfl, Nat.le_of_ble_eq_true rfl, Nat.le_of_ble_eq_true rfl⟩, rfl, Nat.le_of_ble_eq_true rfl, by decide +kernel, by decide +kernel, by decide +kernel, by decide +kernel⟩
set_option maxRecDepth 100000 in
theorem mm_q198 : mm_qP 198 := ⟨mm_rk198, (mm_tw7 144 rfl rfl), (mm_tw1 14 rfl rfl), fun h => absurd h (by decide +kernel), fun _ => ⟨(mm_tw7 143 rfl rfl), (mm_tp 78 (by decide +kernel) rfl), _, rfl, rfl, Nat.le_of_ble_eq_true rfl, Nat.le_of_ble_eq_true rfl⟩, rfl, Nat.le_of_ble_eq_true rfl, by decide +kernel, by decide +kernel, by decide +kernel, by decide +kernel⟩
set_option maxRecDepth 100000 in
theorem mm_q199 : mm_qP 199 := ⟨mm_rk199, (mm_tw7 172 rfl rfl), (mm_tw1 14 rfl rfl), fun h => absurd h (by decide +kernel), fun _ => ⟨(mm_tw7 171 rfl rfl), (mm_tp 84 (by decide +kernel) rfl), _, rfl, rfl, Nat.le_of_ble_eq_true rfl, Nat.le_of_ble_eq_true rfl⟩, rfl, Nat.le_of_ble_eq_true rfl, by decide +kernel, by decide +kernel, by decide +kernel, by decide +kernel⟩
set_option maxRecDepth 100000 in
theorem mm_q200 : mm_qP 200 := ⟨mm_rk200, (mm_tw7 152 rfl rfl), (mm_tw1 14 rfl rfl), fun h => absurd h (by decide +kernel), fun _ => ⟨(mm_tw7 151 rfl rfl), (mm_tp 80 (by decide +kernel) rfl), _, rfl, rfl, Nat.le_of_ble_eq_true rfl, Nat.le_of_ble_eq_true rfl⟩, rfl, Nat.le_of_ble_eq_true rfl, by decide +kernel, by decide +kernel, by decide +kernel, by decide +kernel⟩
set_option maxRecDepth 100000 in
theorem mm_q201 : mm_qP 201 := ⟨mm_rk201, (mm_tw8 15 rfl rfl), (mm_tw1 14 rfl rfl), fun h => absurd h (by decide +kernel), fun _ => ⟨(mm_tw8 14 rfl rfl), (mm_tp 94 (by decide +kernel) rfl), _, rfl, rfl, Nat.le_of_ble_eq_true rfl, Nat.le_of_ble_eq_true rfl⟩, rfl, Nat.le_of_ble_eq_true rfl, by decide +kernel, by decide +kernel, by decide +kernel, by decide +kernel⟩
set_option maxRecDepth 100000 in
theorem mm_q202 : mm_qP 202 := ⟨mm_rk202, (mm_tw7 164 rfl rfl), (mm_tw1 14 rfl rfl), fun h => absurd h (by decide +kernel), fun _ => ⟨(mm_tw7 163 rfl rfl), (mm_tp 83 (by decide +kernel) rfl), _, rfl, rfl, Nat.le_of_ble_eq_true rfl, Nat.le_of_ble_eq_true rfl⟩, rfl, Nat.le_of_ble_eq_true rfl, by decide +kernel, by decide +kernel, by decide +kernel, by decide +kernel⟩
set_option maxRecDepth 100000 in
theorem mm_q203 : mm_qP 203 := ⟨mm_rk203, (mm_tw7 160 rfl rfl), (mm_tw1 14 rfl rfl), fun h => absurd h (by decide +kernel), fun _ => ⟨(mm_tw7 159 rfl rfl), (mm_tp 82 (by decide +kernel) rfl), _, rfl, rfl, Nat.le_of_ble_eq_true rfl, Nat.le_of_ble_eq_true rfl⟩, rfl, Nat.le_of_ble_eq_true rfl, by decide +kernel, by decide +kernel, by decide +kernel, by decide +kernel⟩
set_option maxRecDepth 100000 in
theorem mm_q204 : mm_qP 204 := ⟨mm_rk204, (mm_tw7 156 rfl rfl), (mm_tw1 14 rfl rfl), fun h => absurd h (by decide +kernel), fun _ => ⟨(mm_tw7 155 rfl rfl), (mm_tp 81 (by decide +kernel) rfl), _, rfl, rfl, Nat.le_of_ble_eq_true rfl, Nat.le_of_ble_eq_true rfl⟩, rfl, Nat.le_of_ble_eq_true rfl, by decide +kernel, by decide +kernel, by decide +kernel, by decide +kernel⟩
set_option maxRecDepth 100000 in
theorem mm_q205 : mm_qP 205 := ⟨mm_rk205, (mm_tw7 140 rfl rfl), (mm_tw1 14 rfl rfl), fun h => absurd h (by decide +kernel), fun _ => ⟨(mm_tw7 138 rfl rfl), (mm_tw7 139 rfl rfl), _, rfl, rfl, Nat.le_of_ble_eq_true rfl, Nat.le_of_ble_eq_true rfl⟩, rfl, Nat.le_of_ble_eq_true rfl, by decide +kernel, by decide +kernel, by decide +kernel, by decide +kernel⟩
set_option maxRecDepth 100000 in
theorem mm_q206 : mm_qP 206 := ⟨mm_rk206, (mm_tw7 168 rfl rfl), (mm_tw1 14 rfl rfl), fun h => absurd h (by decide +kernel), fun _ => ⟨(mm_tw7 166 rfl rfl), (mm_tw7 167 rfl rfl), _, rfl, rfl, Nat.le_of_ble_eq_true rfl, Nat.le_of_ble_eq_true rfl⟩, rfl, Nat.le_of_ble_eq_true rfl, by decide +kernel, by decide +kernel, by decide +kernel, by decide +kernel⟩
set_option maxRecDepth 100000 in
theorem mm_q207 : mm_qP 207 := ⟨mm_rk207, (mm_tw7 176 rfl rfl), (mm_tw1 14 rfl rfl), fun h => absurd h (by decide +kernel), fun _ => ⟨(mm_tw7 174 rfl rfl), (mm_tw7 175 rfl rfl), _, rfl, rfl, Nat.le_of_ble_eq_true rfl, Nat.le_of_ble_eq_true rfl⟩, rfl, Nat.le_of_ble_eq_true rfl, by decide +kernel, by decide +kernel, by decide +kernel, by decide +kernel⟩
set_option maxRecDepth 100000 in
theorem mm_q208 : mm_qP 208 := ⟨mm_rk208, (mm_tw7 184 rfl rfl), (mm_tw1 14 rfl rfl), fun h => absurd h (by decide +kernel), fun _ => ⟨(mm_tw7 182 rfl rfl), (mm_tw7 183 rfl rfl), _, rfl, rfl, Nat.le_of_ble_eq_true rfl, Nat.le_of_ble_eq_true rfl⟩, rfl, Nat.le_of_ble_eq_true rfl, by decide +kernel, by decide +kernel, by decide +kernel, by decide +kernel⟩
set_option maxRecDepth 100000 in
theorem mm_q209 : mm_qP 209 := ⟨mm_rk209, (mm_tw7 204 rfl rfl), (mm_tw1 14 rfl rfl), fun h => absurd h (by decide +kernel), fun _ => ⟨(mm_tw7 203 rfl rfl), (mm_tp 89 (by decide +kernel) rfl), _, rfl, rfl, Nat.le_of_ble_eq_true rfl, Nat.le_of_ble_eq_true rfl⟩, rfl, Nat.le_of_ble_eq_true rfl, by decide +kernel, by decide +kernel, by decide +kernel, by decide +kernel⟩
set_option maxRecDepth 100000 in
theorem mm_q210 : mm_qP 210 := ⟨mm_rk210, (mm_tw7 200 rfl rfl), (mm_tw1 14 rfl rfl), fun h => absurd h (by decide +kernel), fun _ => ⟨(mm_tw7 199 rfl rfl), (mm_tp 88 (by decide +kernel) rfl), _, rfl, rfl, Nat.le_of_ble_eq_true rfl, Nat.le_of_ble_eq_true rfl⟩, rfl, Nat.le_of_ble_eq_true rfl, by decide +kernel, by decide +kernel, by decide +kernel, by decide +kernel⟩
set_option maxRecDepth 100000 in
theorem mm_q211 : mm_qP 211 := ⟨mm_rk211, (mm_tw7 196 rfl rfl), (mm_tw1 14 rfl rfl), fun h => absurd h (by decide +kernel), fun _ => ⟨(mm_tw7 195 rfl rfl), (mm_tp 87 (by decide +kernel) rfl), _, rfl, rfl, Nat.le_of_ble_eq_true rfl, Nat.le_of_ble_eq_true rfl⟩, rfl, Nat.le_of_ble_eq_true rfl, by decide +kernel, by decide +kernel, by decide +kernel, by decide +kernel⟩
set_option maxRecDepth 100000 in
theorem mm_q212 : mm_qP 212 := ⟨mm_rk212, (mm_tw7 215 rfl rfl), (mm_tw1 14 rfl rfl), fun h => absurd h (by decide +kernel), fun _ => ⟨(mm_tw7 214 rfl rfl), (mm_tp 91 (by decide +kernel) rfl), _, rfl, rfl, Nat.le_of_ble_eq_true rfl, Nat.le_of_ble_eq_true rfl⟩, rfl, Nat.le_of_ble_eq_true rfl, by decide +kernel, by decide +kernel, by decide +kernel, by decide +kernel⟩
set_option maxRecDepth 100000 in
theorem mm_q213 : mm_qP 213 := ⟨mm_rk213, (mm_tw7 208 rfl rfl), (mm_tw1 14 rfl rfl), fun h => absurd h (by decide +kernel), fun _ => ⟨(mm_tw7 207 rfl rfl), (mm_tp 90 (by decide +kernel) rfl), _, rfl, rfl, Nat.le_of_ble_eq_true rfl, Nat.le_of_ble_eq_true rfl⟩, rfl, Nat.le_of_ble_eq_true rfl, by decide +kernel, by decide +kernel, by decide +kernel, by decide +kernel⟩
set_option maxRecDepth 100000 in
theorem mm_q214 : mm_qP 214 := ⟨mm_rk214, (mm_tw7 192 rfl rfl), (mm_tw1 14 rfl rfl), fun h => absurd h (by decide +kernel), fun _ => ⟨(mm_tw7 191 rfl rfl), (mm_tp 86 (by decide +kernel) rfl), _, rfl, rfl, Nat.le_of_ble_eq_true rfl, Nat.le_of_ble_eq_true rfl⟩, rfl, Nat.le_of_ble_eq_true rfl, by decide +kernel, by decide +kernel, by decide +kernel, by decide +kernel⟩
set_option maxRecDepth 100000 in
theorem mm_q215 : mm_qP 215 := ⟨mm_rk215, (mm_tw7 188 rfl rfl), (mm_tw1 14 rfl rfl), fun h => absurd h (by decide +kernel), fun _ => ⟨(mm_tw7 186 rfl rfl), (mm_tw7 187 rfl rfl), _, rfl, rfl, Nat.le_of_ble_eq_true rfl, Nat.le_of_ble_eq_true rfl⟩, rfl, Nat.le_of_ble_eq_true rfl, by decide +kernel, by decide +kernel, by decide +kernel, by decide +kernel⟩
set_option maxRecDepth 100000 in
theorem mm_q216 : mm_qP 216 := ⟨mm_rk216, (mm_tw7 219 rfl rfl), (mm_tw1 14 rfl rfl), fun h => absurd h (by decide +kernel), fun _ => ⟨(mm_tw7 217 rfl rfl), (mm_tw7 218 rfl rfl), _, rfl, rfl, Nat.le_of_ble_eq_true rfl, Nat.le_of_ble_eq_true rfl⟩, rfl, Nat.le_of_ble_eq_true rfl, by decide +kernel, by decide +kernel, by decide +kernel, by decide +kernel⟩
set_option maxRecDepth 100000 in
theorem mm_q217 : mm_qP 217 := ⟨mm_rk217, (mm_tw7 223 rfl rfl), (mm_tw1 14 rfl rfl), fun h => absurd h (by decide +kernel), fun _ => ⟨(mm_tw7 221 rfl rfl), (mm_tw7 222 rfl rfl), _, rfl, rfl, Nat.le_of_ble_eq_true rfl, Nat.le_of_ble_eq_true rfl⟩, rfl, Nat.le_of_ble_eq_true rfl, by decide +kernel, by decide +kernel, by decide +kernel, by decide +kernel⟩
set_option maxRecDepth 100000 in
theorem mm_q218 : mm_qP 218 := ⟨mm_rk218, (mm_tw7 227 rfl rfl), (mm_tw1 14 rfl rfl), fun h => absurd h (by decide +kernel), fun _ => ⟨(mm_tw7 225 rfl rfl), (mm_tw7 226 rfl rfl), _, rfl, rfl, Nat.le_of_ble_eq_true rfl, Nat.le_of_ble_eq_true rfl⟩, rfl, Nat.le_of_ble_eq_true rfl, by decide +kernel, by decide +kernel, by decide +kernel, by decide +kernel⟩
set_option maxRecDepth 100000 in
theorem mm_q219 : mm_qP 219 := ⟨mm_rk219, (mm_tw7 231 rfl rfl), (mm_tw1 14 rfl rfl), fun h => absurd h (by decide +kernel), fun _ => ⟨(mm_tw7 229 rfl rfl), (mm_tw7 230 rfl rfl), _, rfl, rfl, Nat.le_of_ble_eq_true rfl, Nat.le_of_ble_eq_true rfl⟩, rfl, Nat.le_of_ble_eq_true rfl, by decide +kernel, by decide +kernel, by decide +kernel, by decide +kernel⟩
set_option maxRecDepth 100000 in
theorem mm_q220 : mm_qP 220 := ⟨mm_rk220, (mm_tw7 235 rfl rfl), (mm_tw1 14 rfl rfl), fun h => absurd h (by decide +kernel), fun _ => ⟨(mm_tw7 233 rfl rfl), (mm_tw7 234 rfl rfl), _, rfl, rfl, Nat.le_of_ble_eq_true rfl, Nat.le_of_ble_eq_true rfl⟩, rfl, Nat.le_of_ble_eq_true rfl, by decide +kernel, by decide +kernel, by decide +kernel, by decide +kernel⟩
set_option maxRecDepth 100000 in
theorem mm_q221 : mm_qP 221 := ⟨mm_rk221, (mm_tw7 239 rfl rfl), (mm_tw1 14 rfl rfl), fun h => absurd h (by decide +kernel), fun _ => ⟨(mm_tw7 237 rfl rfl), (mm_tw7 238 rfl rfl), _, rfl, rfl, Nat.le_of_ble_eq_true rfl, Nat.le_of_ble_eq_true rfl⟩, rfl, Nat.le_of_ble_eq_true rfl, by decide +kernel, by decide +kernel, by decide +kernel, by decide +kernel⟩
set_option maxRecDepth 100000 in
theorem mm_q222 : mm_qP 222 := ⟨mm_rk222, (mm_tw8 19 rfl rfl), (mm_tw1 14 rfl rfl), fun h => absurd h (by decide +kernel), fun _ => ⟨(mm_tw8 18 rfl rfl), (mm_tp 95 (by decide +kernel) rfl), _, rfl, rfl, Nat.le_of_ble_eq_true rfl, Nat.le_of_ble_eq_true rfl⟩, rfl, Nat.le_of_ble_eq_true rfl, by decide +kernel, by decide +kernel, by decide +kernel, by decide +kernel⟩
set_option maxRecDepth 100000 in
theorem mm_q223 : mm_qP 223 := ⟨mm_rk223, (mm_tw8 11 rfl rfl), (mm_tw1 14 rfl rfl), fun h => absurd h (by decide +kernel), fun _ => ⟨(mm_tw8 10 rfl rfl), (mm_tp 93 (by decide +kernel) rfl), _, rfl, rfl, Nat.le_of_ble_eq_true rfl, Nat.le_of_ble_eq_true rfl⟩, rfl, Nat.le_of_ble_eq_true rfl, by decide +kernel, by decide +kernel, by decide +kernel, by decide +kernel⟩
set_option maxRecDepth 100000 in
theorem mm_q224 : mm_qP 224 := ⟨mm_rk224, (mm_tw8 7 rfl rfl), (mm_tw1 14 rfl rfl), fun h => absurd h (by decide +kernel), fun _ => ⟨(mm_tw8 6 rfl rfl), (mm_tp 92 (by decide +kernel) rfl), _, rfl, rfl, Nat.le_of_ble_eq_true rfl, Nat.le_of_ble_eq_true rfl⟩, rfl, Nat.le_of_ble_eq_true rfl, by decide +kernel, by decide +kernel, by decide +kernel, by decide +kernel⟩
set_option maxRecDepth 100000 in
theorem mm_q225 : mm_qP 225 := ⟨mm_rk225, (mm_tw8 3 rfl rfl), (mm_tw1 14 rfl rfl), fun h => absurd h (by decide +kernel), fun _ => ⟨(mm_tw8 1 rfl rfl), (mm_tw8 2 rfl rfl), _, rfl, rfl, Nat.le_of_ble_eq_true rfl, Nat.le_of_ble_eq_true rfl⟩, rfl, Nat.le_of_ble_eq_true rfl, by decide +kernel, by decide +kernel, by decide +kernel, by decide +kernel⟩
set_option maxRecDepth 100000 in
theorem mm_q226 : mm_qP 226 := ⟨mm_rk226, (mm_tw8 27 rfl rfl), (mm_tw1 14 rfl rfl), fun h => absurd h (by decide +kernel), fun _ => ⟨(mm_tw8 26 rfl rfl), (mm_tp 96 (by decide +kernel) rfl), _, rfl, rfl, Nat.le_of_ble_eq_true rfl, Nat.le_of_ble_eq_true rfl⟩, rfl, Nat.le_of_ble_eq_true rfl, by decide +kernel, by decide +kernel, by decide +kernel, by decide +kernel⟩
set_option maxRecDepth 100000 in
theorem mm_q227 : mm_qP 227 := ⟨mm_rk227, (mm_tw8 23 rfl rfl), (mm_tw1 14 rfl rfl), fun h => absurd h (by decide +kernel), fun _ => ⟨(mm_tw8 21 rfl rfl), (mm_tw8 22 rfl rfl), _, rfl, rfl, Nat.le_of_ble_eq_true rfl, Nat.le_of_ble_eq_true rfl⟩, rfl, Nat.le_of_ble_eq_true rfl, by decide +kernel, by decide +kernel, by decide +kernel, by decide +kernel⟩
set_option maxRecDepth 100000 in
theorem mm_q228 : mm_qP 228 := ⟨mm_rk228, (mm_tw8 31 rfl rfl), (mm_tw1 14 rfl rfl), fun h => absurd h (by decide +kernel), fun _ => ⟨(mm_tw8 29 rfl rfl), (mm_tw8 30 rfl rfl), _, rfl, rfl, Nat.le_of_ble_eq_true rfl, Nat.le_of_ble_eq_true rfl⟩, rfl, Nat.le_of_ble_eq_true rfl, by decide +kernel, by decide +kernel, by decide +kernel, by decide +kernel⟩
set_option maxRecDepth 100000 in
theorem mm_q229 : mm_qP 229 := ⟨mm_rk229, (mm_tw8 43 rfl rfl), (mm_tw1 14 rfl rfl), fun h => absurd h (by decide +kernel), fun _ => ⟨(mm_tw8 42 rfl rfl), (mm_tp 98 (by decide +kernel) rfl), _, rfl, rfl, Nat.le_of_ble_eq_true rfl, Nat.le_of_ble_eq_true rfl⟩, rfl, Nat.le_of_ble_eq_true rfl, by decide +kernel, by decide +kernel, by decide +kernel, by decide +kernel⟩
set_option maxRecDepth 100000 in
theorem mm_q230 : mm_qP 230 := ⟨mm_rk230, (mm_tw8 48 rfl rfl), (mm_tw1 14 rfl rfl), fun h => absurd h (by decide +kernel), fun _ => ⟨(mm_tw8 47 rfl rfl), (mm_tp 99 (by decide +kernel) rfl), _, rfl, rfl, Nat.le_of_ble_eq_true rfl, Nat.le_of_ble_eq_true rfl⟩, rfl, Nat.le_of_ble_eq_true rfl, by decide +kernel, by decide +kernel, by decide +kernel, by decide +kernel⟩
set_option maxRecDepth 100000 in
theorem mm_q231 : mm_qP 231 := ⟨mm_rk231, (mm_tw8 39 rfl rfl), (mm_tw1 14 rfl rfl), fun h => absurd h (by decide +kernel), fun _ => ⟨(mm_tw8 38 rfl rfl), (mm_tp 97 (by decide +kernel) rfl), _, rfl, rfl, Nat.le_of_ble_eq_true rfl, Nat.le_of_ble_eq_true rfl⟩, rfl, Nat.le_of_ble_eq_true rfl, by decide +kernel, by decide +kernel, by decide +kernel, by decide +kernel⟩
set_option maxRecDepth 100000 in
theorem mm_q232 : mm_qP 232 := ⟨mm_rk232, (mm_tw8 35 rfl rfl), (mm_tw1 14 rfl rfl), fun h => absurd h (by decide +kernel), fun _ => ⟨(mm_tw8 33 rfl rfl), (mm_tw8 34 rfl rfl), _, rfl, rfl, Nat.le_of_ble_eq_true rfl, Nat.le_of_ble_eq_true rfl⟩, rfl, Nat.le_of_ble_eq_true rfl, by decide +kernel, by decide +kernel, by decide +kernel, by decide +kernel⟩
set_option maxRecDepth 100000 in
theorem mm_q233 : mm_qP 233 := ⟨mm_rk233, (mm_tw8 52 rfl rfl), (mm_tw1 14 rfl rfl), fun h => absurd h (by decide +kernel), fun _ => ⟨(mm_tw8 50 rfl rfl), (mm_tw8 51 rfl rfl), _, rfl, rfl, Nat.le_of_ble_eq_true rfl, Nat.le_of_ble_eq_true rfl⟩, rfl, Nat.le_of_ble_eq_true rfl, by decide +kernel, by decide +kernel, by decide +kernel, by decide +kernel⟩
set_option maxRecDepth 100000 in
theorem mm_q234 : mm_qP 234 := ⟨mm_rk234, (mm_tw8 56 rfl rfl), (mm_tw1 14 rfl rfl), fun h => absurd h (by decide +kernel), fun _ => ⟨(mm_tw8 54 rfl rfl), (mm_tw8 55 rfl rfl), _, rfl, rfl, Nat.le_of_ble_eq_true rfl, Nat.le_of_ble_eq_true rfl⟩, rfl, Nat.le_of_ble_eq_true rfl, by decide +kernel, by decide +kernel, by decide +kernel, by decide +kernel⟩
set_option maxRecDepth 100000 in
theorem mm_q235 : mm_qP 235 := ⟨mm_rk235, (mm_tw8 60 rfl rfl), (mm_tw1 14 rfl rfl), fun h => absurd h (by decide +kernel), fun _ => ⟨(mm_tw8 58 rfl rfl), (mm_tw8 59 rfl rfl), _, rfl, rfl, Nat.le_of_ble_eq_true rfl, Nat.le_of_ble_eq_true rfl⟩, rfl, Nat.le_of_ble_eq_true rfl, by decide +kernel, by decide +kernel, by decide +kernel, by decide +kernel⟩
set_option maxRecDepth 100000 in
theorem mm_q236 : mm_qP 236 := ⟨mm_rk236, (mm_tw8 71 rfl rfl), (mm_tw1 14 rfl rfl), fun h => absurd h (by decide +kernel), fun _ => ⟨(mm_tw8 70 rfl rfl), (mm_tp 100 (by decide +kernel) rfl), _, rfl, rfl, Nat.le_of_ble_eq_true rfl, Nat.le_of_ble_eq_true rfl⟩, rfl, Nat.le_of_ble_eq_true rfl, by decide +kernel, by decide +kernel, by decide +kernel, by decide +kernel⟩
set_option maxRecDepth 100000 in
theorem mm_q237 : mm_qP 237 := ⟨mm_rk237, (mm_tw8 75 rfl rfl), (mm_tw1 14 rfl rfl), fun h => absurd h (by decide +kernel), fun _ => ⟨(mm_tw8 74 rfl rfl), (mm_tp 101 (by decide +kernel) rfl), _, rfl, rfl, Nat.le_of_ble_eq_true rfl, Nat.le_of_ble_eq_true rfl⟩, rfl, Nat.le_of_ble_eq_true rfl, by decide +kernel, by decide +kernel, by decide +kernel, by decide +kernel⟩
set_option maxRecDepth 100000 in
theorem mm_q238 : mm_qP 238 := ⟨mm_rk238, (mm_tw8 67 rfl rfl), (mm_tw1 14 rfl rfl), fun h => absurd h (by decide +kernel), fun _ => ⟨(mm_tw8 65 rfl rfl), (mm_tw8 66 rfl rfl), _, rfl, rfl, Nat.le_of_ble_eq_true rfl, Nat.le_of_ble_eq_true rfl⟩, rfl, Nat.le_of_ble_eq_true rfl, by decide +kernel, by decide +kernel, by decide +kernel, by decide +kernel⟩
set_option maxRecDepth 100000 in
theorem mm_q239 : mm_qP 239 := ⟨mm_rk239, (mm_tw8 79 rfl rfl), (mm_tw1 14 rfl rfl), fun h => absurd h (by decide +kernel), fun _ => ⟨(mm_tw8 77 rfl rfl), (mm_tw8 78 rfl rfl), _, rfl, rfl, Nat.le_of_ble_eq_true rfl, Nat.le_of_ble_eq_true rfl⟩, rfl, Nat.le_of_ble_eq_true rfl, by decide +kernel, by decide +kernel, by decide +kernel, by decide +kernel⟩
set_option maxRecDepth 100000 in
theorem mm_q240 : mm_qP 240 := ⟨mm_rk240, (mm_tw8 83 rfl rfl), (mm_tw1 14 rfl rfl), fun h => absurd h (by decide +kernel), fun _ => ⟨(mm_tw8 81 rfl rfl), (mm_tw8 82 rfl rfl), _, rfl, rfl, Nat.le_of_ble_eq_true rfl, Nat.le_of_ble_eq_true rfl⟩, rfl, Nat.le_of_ble_eq_true rfl, by decide +kernel, by decide +kernel, by decide +kernel, by decide +kernel⟩
set_option maxRecDepth 100000 in
theorem mm_q241 : mm_qP 241 := ⟨mm_rk241, (mm_tw8 87 rfl rfl), (mm_tw1 14 rfl rfl), fun h => absurd h (by decide +kernel), fun _ => ⟨(mm_tw8 85 rfl rfl), (mm_tw8 86 rfl rfl), _, rfl, rfl, Nat.le_of_ble_eq_true rfl, Nat.le_of_ble_eq_true rfl⟩, rfl, Nat.le_of_ble_eq_true rfl, by decide +kernel, by decide +kernel, by decide +kernel, by decide +kernel⟩
set_option maxRecDepth 100000 in
theorem mm_q242 : mm_qP 242 := ⟨mm_rk242, (mm_tw8 99 rfl rfl), (mm_tw1 14 rfl rfl), fun h => absurd h (by decide +kernel), fun _ => ⟨(mm_tw8 98 rfl rfl), (mm_tp 103 (by decide +kernel) rfl), _, rfl, rfl, Nat.le_of_ble_eq_true rfl, Nat.le_of_ble_eq_true rfl⟩, rfl, Nat.le_of_ble_eq_true rfl, by decide +kernel, by decide +kernel, by decide +kernel, by decide +kernel⟩
set_option maxRecDepth 100000 in
theorem mm_q243 : mm_qP 243 := ⟨mm_rk243, (mm_tw8 95 rfl rfl), (mm_tw1 14 rfl rfl), fun h => absurd h (by decide +kernel), fun _ => ⟨(mm_tw8 94 rfl rfl), (mm_tp 102 (by decide +kernel) rfl), _, rfl, rfl, Nat.le_of_ble_eq_true rfl, Nat.le_of_ble_eq_true rfl⟩, rfl, Nat.le_of_ble_eq_true rfl, by decide +kernel, by decide +kernel, by decide +kernel, by decide +kernel⟩
set_option maxRecDepth 100000 in
theorem mm_q244 : mm_qP 244 := ⟨mm_rk244, (mm_tw8 91 rfl rfl), (mm_tw1 14 rfl rfl), fun h => absurd h (by decide +kernel), fun _ => ⟨(mm_tw8 89 rfl rfl), (mm_tw8 90 rfl rfl), _, rfl, rfl, Nat.le_of_ble_eq_true rfl, Nat.le_of_ble_eq_true rfl⟩, rfl, Nat.le_of_ble_eq_true rfl, by decide +kernel, by decide +kernel, by decide +kernel, by decide +kernel⟩
set_option maxRecDepth 100000 in
theorem mm_q245 : mm_qP 245 := ⟨mm_rk245, (mm_tw8 103 rfl rfl), (mm_tw1 14 rfl rfl), fun h => absurd h (by decide +kernel), fun _ => ⟨(mm_tw8 101 rfl rfl), (mm_tw8 102 rfl rfl), _, rfl, rfl, Nat.le_of_ble_eq_true rfl, Nat.le_of_ble_eq_true rfl⟩, rfl, Nat.le_of_ble_eq_true rfl, by decide +kernel, by decide +kernel, by decide +kernel, by decide +kernel⟩
set_option maxRecDepth 100000 in
theorem mm_q246 : mm_qP 246 := ⟨mm_rk246, (mm_tw8 115 rfl rfl), (mm_tw1 14 rfl rfl), fun h => absurd h (by decide +kernel), fun _ => ⟨(mm_tw8 114 rfl rfl), (mm_tp 105 (by decide +kernel) rfl), _, rfl, rfl, Nat.le_of_ble_eq_true rfl, Nat.le_of_ble_eq_true rfl⟩, rfl, Nat.le_of_ble_eq_true rfl, by decide +kernel, by decide +kernel, by decide +kernel, by decide +kernel⟩
set_option maxRecDepth 100000 in
theorem mm_q247 : mm_qP 247 := ⟨mm_rk247, (mm_tw8 111 rfl rfl), (mm_tw1 14 rfl rfl), fun h => absurd h (by decide +kernel), fun _ => ⟨(mm_tw8 110 rfl rfl), (mm_tp 104 (by decide +kernel) rfl), _, rfl, rfl, Nat.le_of_ble_eq_true rfl, Nat.le_of_ble_eq_true rfl⟩, rfl, Nat.le_of_ble_eq_true rfl, by decide +kernel, by decide +kernel, by decide +kernel, by decide +kernel⟩
set_option maxRecDepth 100000 in
theorem mm_q248 : mm_qP 248 := ⟨mm_rk248, (mm_tw8 107 rfl rfl), (mm_tw1 14 rfl rfl), fun h => absurd h (by decide +kernel), fun _ => ⟨(mm_tw8 105 rfl rfl), (mm_tw8 106 rfl rfl), _, rfl, rfl, Nat.le_of_ble_eq_true rfl, Nat.le_of_ble_eq_true rfl⟩, rfl, Nat.le_of_ble_eq_true rfl, by decide +kernel, by decide +kernel, by decide +kernel, by decide +kernel⟩
set_option maxRecDepth 100000 in
theorem mm_q249 : mm_qP 249 := ⟨mm_rk249, (mm_tw8 122 rfl rfl), (mm_tw1 14 rfl rfl), fun h => absurd h (by decide +kernel), fun _ => ⟨(mm_tw8 120 rfl rfl), (mm_tw8 121 rfl rfl), _, rfl, rfl, Nat.le_of_ble_eq_true rfl, Nat.le_of_ble_eq_true rfl⟩, rfl, Nat.le_of_ble_eq_true rfl, by decide +kernel, by decide +kernel, by decide +kernel, by decide +kernel⟩
set_option maxRecDepth 100000 in
theorem mm_q250 : mm_qP 250 := ⟨mm_rk250, (mm_tw8 134 rfl rfl), (mm_tw1 14 rfl rfl), fun h => absurd h (by decide +kernel), fun _ => ⟨(mm_tw8 133 rfl rfl), (mm_tp 107 (by decide +kernel) rfl), _, rfl, rfl, Nat.le_of_ble_eq_true rfl, Nat.le_of_ble_eq_true rfl⟩, rfl, Nat.le_of_ble_eq_true rfl, by decide +kernel, by decide +kernel, by decide +kernel, by decide +kernel⟩
set_option maxRecDepth 100000 in
theorem mm_q251 : mm_qP 251 := ⟨mm_rk251, (mm_tw8 130 rfl rfl), (mm_tw1 14 rfl rfl), fun h => absurd h (by decide +kernel), fun _ => ⟨(mm_tw8 129 rfl rfl), (mm_tp 106 (by decide +kernel) rfl), _, rfl, rfl, Nat.le_of_ble_eq_true rfl, Nat.le_of_ble_eq_true rfl⟩, rfl, Nat.le_of_ble_eq_true rfl, by decide +kernel, by decide +kernel, by decide +kernel, by decide +kernel⟩
set_option maxRecDepth 100000 in
theorem mm_q252 : mm_qP 252 := ⟨mm_rk252, (mm_tw8 142 rfl rfl), (mm_tw1 14 rfl rfl), fun h => absurd h (by decide +kernel), fun _ => ⟨(mm_tw8 141 rfl rfl), (mm_tp 109 (by decide +kernel) rfl), _, rfl, rfl, Nat.le_of_ble_eq_true rfl, Nat.le_of_ble_eq_true rfl⟩, rfl, Nat.le_of_ble_eq_true rfl, by decide +kernel, by decide +kernel, by decide +kernel, by decide +kernel⟩
set_option maxRecDepth 100000 in
theorem mm_q253 : mm_qP 253 := ⟨mm_rk253, (mm_tw8 138 rfl rfl), (mm_tw1 14 rfl rfl), fun h => absurd h (by decide +kernel), fun _ => ⟨(mm_tw8 137 rfl rfl), (mm_tp 108 (by decide +kernel) rfl), _, rfl, rfl, Nat.le_of_ble_eq_true rfl, Nat.le_of_ble_eq_true rfl⟩, rfl, Nat.le_of_ble_eq_true rfl, by decide +kernel, by decide +kernel, by decide +kernel, by decide +kernel⟩
set_option maxRecDepth 100000 in
theorem mm_q254 : mm_qP 254 := ⟨mm_rk254, (mm_tw8 126 rfl rfl), (mm_tw1 14 rfl rfl), fun h => absurd h (by decide +kernel), fun _ => ⟨(mm_tw8 124 rfl rfl), (mm_tw8 125 rfl rfl), _, rfl, rfl, Nat.le_of_ble_eq_true rfl, Nat.le_of_ble_eq_true rfl⟩, rfl, Nat.le_of_ble_eq_true rfl, by decide +kernel, by decide +kernel, by decide +kernel, by decide +kernel⟩
set_option maxRecDepth 100000 in
theorem mm_q255 : mm_qP 255 := ⟨mm_rk255, (mm_tw8 146 rfl rfl), (mm_tw1 14 rfl rfl), fun h => absurd h (by decide +kernel), fun _ => ⟨(mm_tw8 144 rfl rfl), (mm_tw8 145 rfl rfl), _, rfl, rfl, Nat.le_of_ble_eq_true rfl, Nat.le_of_ble_eq_true rfl⟩, rfl, Nat.le_of_ble_eq_true rfl, by decide +kernel, by decide +kernel, by decide +kernel, by decide +kernel⟩
set_option maxRecDepth 100000 in
theorem mm_q256 : mm_qP 256 := ⟨mm_rk256, (mm_tw8 158 rfl rfl), (mm_tw1 14 rfl rfl), fun h => absurd h (by decide +kernel), fun _ => ⟨(mm_tw8 157 rfl rfl), (mm_tp 111 (by decide +kernel) rfl), _, rfl, rfl, Nat.le_of_ble_eq_true rfl, Nat.le_of_ble_eq_true rfl⟩, rfl, Nat.le_of_ble_eq_true rfl, by decide +kernel, by decide +kernel, by decide +kernel, by decide +kernel⟩
set_option maxRecDepth 100000 in
theorem mm_q257 : mm_qP 257 := ⟨mm_rk257, (mm_tw8 163 rfl rfl), (mm_tw1 14 rfl rfl), fun h => absurd h (by decide +kernel), fun _ => ⟨(mm_tw8 162 rfl rfl), (mm_tp 112 (by decide +kernel) rfl), _, rfl, rfl, Nat.le_of_ble_eq_true rfl, Nat.le_of_ble_eq_true rfl⟩, rfl, Nat.le_of_ble_eq_true rfl, by decide +kernel, by decide +kernel, by decide +kernel, by decide +kernel⟩
set_option maxRecDepth 100000 in
theorem mm_q258 : mm_qP 258 := ⟨mm_rk258, (mm_tw8 154 rfl rfl), (mm_tw1 14 rfl rfl), fun h => absurd h (by decide +kernel), fun _ => ⟨(mm_tw8 153 rfl rfl), (mm_tp 110 (by decide +kernel) rfl), _, rfl, rfl, Nat.le_of_ble_eq_true rfl, Nat.le_of_ble_eq_true rfl⟩, rfl, Nat.le_of_ble_eq_true rfl, by decide +kernel, by decide +kernel, by decide +kernel, by decide +kernel⟩
set_option maxRecDepth 100000 in
theorem mm_q259 : mm_qP 259 := ⟨mm_rk259, (mm_tw8 150 rfl rfl), (mm_tw1 14 rfl rfl), fun h => absurd h (by decide +kernel), fun _ => ⟨(mm_tw8 148 rfl rfl), (mm_tw8 149 rfl rfl), _, rfl, rfl, Nat.le_of_ble_eq_true rfl, Nat.le_of_ble_eq_true rfl⟩, rfl, Nat.le_of_ble_eq_true rfl, by decide +kernel, by decide +kernel, by decide +kernel, by decide +kernel⟩
set_option maxRecDepth 100000 in
theorem mm_q260 : mm_qP 260 := ⟨mm_rk260, (mm_tw8 167 rfl rfl), (mm_tw1 14 rfl rfl), fun h => absurd h (by decide +kernel), fun _ => ⟨(mm_tw8 165 rfl rfl), (mm_tw8 166 rfl rfl), _, rfl, rfl, Nat.le_of_ble_eq_true rfl, Nat.le_of_ble_eq_true rfl⟩, rfl, Nat.le_of_ble_eq_true rfl, by decide +kernel, by decide +kernel, by decide +kernel, by decide +kernel⟩
set_option maxRecDepth 100000 in
theorem mm_q261 : mm_qP 261 := ⟨mm_rk261, (mm_tw8 191 rfl rfl), (mm_tw1 14 rfl rfl), fun h => absurd h (by decide +kernel), fun _ => ⟨(mm_tw8 190 rfl rfl), (mm_tp 117 (by decide +kernel) rfl), _, rfl, rfl, Nat.le_of_ble_eq_true rfl, Nat.le_of_ble_eq_true rfl⟩, rfl, Nat.le_of_ble_eq_true rfl, by decide +kernel, by decide +kernel, by decide +kernel, by decide +kernel⟩
set_option maxRecDepth 100000 in
theorem mm_q262 : mm_qP 262 := ⟨mm_rk262, (mm_tw8 187 rfl rfl), (mm_tw1 14 rfl rfl), fun h => absurd h (by decide +kernel), fun _ => ⟨(mm_tw8 186 rfl rfl), (mm_tp 116 (by decide +kernel) rfl), _, rfl, rfl, Nat.le_of_ble_eq_true rfl, Nat.le_of_ble_eq_true rfl⟩, rfl, Nat.le_of_ble_eq_true rfl, by decide +kernel, by decide +kernel, by decide +kernel, by decide +kernel⟩
set_option maxRecDepth 100000 in
theorem mm_q263 : mm_qP 263 := ⟨mm_rk263, (mm_tw8 183 rfl rfl), (mm_tw1 14 rfl rfl), fun h => absurd h (by decide +kernel), fun _ => ⟨(mm_tw8 182 rfl rfl), (mm_tp 115 (by decide +kernel) rfl), _, rfl, rfl, Nat.le_of_ble_eq_true rfl, Nat.le_of_ble_eq_true rfl⟩, rfl, Nat.le_of_ble_eq_true rfl, by decide +kernel, by decide +kernel, by decide +kernel, by decide +kernel⟩
set_option maxRecDepth 100000 in
theorem mm_q264 : mm_qP 264 := ⟨mm_rk264, (mm_tw8 179 rfl rfl), (mm_tw1 14 rfl rfl), fun h => absurd h (by decide +kernel), fun _ => ⟨(mm_tw8 178 rfl rfl), (mm_tp 114 (by decide +kernel) rfl), _, rfl, rfl, Nat.le_of_ble_eq_true rfl, Nat.le_of_ble_eq_true rfl⟩, rfl, Nat.le_of_ble_eq_true rfl, by decide +kernel, by decide +kernel, by decide +kernel, by decide +kernel⟩
set_option maxRecDepth 100000 in
theorem mm_q265 : mm_qP 265 := ⟨mm_rk265, (mm_tw8 175 rfl rfl), (mm_tw1 14 rfl rfl), fun h => absurd h (by decide +kernel), fun _ => ⟨(mm_tw8 174 rfl rfl), (mm_tp 113 (by decide +kernel) rfl), _, rfl, rfl, Nat.le_of_ble_eq_true rfl, Nat.le_of_ble_eq_true rfl⟩, rfl, Nat.le_of_ble_eq_true rfl, by decide +kernel, by decide +kernel, by decide +kernel, by decide +kernel⟩
set_option maxRecDepth 100000 in
theorem mm_q266 : mm_qP 266 := ⟨mm_rk266, (mm_tw8 195 rfl rfl), (mm_tw1 14 rfl rfl), fun h => absurd h (by decide +kernel), fun _ => ⟨(mm_tw8 194 rfl rfl), (mm_tp 118 (by decide +kernel) rfl), _, rfl, rfl, Nat.le_of_ble_eq_true rfl, Nat.le_of_ble_eq_true rfl⟩, rfl, Nat.le_of_ble_eq_true rfl, by decide +kernel, by decide +kernel, by decide +kernel, by decide +kernel⟩
set_option maxRecDepth 100000 in
theorem mm_q267 : mm_qP 267 := ⟨mm_rk267, (mm_tw8 171 rfl rfl), (mm_tw1 14 rfl rfl), fun h => absurd h (by decide +kernel), fun _ => ⟨(mm_tw8 169 rfl rfl), (mm_tw8 170 rfl rfl), _, rfl, rfl, Nat.le_of_ble_eq_true rfl, Nat.le_of_ble_eq_true rfl⟩, rfl, Nat.le_of_ble_eq_true rfl, by decide +kernel, by decide +kernel, by decide +kernel, by decide +kernel⟩
set_option maxRecDepth 100000 in
theorem mm_q268 : mm_qP 268 := ⟨mm_rk268, (mm_tw8 199 rfl rfl), (mm_tw1 14 rfl rfl), fun h => absurd h (by decide +kernel), fun _ => ⟨(mm_tw8 198 rfl rfl), (mm_tp 119 (by decide +kernel) rfl), _, rfl, rfl, Nat.le_of_ble_eq_true rfl, Nat.le_of_ble_eq_true rfl⟩, rfl, Nat.le_of_ble_eq_true rfl, by decide +kernel, by decide +kernel, by decide +kernel, by decide +kernel⟩
set_option maxRecDepth 100000 in
theorem mm_q269 : mm_qP 269 := ⟨mm_rk269, (mm_tw8 203 rfl rfl), (mm_tw1 14 rfl rfl), fun h => absurd h (by decide +kernel), fun _ => ⟨(mm_tw8 201 rfl rfl), (mm_tw8 202 rfl rfl), _, rfl, rfl, Nat.le_of_ble_eq_true rfl, Nat.le_of_ble_eq_true rfl⟩, rfl, Nat.le_of_ble_eq_true rfl, by decide +kernel, by decide +kernel, by decide +kernel, by decide +kernel⟩
set_option maxRecDepth 100000 in
theorem mm_q270 : mm_qP 270 := ⟨mm_rk270, (mm_tw8 231 rfl rfl), (mm_tw1 14 rfl rfl), fun h => absurd h (by decide +kernel), fun _ => ⟨(mm_tw8 230 rfl rfl), (mm_tp 125 (by decide +kernel) rfl), _, rfl, rfl, Nat.le_of_ble_eq_true rfl, Nat.le_of_ble_eq_true rfl⟩, rfl, Nat.le_of_ble_eq_true rfl, by decide +kernel, by decide +kernel, by decide +kernel, by decide +kernel⟩
set_option maxRecDepth 100000 in
theorem mm_q271 : mm_qP 271 := ⟨mm_rk271, (mm_tw8 211 rfl rfl), (mm_tw1 14 rfl rfl), fun h => absurd h (by decide +kernel), fun _ => ⟨(mm_tw8 210 rfl rfl), (mm_tp 120 (by decide +kernel) rfl), _, rfl, rfl, Nat.le_of_ble_eq_true rfl, Nat.le_of_ble_eq_true rfl⟩, rfl, Nat.le_of_ble_eq_true rfl, by decide +kernel, by decide +kernel, by decide +kernel, by decide +kernel⟩
set_option maxRecDepth 100000 in
theorem mm_q272 : mm_qP 272 := ⟨mm_rk272, (mm_tw8 215 rfl rfl), (mm_tw1 14 rfl rfl), fun h => absurd h (by decide +kernel), fun _ => ⟨(mm_tw8 214 rfl rfl), (mm_tp 121 (by decide +kernel) rfl), _, rfl, rfl, Nat.le_of_ble_eq_true rfl, Nat.le_of_ble_eq_true rfl⟩, rfl, Nat.le_of_ble_eq_true rfl, by decide +kernel, by decide +kernel, by decide +kernel, by decide +kernel⟩
set_option maxRecDepth 100000 in
theorem mm_q273 : mm_qP 273 := ⟨mm_rk273, (mm_tw8 219 rfl rfl), (mm_tw1 14 rfl rfl), fun h => absurd h (by decide +kernel), fun _ => ⟨(mm_tw8 218 rfl rfl), (mm_tp 122 (by decide +kernel) rfl), _, rfl, rfl, Nat.le_of_ble_eq_true rfl, Nat.le_of_ble_eq_true rfl⟩, rfl, Nat.le_of_ble_eq_true rfl, by decide +kernel, by decide +kernel, by decide +kernel, by decide +kernel⟩
set_option maxRecDepth 100000 in
theorem mm_q274 : mm_qP 274 := ⟨mm_rk274, (mm_tw8 227 rfl rfl), (mm_tw1 14 rfl rfl), fun h => absurd h (by decide +kernel), fun _ => ⟨(mm_tw8 226 rfl rfl), (mm_tp 124 (by decide +kernel) rfl), _, rfl, rfl, Nat.le_of_ble_eq_true rfl, Nat.le_of_ble_eq_true rfl⟩, rfl, Nat.le_of_ble_eq_true rfl, by decide +kernel, by decide +kernel, by decide +kernel, by decide +kernel⟩
set_option maxRecDepth 100000 in
theorem mm_q275 : mm_qP 275 := ⟨mm_rk275, (mm_tw8 223 rfl rfl), (mm_tw1 14 rfl rfl), fun h => absurd h (by decide +kernel), fun _ => ⟨(mm_tw8 222 rfl rfl), (mm_tp 123 (by decide +kernel) rfl), _, rfl, rfl, Nat.le_of_ble_eq_true rfl, Nat.le_of_ble_eq_true rfl⟩, rfl, Nat.le_of_ble_eq_true rfl, by decide +kernel, by decide +kernel, by decide +kernel, by decide +kernel⟩
set_option maxRecDepth 100000 in
theorem mm_q276 : mm_qP 276 := ⟨mm_rk276, (mm_tw8 235 rfl rfl), (mm_tw1 14 rfl rfl), fun h => absurd h (by decide +kernel), fun _ => ⟨(mm_tw8 234 rfl rfl), (mm_tp 126 (by decide +kernel) rfl), _, rfl, rfl, Nat.le_of_ble_eq_true rfl, Nat.le_of_ble_eq_true rfl⟩, rfl, Nat.le_of_ble_eq_true rfl, by decide +kernel, by decide +kernel, by decide +kernel, by decide +kernel⟩
set_option maxRecDepth 100000 in
theorem mm_q277 : mm_qP 277 := ⟨mm_rk277, (mm_tw8 239 rfl rfl), (mm_tw1 14 rfl rfl), fun h => absurd h (by decide +kernel), fun _ => ⟨(mm_tw8 238 rfl rfl), (mm_tp 127 (by decide +kernel) rfl), _, rfl, rfl, Nat.le_of_ble_eq_true rfl, Nat.le_of_ble_eq_true rfl⟩, rfl, Nat.le_of_ble_eq_true rfl, by decide +kernel, by decide +kernel, by decide +kernel, by decide +kernel⟩
set_option maxRecDepth 100000 in
theorem mm_q278 : mm_qP 278 := ⟨mm_rk278, (mm_tw8 207 rfl rfl), (mm_tw1 14 rfl rfl), fun h => absurd h (by decide +kernel), fun _ => ⟨(mm_tw8 205 rfl rfl), (mm_tw8 206 rfl rfl), _, rfl, rfl, Nat.le_of_ble_eq_true rfl, Nat.le_of_ble_eq_true rfl⟩, rfl, Nat.le_of_ble_eq_true rfl, by decide +kernel, by decide +kernel, by decide +kernel, by decide +kernel⟩
set_option maxRecDepth 100000 in
theorem mm_q279 : mm_qP 279 := ⟨mm_rk279, (mm_tw9 7 rfl rfl), (mm_tw1 14 rfl rfl), fun h => absurd h (by decide +kernel), fun _ => ⟨(mm_tw9 6 rfl rfl), (mm_tp 128 (by decide +kernel) rfl), _, rfl, rfl, Nat.le_of_ble_eq_true rfl, Nat.le_of_ble_eq_true rfl⟩, rfl, Nat.le_of_ble_eq_true rfl, by decide +kernel, by decide +kernel, by decide +kernel, by decide +kernel⟩
set_option maxRecDepth 100000 in
theorem mm_q280 : mm_qP 280 := ⟨mm_rk280, (mm_tw9 3 rfl rfl), (mm_tw1 14 rfl rfl), fun h => absurd h (by decide +kernel), fun _ => ⟨(mm_tw9 1 rfl rfl), (mm_tw9 2 rfl rfl), _, rfl, rfl, Nat.le_of_ble_eq_true rfl, Nat.le_of_ble_eq_true rfl⟩, rfl, Nat.le_of_ble_eq_true rfl, by decide +kernel, by decide +kernel, by decide +kernel, by decide +kernel⟩
set_option maxRecDepth 100000 in
theorem mm_q281 : mm_qP 281 := ⟨mm_rk281, (mm_tw9 11 rfl rfl), (mm_tw1 14 rfl rfl), fun h => absurd h (by decide +kernel), fun _ => ⟨(mm_tw9 9 rfl rfl), (mm_tw9 10 rfl rfl), _, rfl, rfl, Nat.le_of_ble_eq_true rfl, Nat.le_of_ble_eq_true rfl⟩, rfl, Nat.le_of_ble_eq_true rfl, by decide +kernel, by decide +kernel, by decide +kernel, by decide +kernel⟩
set_option maxRecDepth 100000 in
theorem mm_q282 : mm_qP 282 := ⟨mm_rk282, (mm_tw9 15 rfl rfl), (mm_tw1 14 rfl rfl), fun h => absurd h (by decide +kernel), fun _ => ⟨(mm_tw9 13 rfl rfl), (mm_tw9 14 rfl rfl), _, rfl, rfl, Nat.le_of_ble_eq_true rfl, Nat.le_of_ble_eq_true rfl⟩, rfl, Nat.le_of_ble_eq_true rfl, by decide +kernel, by decide +kernel, by decide +kernel, by decide +kernel⟩
set_option maxRecDepth 100000 in
theorem mm_q283 : mm_qP 283 := ⟨mm_rk283, (mm_tw9 19 rfl rfl), (mm_tw1 14 rfl rfl), fun h => absurd h (by decide +kernel), fun _ => ⟨(mm_tw9 17 rfl rfl), (mm_tw9 18 rfl rfl), _, rfl, rfl, Nat.le_of_ble_eq_true rfl, Nat.le_of_ble_eq_true rfl⟩, rfl, Nat.le_of_ble_eq_true rfl, by decide +kernel, by decide +kernel, by decide +kernel, by decide +kernel⟩
set_option maxRecDepth 100000 in
theorem mm_q_in : ∀ q ∈ [0, 1, 2, 3, 4, 5, 6, 7, 8, 9, 10, 11, 12, 13, 14, 15, 16, 17, 18, 19, 20, 21, 22, 23, 24, 25, 26, 27, 28, 29, 30, 31, 32, 33, 34, 35, 36, 37, 38, 39, 40, 41, 42, 43, 44, 45, 46, 47, 48, 49, 50, 51, 52, 53, 54, 55, 56, 57, 58, 59, 60, 61, 62, 63, 64, 65, 66, 67, 68, 69, 70, 71, 72, 73, 74, 75, 76, 77, 78, 79, 80, 81, 82, 83, 84, 85, 86, 87, 88, 89, 90, 91, 92, 93, 94, 95, 96, 97, 98, 99, 100, 101, 102, 103, 104, 105, 106, 107, 108, 109, 110, 111, 112, 113, 114, 115, 116, 117, 118, 119, 120, 121, 122, 123, 124, 125, 126, 127, 128, 129, 130, 131, 132, 133, 134, 135, 136, 137, 138, 139, 140, 141, 142, 143, 144, 145, 146, 147, 148, 149, 150, 151, 152, 153, 154, 155, 156, 157, 158, 159, 160, 161, 162, 163, 164, 165, 166, 167, 168, 169, 170, 171, 172, 173, 174, 175, 176, 177, 178, 179, 180, 181, 182, 183, 184, 185, 186, 187, 188, 189, 190, 191, 192, 193, 194, 195, 196, 197, 198, 199, 200, 201, 202, 203, 204, 205, 206, 207, 208, 209, 210, 211, 212, 213, 214, 215, 216, 217, 218, 219, 220, 221, 222, 223, 224, 225, 226, 227, 228, 229, 230, 231, 232, 233, 234, 235, 236, 237, 238, 239, 240, 241, 242, 243, 244, 245, 246, 247, 248, 249, 250, 251, 252, 253, 254, 255, 256, 257, 258, 259, 260, 261, 262, 263, 264, 265, 266, 267, 268, 269, 270, 271, 272, 273, 274, 275, 276, 277, 278, 279, 280, 281, 282, 283], mm_qP q := (List.forall_mem_cons.mpr ⟨mm_q0, (List.forall_mem_cons.mpr ⟨mm_q1, (List.forall_mem_cons.mpr ⟨mm_q2, (List.forall_mem_cons.mpr ⟨mm_q3, (List.forall_mem_cons.mpr ⟨mm_q4, (List.forall_mem_cons.mpr ⟨mm_q5, (List.forall_mem_cons.mpr ⟨mm_q6, (List.forall_mem_cons.mpr ⟨mm_q7, (List.forall_mem_cons.mpr ⟨mm_q8, (List.forall_mem_cons.mpr ⟨mm_q9, (List.forall_mem_cons.mpr ⟨mm_q10, (List.forall_mem_cons.mpr ⟨mm_q11, (List.forall_mem_cons.mpr ⟨mm_q12, (List.forall_mem_cons.mpr ⟨mm_q13, (List.forall_mem_cons.mpr ⟨mm_q14, (List.forall_mem_cons.mpr ⟨mm_q15, (List.forall_mem_cons.mpr ⟨mm_q16, (List.forall_mem_cons.mpr ⟨mm_q17, (List.forall_mem_cons.mpr ⟨mm_q18, (List.forall_mem_cons.mpr ⟨mm_q19, (List.forall_mem_cons.mpr ⟨mm_q20, (List.forall_mem_cons.mpr ⟨mm_q21, (List.forall_mem_cons.mpr ⟨mm_q22, (List.forall_mem_cons.mpr ⟨mm_q23, (List.forall_mem_cons.mpr ⟨mm_q24, (List.forall_mem_cons.mpr ⟨mm_q25, (List.forall_mem_cons.mpr ⟨mm_q26, (List.forall_mem_cons.mpr ⟨mm_q27, (List.forall_mem_cons.mpr ⟨mm_q28, (List.forall_mem_cons.mpr ⟨mm_q29, (List.forall_mem_cons.mpr ⟨mm_q30, (List.forall_mem_cons.mpr ⟨mm_q31, (List.forall_mem_cons.mpr ⟨mm_q32, (List.forall_mem_cons.mpr ⟨mm_q33, (List.forall_mem_cons.mpr ⟨mm_q34, (List.forall_mem_cons.mpr ⟨mm_q35, (List.forall_mem_cons.mpr ⟨mm_q36, (List.forall_mem_cons.mpr ⟨mm_q37, (List.forall_mem_cons.mpr ⟨mm_q38, (List.forall_mem_cons.mpr ⟨mm_q39, (List.forall_mem_cons.mpr ⟨mm_q40, (List.forall_mem_cons.mpr ⟨mm_q41, (List.forall_mem_cons.mpr ⟨mm_q42, (List.forall_mem_cons.mpr ⟨mm_q43, (List.forall_mem_cons.mpr ⟨mm_q44, (List.forall_mem_cons.mpr ⟨mm_q45, (List.forall_mem_cons.mpr ⟨mm_q46, (List.forall_mem_cons.mpr ⟨mm_q47, (List.forall_mem_cons.mpr ⟨mm_q48, (List.forall_mem_cons.mpr ⟨mm_q49, (List.forall_mem_cons.mpr ⟨mm_q50, (List.forall_mem_cons.mpr ⟨mm_q51, (List.forall_mem_cons.mpr ⟨mm_q52, (List.forall_mem_cons.mpr ⟨mm_q53, (List.forall_mem_cons.mpr ⟨mm_q54, (List.forall_mem_cons.mpr ⟨mm_q55, (List.forall_mem_cons.mpr ⟨mm_q56, (List.forall_mem_cons.mpr ⟨mm_q57, (List.forall_mem_cons.mpr ⟨mm_q58, (List.forall_mem_cons.mpr ⟨mm_q59, (List.forall_mem_cons.mpr ⟨mm_q60, (List.forall_mem_cons.mpr ⟨mm_q61, (List.forall_mem_cons.mpr ⟨mm_q62, (List.forall_mem_cons.mpr ⟨mm_q63, (List.forall_mem_cons.mpr ⟨mm_q64, (List.forall_mem_cons.mpr ⟨mm_q65, (List.forall_mem_cons.mpr ⟨mm_q66, (List.forall_mem_cons.mpr ⟨mm_q67, (List.forall_mem_cons.mpr ⟨mm_q68, (List.forall_mem_cons.mpr ⟨mm_q69, (List.forall_mem_cons.mpr ⟨mm_q70, (List.forall_mem_cons.mpr ⟨mm_q71, (List.forall_mem_cons.mpr ⟨mm_q72, (List.forall_mem_cons.mpr ⟨mm_q73, (List.forall_mem_cons.mpr ⟨mm_q74, (List.forall_mem_cons.mpr ⟨mm_q75, (List.forall_mem_cons.mpr ⟨mm_q76, (List.forall_mem_cons.mpr ⟨mm_q77, (List.forall_mem_cons.mpr ⟨mm_q78, (List.forall_mem_cons.mpr ⟨mm_q79, (List.forall_mem_cons.mpr ⟨mm_q80, (List.forall_mem_cons.mpr ⟨mm_q81, (List.forall_mem_cons.mpr ⟨mm_q82, (List.forall_mem_cons.mpr ⟨mm_q83, (List.forall_mem_cons.mpr ⟨mm_q84, (List.forall_mem_cons.mpr ⟨mm_q85, (List.forall_mem_cons.mpr ⟨mm_q86, (List.forall_mem_cons.mpr ⟨mm_q87, (List.forall_mem_cons.mpr ⟨mm_q88, (List.forall_mem_cons.mpr ⟨mm_q89, (List.forall_mem_cons.mpr ⟨mm_q90, (List.forall_mem_cons.mpr ⟨mm_q91, (List.forall_mem_cons.mpr ⟨mm_q92, (List.forall_mem_cons.mpr ⟨mm_q93, (List.forall_mem_cons.mpr ⟨mm_q94, (List.forall_mem_cons.mpr ⟨mm_q95, (List.forall_mem_cons.mpr ⟨mm_q96, (List.forall_mem_cons.mpr ⟨mm_q97, (List.forall_mem_cons.mpr ⟨mm_q98, (List.forall_mem_cons.mpr ⟨mm_q99, (List.forall_mem_cons.mpr ⟨mm_q100, (List.forall_mem_cons.mpr ⟨mm_q101, (List.forall_mem_cons.mpr ⟨mm_q102, (List.forall_mem_cons.mpr ⟨mm_q103, (List.forall_mem_cons.mpr ⟨mm_q104, (List.forall_mem_cons.mpr ⟨mm_q105, (List.forall_mem_cons.mpr ⟨mm_q106, (List.forall_mem_cons.mpr ⟨mm_q107, (List.forall_mem_cons.mpr ⟨mm_q108, (List.forall_mem_cons.mpr ⟨mm_q109, (List.forall_mem_cons.mpr ⟨mm_q110, (List.forall_mem_cons.mpr ⟨mm_q111, (List.forall_mem_cons.mpr ⟨mm_q112, (List.forall_mem_cons.mpr ⟨mm_q113, (List.forall_mem_cons.mpr ⟨mm_q114, (List.forall_mem_cons.mpr ⟨mm_q115, (List.forall_mem_cons.mpr ⟨mm_q116, (List.forall_mem_cons.mpr ⟨mm_q117, (List.forall_mem_cons.mpr ⟨mm_q118, (List.forall_mem_cons.mpr ⟨mm_q119, (List.forall_mem_cons.mpr ⟨mm_q120, (List.forall_mem_cons.mpr ⟨mm_q121, (List.forall_mem_cons.mpr ⟨mm_q122, (List.forall_mem_cons.mpr ⟨mm_q123, (List.forall_mem_cons.mpr ⟨mm_q124, (List.forall_mem_cons.mpr ⟨mm_q125, (List.forall_mem_cons.mpr ⟨mm_q126, (List.forall_mem_cons.mpr ⟨mm_q127, (List.forall_mem_cons.mpr ⟨mm_q128, (List.forall_mem_cons.mpr ⟨mm_q129, (List.forall_mem_cons.mpr ⟨mm_q130, (List.forall_mem_cons.mpr ⟨mm_q131, (List.forall_mem_cons.mpr ⟨mm_q132, (List.forall_mem_cons.mpr ⟨mm_q133, (List.forall_mem_cons.mpr ⟨mm_q134, (List.forall_mem_cons.mpr ⟨mm_q135, (List.forall_mem_cons.mpr ⟨mm_q136, (List.forall_mem_cons.mpr ⟨mm_q137, (List.forall_mem_cons.mpr ⟨mm_q138, (List.forall_mem_cons.mpr ⟨mm_q139, (List.forall_mem_cons.mpr ⟨mm_q140, (List.forall_mem_cons.mpr ⟨mm_q141, (List.forall_mem_cons.mpr ⟨mm_q142, (List.forall_mem_cons.mpr ⟨mm_q143, (List.forall_mem_cons.mpr ⟨mm_q144, (List.forall_mem_cons.mpr ⟨mm_q145, (List.forall_mem_cons.mpr ⟨mm_q146, (List.forall_mem_cons.mpr ⟨mm_q147, (List.forall_mem_cons.mpr ⟨mm_q148, (List.forall_mem_cons.mpr ⟨mm_q149, (List.forall_mem_cons.mpr ⟨mm_q150, (List.forall_mem_cons.mpr ⟨mm_q151, (List.forall_mem_cons.mpr ⟨mm_q152, (List.forall_mem_cons.mpr ⟨mm_q153, (List.forall_mem_cons.mpr ⟨mm_q154, (List.forall_mem_cons.mpr ⟨mm_q155, (List.forall_mem_cons.mpr ⟨mm_q156, (List.forall_mem_cons.mpr ⟨mm_q157, (List.forall_mem_cons.mpr ⟨mm_q158, (List.forall_mem_cons.mpr ⟨mm_q159, (List.forall_mem_cons.mpr ⟨mm_q160, (List.forall_mem_cons.mpr ⟨mm_q161, (List.forall_mem_cons.mpr ⟨mm_q162, (List.forall_mem_cons.mpr ⟨mm_q163, (List.forall_mem_cons.mpr ⟨mm_q164, (List.forall_mem_cons.mpr ⟨mm_q165, (List.forall_mem_cons.mpr ⟨mm_q166, (List.forall_mem_cons.mpr ⟨mm_q167, (List.forall_mem_cons.mpr ⟨mm_q168, (List.forall_mem_cons.mpr ⟨mm_q169, (List.forall_mem_cons.mpr ⟨mm_q170, (List.forall_mem_cons.mpr ⟨mm_q171, (List.forall_mem_cons.mpr ⟨mm_q172, (List.forall_mem_cons.mpr ⟨mm_q173, (List.forall_mem_cons.mpr ⟨mm_q174, (List.forall_mem_cons.mpr ⟨mm_q175, (List.forall_mem_cons.mpr ⟨mm_q176, (List.forall_mem_cons.mpr ⟨mm_q177, (List.forall_mem_cons.mpr ⟨mm_q178, (List.forall_mem_cons.mpr ⟨mm_q179, (List.forall_mem_cons.mpr ⟨mm_q180, (List.forall_mem_cons.mpr ⟨mm_q181, (List.forall_mem_cons.mpr ⟨mm_q182, (List.forall_mem_cons.mpr ⟨mm_q183, (List.forall_mem_cons.mpr ⟨mm_q184, (List.forall_mem_cons.mpr ⟨mm_q185, (List.forall_mem_cons.mpr ⟨mm_q186, (List.forall_mem_cons.mpr ⟨mm_q187, (List.forall_mem_cons.mpr ⟨mm_q188, (List.forall_mem_cons.mpr ⟨mm_q189, (List.forall_mem_cons.mpr ⟨mm_q190, (List.forall_mem_cons.mpr ⟨mm_q191, (List.forall_mem_cons.mpr ⟨mm_q192, (List.forall_mem_cons.mpr ⟨mm_q193, (List.forall_mem_cons.mpr ⟨mm_q194, (List.forall_mem_cons.mpr ⟨mm_q195, (List.forall_mem_cons.mpr ⟨mm_q196, (List.forall_mem_cons.mpr ⟨mm_q197, (List.forall_mem_cons.mpr ⟨mm_q198, (List.forall_mem_cons.mpr ⟨mm_q199, (List.forall_mem_cons.mpr ⟨mm_q200, (List.forall_mem_cons.mpr ⟨mm_q201, (List.forall_mem_cons.mpr ⟨mm_q202, (List.forall_mem_cons.mpr ⟨mm_q203, (List.forall_mem_cons.mpr ⟨mm_q204, (List.forall_mem_cons.mpr ⟨mm_q205, (List.forall_mem_cons.mpr ⟨mm_q206, (List.forall_mem_cons.mpr ⟨mm_q207, (List.forall_mem_cons.mpr ⟨mm_q208, (List.forall_mem_cons.mpr ⟨mm_q209, (List.forall_mem_cons.mpr ⟨mm_q210, (List.forall_mem_cons.mpr ⟨mm_q211, (List.forall_mem_cons.mpr ⟨mm_q212, (List.forall_mem_cons.mpr ⟨mm_q213, (List.forall_mem_cons.mpr ⟨mm_q214, (List.forall_mem_cons.mpr ⟨mm_q215, (List.forall_mem_cons.mpr ⟨mm_q216, (List.forall_mem_cons.mpr ⟨mm_q217, (List.forall_mem_cons.mpr ⟨mm_q218, (List.forall_mem_cons.mpr ⟨mm_q219, (List.forall_mem_cons.mpr ⟨mm_q220, (List.forall_mem_cons.mpr ⟨mm_q221, (List.forall_mem_cons.mpr ⟨mm_q222, (List.forall_mem_cons.mpr ⟨mm_q223, (List.forall_mem_cons.mpr ⟨mm_q224, (List.forall_mem_cons.mpr ⟨mm_q225, (List.forall_mem_cons.mpr ⟨mm_q226, (List.forall_mem_cons.mpr ⟨mm_q227, (List.forall_mem_cons.mpr ⟨mm_q228, (List.forall_mem_cons.mpr ⟨mm_q229, (List.forall_mem_cons.mpr ⟨mm_q230, (List.forall_mem_cons.mpr ⟨mm_q231, (List.forall_mem_cons.mpr ⟨mm_q232, (List.forall_mem_cons.mpr ⟨mm_q233, (List.forall_mem_cons.mpr ⟨mm_q234, (List.forall_mem_cons.mpr ⟨mm_q235, (List.forall_mem_cons.mpr ⟨mm_q236, (List.forall_mem_cons.mpr ⟨mm_q237, (List.forall_mem_cons.mpr ⟨mm_q238, (List.forall_mem_cons.mpr ⟨mm_q239, (List.forall_mem_cons.mpr ⟨mm_q240, (List.forall_mem_cons.mpr ⟨mm_q241, (List.forall_mem_cons.mpr ⟨mm_q242, (List.forall_mem_cons.mpr ⟨mm_q243, (List.forall_mem_cons.mpr ⟨mm_q244, (List.forall_mem_cons.mpr ⟨mm_q245, (List.forall_mem_cons.mpr ⟨mm_q246, (List.forall_mem_cons.mpr ⟨mm_q247, (List.forall_mem_cons.mpr ⟨mm_q248, (List.forall_mem_cons.mpr ⟨mm_q249, (List.forall_mem_cons.mpr ⟨mm_q250, (List.forall_mem_cons.mpr ⟨mm_q251, (List.forall_mem_cons.mpr ⟨mm_q252, (List.forall_mem_cons.mpr ⟨mm_q253, (List.forall_mem_cons.mpr ⟨mm_q254, (List.forall_mem_cons.mpr ⟨mm_q255, (List.forall_mem_cons.mpr ⟨mm_q256, (List.forall_mem_cons.mpr ⟨mm_q257, (List.forall_mem_cons.mpr ⟨mm_q258, (List.forall_mem_cons.mpr ⟨mm_q259, (List.forall_mem_cons.mpr ⟨mm_q260, (List.forall_mem_cons.mpr ⟨mm_q261, (List.forall_mem_cons.mpr ⟨mm_q262, (List.forall_mem_cons.mpr ⟨mm_q263, (List.forall_mem_cons.mpr ⟨mm_q264, (List.forall_mem_cons.mpr ⟨mm_q265, (List.forall_mem_cons.mpr ⟨mm_q266, (List.forall_mem_cons.mpr ⟨mm_q267, (List.forall_mem_cons.mpr ⟨mm_q268, (List.forall_mem_cons.mpr ⟨mm_q269, (List.forall_mem_cons.mpr ⟨mm_q270, (List.forall_mem_cons.mpr ⟨mm_q271, (List.forall_mem_cons.mpr ⟨mm_q272, (List.forall_mem_cons.mpr ⟨mm_q273, (List.forall_mem_cons.mpr ⟨mm_q274, (List.forall_mem_cons.mpr ⟨mm_q275, (List.forall_mem_cons.mpr ⟨mm_q276, (List.forall_mem_cons.mpr ⟨mm_q277, (List.forall_mem_cons.mpr ⟨mm_q278, (List.forall_mem_cons.mpr ⟨mm_q279, (List.forall_mem_cons.mpr ⟨mm_q280, (List.forall_mem_cons.mpr ⟨mm_q281, (List.forall_mem_cons.mpr ⟨mm_q282, (List.forall_mem_cons.mpr ⟨mm_q283, (fun _ h => absurd h List.not_mem_nil)⟩)⟩)⟩)⟩)⟩)⟩)⟩)⟩)⟩)⟩)⟩)⟩)⟩)⟩)⟩)⟩)⟩)⟩)⟩)⟩)⟩)⟩)⟩)⟩)⟩)⟩)⟩)⟩)⟩)⟩)⟩)⟩)⟩)⟩)⟩)⟩)⟩)⟩)⟩)⟩)⟩)⟩)⟩)⟩)⟩)⟩)⟩)⟩)⟩)⟩)⟩)⟩)⟩)⟩)⟩)⟩)⟩)⟩)⟩)⟩)⟩)⟩)⟩)⟩)⟩)⟩)⟩)⟩)⟩)⟩)⟩)⟩)⟩)⟩)⟩)⟩)⟩)⟩)⟩)⟩)⟩)⟩)⟩)⟩)⟩)⟩)⟩)⟩)⟩)⟩)⟩)⟩)⟩)⟩)⟩)⟩)⟩)⟩)⟩)⟩)⟩)⟩)⟩)⟩)⟩)⟩)⟩)⟩)⟩)⟩)⟩)⟩)⟩)⟩)⟩)⟩)⟩)⟩)⟩)⟩)⟩)⟩)⟩)⟩)⟩)⟩)⟩)⟩)⟩)⟩)⟩)⟩)⟩)⟩)⟩)⟩)⟩)⟩)⟩)⟩)⟩)⟩)⟩)⟩)⟩)⟩)⟩)⟩)⟩)⟩)⟩)⟩)⟩)⟩)⟩)⟩)⟩)⟩)⟩)⟩)⟩)⟩)⟩)⟩)⟩)⟩)⟩)⟩)⟩)⟩)⟩)⟩)⟩)⟩)⟩)⟩)⟩)⟩)⟩)⟩)⟩)⟩)⟩)⟩)⟩)⟩)⟩)⟩)⟩)⟩)⟩)⟩)⟩)⟩)⟩)⟩)⟩)⟩)⟩)⟩)⟩)⟩)⟩)⟩)⟩)⟩)⟩)⟩)⟩)⟩)⟩)⟩)⟩)⟩)⟩)⟩)⟩)⟩)⟩)⟩)⟩)⟩)⟩)⟩)⟩)⟩)⟩)⟩)⟩)⟩)⟩)⟩)⟩)⟩)⟩)⟩)⟩)⟩)⟩)⟩)⟩)⟩)⟩)⟩)⟩)⟩)⟩)⟩)⟩)⟩)⟩)⟩)⟩)⟩)⟩)⟩)⟩)⟩)⟩)⟩)⟩)⟩)⟩)⟩)⟩)⟩)⟩)⟩)⟩)⟩)⟩)⟩)⟩)⟩)⟩)⟩)⟩)⟩)⟩)⟩)⟩)⟩)⟩)⟩)
set_option maxRecDepth 100000 in
theorem mm_q_ok {q : Nat} (h : q < 284) : mm_qP q := mm_q_in q (by have := List.mem_range.mpr h; exact (show List.range 284 = [0, 1, 2, 3, 4, 5, 6, 7, 8, 9, 10, 11, 12, 13, 14, 15, 16, 17, 18, 19, 20, 21, 22, 23, 24, 25, 26, 27, 28, 29, 30, 31, 32, 33, 34, 35, 36, 37, 38, 39, 40, 41, 42, 43, 44, 45, 46, 47, 48, 49, 50, 51, 52, 53, 54, 55, 56, 57, 58, 59, 60, 61, 62, 63, 64, 65, 66, 67, 68, 69, 70, 71, 72, 73, 74, 75, 76, 77, 78, 79, 80, 81, 82, 83, 84, 85, 86, 87, 88, 89, 90, 91, 92, 93, 94, 95, 96, 97, 98, 99, 100, 101, 102, 103, 104, 105, 106, 107, 108, 109, 110, 111, 112, 113, 114, 115, 116, 117, 118, 119, 120, 121, 122, 123, 124, 125, 126, 127, 128, 129, 130, 131, 132, 133, 134, 135, 136, 137, 138, 139, 140, 141, 142, 143, 144, 145, 146, 147, 148, 149, 150, 151, 152, 153, 154, 155, 156, 157, 158, 159, 160, 161, 162, 163, 164, 165, 166, 167, 168, 169, 170, 171, 172, 173, 174, 175, 176, 177, 178, 179, 180, 181, 182, 183, 184, 185, 186, 187, 188, 189, 190, 191, 192, 193, 194, 195, 196, 197, 198, 199, 200, 201, 202, 203, 204, 205, 206, 207, 208, 209, 210, 211, 212, 213, 214, 215, 216, 217, 218, 219, 220, 221, 222, 223, 224, 225, 226, 227, 228, 229, 230, 231, 232, 233, 234, 235, 236, 237, 238, 239, 240, 241, 242, 243, 244, 245, 246, 247, 248, 249, 250, 251, 252, 253, 254, 255, 256, 257, 258, 259, 260, 261, 262, 263, 264, 265, 266, 267, 268, 269, 270, 271, 272, 273, 274, 275, 276, 277, 278, 279, 280, 281, 282, 283] from rfl) ▸ this)
/-- what the tables say of the classes of the kinds 10 and on -/
def mm_clP (t : Nat) : Prop := ∃ (r : vw_C) (ty : Nat → FieldType), vwCl[t - 10]? = some r ∧ r.2.2 = mm_fn t ∧ (∀ w ∈ u_ws r.1 r.2.1 r.2.2, w ∈ mm_TW) ∧ (∀ k, k < r.2.2 → parseFieldDescriptor (r.2.1 k).2.2.1 = some (ty k)) ∧ (∀ a, a < r.2.2 → ∀ b, b < r.2.2 → a ≠ b → (r.2.1 a).2.1 ≠ (r.2.1 b).2.1) ∧ (∀ k, k < r.2.2 → ((mm_fcd t k).1 = 0 → ty k = .int ∧ (r.2.1 k).2.2.2 = false) ∧ ((mm_fcd t k).1 = 1 → ty k = .long ∧ (r.2.1 k).2.2.2 = false) ∧ ((mm_fcd t k).1 = 2 → ty k = .object "HiccupTown$Word" ∧ (r.2.1 k).2.2.2 = false) ∧ ((mm_fcd t k).1 = 5 → ty k = .boolean ∧ (r.2.1 k).2.2.2 = false))
set_option maxRecDepth 100000 in
theorem mm_cw10 : ∀ w ∈ u_ws RX0 TX0 8, w ∈ mm_TW := (List.forall_mem_cons.mpr ⟨(mm_tw2 106 rfl rfl), (List.forall_mem_cons.mpr ⟨(mm_tw2 108 rfl rfl), (List.forall_mem_cons.mpr ⟨(mm_tw2 110 rfl rfl), (List.forall_mem_cons.mpr ⟨(mm_tw2 112 rfl rfl), (List.forall_mem_cons.mpr ⟨(mm_tw2 114 rfl rfl), (List.forall_mem_cons.mpr ⟨(mm_tw2 116 rfl rfl), (List.forall_mem_cons.mpr ⟨(mm_tw2 118 rfl rfl), (List.forall_mem_cons.mpr ⟨(mm_tw2 120 rfl rfl), (fun _ h => absurd h List.not_mem_nil)⟩)⟩)⟩)⟩)⟩)⟩)⟩)⟩)
set_option maxRecDepth 100000 in
theorem mm_cl10 : mm_clP 10 := ⟨_, tyX0, rfl, rfl, mm_cw10, tyX0_ok, nmX0, by decide +kernel⟩
set_option maxRecDepth 100000 in
theorem mm_cw11 : ∀ w ∈ u_ws RX1 TX1 4, w ∈ mm_TW := (List.forall_mem_cons.mpr ⟨(mm_tw2 61 rfl rfl), (List.forall_mem_cons.mpr ⟨(mm_tw2 63 rfl rfl), (List.forall_mem_cons.mpr ⟨(mm_tw2 65 rfl rfl), (List.forall_mem_cons.mpr ⟨(mm_tw2 67 rfl rfl), (fun _ h => absurd h List.not_mem_nil)⟩)⟩)⟩)⟩)
set_option maxRecDepth 100000 in
theorem mm_cl11 : mm_clP 11 := ⟨_, tyX1, rfl, rfl, mm_cw11, tyX1_ok, nmX1, by decide +kernel⟩
set_option maxRecDepth 100000 in
theorem mm_cw12 : ∀ w ∈ u_ws RX2 TX2 9, w ∈ mm_TW := (List.forall_mem_cons.mpr ⟨(mm_tw1 206 rfl rfl), (List.forall_mem_cons.mpr ⟨(mm_tw1 208 rfl rfl), (List.forall_mem_cons.mpr ⟨(mm_tw1 210 rfl rfl), (List.forall_mem_cons.mpr ⟨(mm_tw1 212 rfl rfl), (List.forall_mem_cons.mpr ⟨(mm_tw1 214 rfl rfl), (List.forall_mem_cons.mpr ⟨(mm_tw1 216 rfl rfl), (List.forall_mem_cons.mpr ⟨(mm_tw1 218 rfl rfl), (List.forall_mem_cons.mpr ⟨(mm_tw1 220 rfl rfl), (List.forall_mem_cons.mpr ⟨(mm_tw1 222 rfl rfl), (fun _ h => absurd h List.not_mem_nil)⟩)⟩)⟩)⟩)⟩)⟩)⟩)⟩)⟩)
set_option maxRecDepth 100000 in
theorem mm_cl12 : mm_clP 12 := ⟨_, tyX2, rfl, rfl, mm_cw12, tyX2_ok, nmX2, by decide +kernel⟩
set_option maxRecDepth 100000 in
theorem mm_cw13 : ∀ w ∈ u_ws RX3 TX3 3, w ∈ mm_TW := (List.forall_mem_cons.mpr ⟨(mm_tw2 39 rfl rfl), (List.forall_mem_cons.mpr ⟨(mm_tw2 41 rfl rfl), (List.forall_mem_cons.mpr ⟨(mm_tw2 43 rfl rfl), (fun _ h => absurd h List.not_mem_nil)⟩)⟩)⟩)
set_option maxRecDepth 100000 in
theorem mm_cl13 : mm_clP 13 := ⟨_, tyX3, rfl, rfl, mm_cw13, tyX3_ok, nmX3, by decide +kernel⟩
set_option maxRecDepth 100000 in
theorem mm_cw14 : ∀ w ∈ u_ws RX4 TX4 11, w ∈ mm_TW := (List.forall_mem_cons.mpr ⟨(mm_tw1 135 rfl rfl), (List.forall_mem_cons.mpr ⟨(mm_tw1 137 rfl rfl), (List.forall_mem_cons.mpr ⟨(mm_tw1 139 rfl rfl), (List.forall_mem_cons.mpr ⟨(mm_tw1 141 rfl rfl), (List.forall_mem_cons.mpr ⟨(mm_tw1 143 rfl rfl), (List.forall_mem_cons.mpr ⟨(mm_tw1 145 rfl rfl), (List.forall_mem_cons.mpr ⟨(mm_tw1 147 rfl rfl), (List.forall_mem_cons.mpr ⟨(mm_tw1 149 rfl rfl), (List.forall_mem_cons.mpr ⟨(mm_tw1 151 rfl rfl), (List.forall_mem_cons.mpr ⟨(mm_tw1 153 rfl rfl), (List.forall_mem_cons.mpr ⟨(mm_tw1 155 rfl rfl), (fun _ h => absurd h List.not_mem_nil)⟩)⟩)⟩)⟩)⟩)⟩)⟩)⟩)⟩)⟩)⟩)
set_option maxRecDepth 100000 in
theorem mm_cl14 : mm_clP 14 := ⟨_, tyX4, rfl, rfl, mm_cw14, tyX4_ok, nmX4, by decide +kernel⟩
set_option maxRecDepth 100000 in
theorem mm_cw15 : ∀ w ∈ u_ws RX5 TX5 3, w ∈ mm_TW := (List.forall_mem_cons.mpr ⟨(mm_tw2 84 rfl rfl), (List.forall_mem_cons.mpr ⟨(mm_tw2 86 rfl rfl), (List.forall_mem_cons.mpr ⟨(mm_tw2 88 rfl rfl), (fun _ h => absurd h List.not_mem_nil)⟩)⟩)⟩)
set_option maxRecDepth 100000 in
theorem mm_cl15 : mm_clP 15 := ⟨_, tyX5, rfl, rfl, mm_cw15, tyX5_ok, nmX5, by decide +kernel⟩
set_option maxRecDepth 100000 in
theorem mm_cw16 : ∀ w ∈ u_ws RX6 TX6 4, w ∈ mm_TW := (List.forall_mem_cons.mpr ⟨(mm_tw2 17 rfl rfl), (List.forall_mem_cons.mpr ⟨(mm_tw2 19 rfl rfl), (List.forall_mem_cons.mpr ⟨(mm_tw2 21 rfl rfl), (List.forall_mem_cons.mpr ⟨(mm_tw2 23 rfl rfl), (fun _ h => absurd h List.not_mem_nil)⟩)⟩)⟩)⟩)
set_option maxRecDepth 100000 in
theorem mm_cl16 : mm_clP 16 := ⟨_, tyX6, rfl, rfl, mm_cw16, tyX6_ok, nmX6, by decide +kernel⟩
set_option maxRecDepth 100000 in
theorem mm_cw17 : ∀ w ∈ u_ws RX7 TX7 5, w ∈ mm_TW := (List.forall_mem_cons.mpr ⟨(mm_tw1 239 rfl rfl), (List.forall_mem_cons.mpr ⟨(mm_tw2 1 rfl rfl), (List.forall_mem_cons.mpr ⟨(mm_tw2 3 rfl rfl), (List.forall_mem_cons.mpr ⟨(mm_tw2 5 rfl rfl), (List.forall_mem_cons.mpr ⟨(mm_tw2 7 rfl rfl), (fun _ h => absurd h List.not_mem_nil)⟩)⟩)⟩)⟩)⟩)
set_option maxRecDepth 100000 in
theorem mm_cl17 : mm_clP 17 := ⟨_, tyX7, rfl, rfl, mm_cw17, tyX7_ok, nmX7, by decide +kernel⟩
set_option maxRecDepth 100000 in
theorem mm_cw18 : ∀ w ∈ u_ws RX8 TX8 10, w ∈ mm_TW := (List.forall_mem_cons.mpr ⟨(mm_tw1 61 rfl rfl), (List.forall_mem_cons.mpr ⟨(mm_tw1 63 rfl rfl), (List.forall_mem_cons.mpr ⟨(mm_tw1 65 rfl rfl), (List.forall_mem_cons.mpr ⟨(mm_tw1 67 rfl rfl), (List.forall_mem_cons.mpr ⟨(mm_tw1 69 rfl rfl), (List.forall_mem_cons.mpr ⟨(mm_tw1 71 rfl rfl), (List.forall_mem_cons.mpr ⟨(mm_tw1 73 rfl rfl), (List.forall_mem_cons.mpr ⟨(mm_tw1 75 rfl rfl), (List.forall_mem_cons.mpr ⟨(mm_tw1 77 rfl rfl), (List.forall_mem_cons.mpr ⟨(mm_tw1 79 rfl rfl), (fun _ h => absurd h List.not_mem_nil)⟩)⟩)⟩)⟩)⟩)⟩)⟩)⟩)⟩)⟩)
set_option maxRecDepth 100000 in
theorem mm_cl18 : mm_clP 18 := ⟨_, tyX8, rfl, rfl, mm_cw18, tyX8_ok, nmX8, by decide +kernel⟩
set_option maxRecDepth 100000 in
theorem mm_cw19 : ∀ w ∈ u_ws RX9 TX9 3, w ∈ mm_TW := (List.forall_mem_cons.mpr ⟨(mm_tw1 164 rfl rfl), (List.forall_mem_cons.mpr ⟨(mm_tw1 166 rfl rfl), (List.forall_mem_cons.mpr ⟨(mm_tw1 168 rfl rfl), (fun _ h => absurd h List.not_mem_nil)⟩)⟩)⟩)
set_option maxRecDepth 100000 in
theorem mm_cl19 : mm_clP 19 := ⟨_, tyX9, rfl, rfl, mm_cw19, tyX9_ok, nmX9, by decide +kernel⟩
set_option maxRecDepth 100000 in
theorem mm_cw20 : ∀ w ∈ u_ws RX11 TX11 15, w ∈ mm_TW := (List.forall_mem_cons.mpr ⟨(mm_tw2 140 rfl rfl), (List.forall_mem_cons.mpr ⟨(mm_tw2 142 rfl rfl), (List.forall_mem_cons.mpr ⟨(mm_tw2 144 rfl rfl), (List.forall_mem_cons.mpr ⟨(mm_tw2 146 rfl rfl), (List.forall_mem_cons.mpr ⟨(mm_tw2 148 rfl rfl), (List.forall_mem_cons.mpr ⟨(mm_tw2 150 rfl rfl), (List.forall_mem_cons.mpr ⟨(mm_tw2 152 rfl rfl), (List.forall_mem_cons.mpr ⟨(mm_tw2 154 rfl rfl), (List.forall_mem_cons.mpr ⟨(mm_tw2 156 rfl rfl), (List.forall_mem_cons.mpr ⟨(mm_tw2 158 rfl rfl), (List.forall_mem_cons.mpr ⟨(mm_tw2 160 rfl rfl), (List.forall_mem_cons.mpr ⟨(mm_tw2 162 rfl rfl), (List.forall_mem_cons.mpr ⟨(mm_tw2 164 rfl rfl), (List.forall_mem_cons.mpr ⟨(mm_tw2 166 rfl rfl), (List.forall_mem_cons.mpr ⟨(mm_tw2 168 rfl rfl), (fun _ h => absurd h List.not_mem_nil)⟩)⟩)⟩)⟩)⟩)⟩)⟩)⟩)⟩)⟩)⟩)⟩)⟩)⟩)⟩)
set_option maxRecDepth 100000 in
theorem mm_cl20 : mm_clP 20 := ⟨_, tyX11, rfl, rfl, mm_cw20, tyX11_ok, nmX11, by decide +kernel⟩
set_option maxRecDepth 100000 in
theorem mm_cw21 : ∀ w ∈ u_ws RX12 TX12 47, w ∈ mm_TW := (List.forall_mem_cons.mpr ⟨(mm_tw6 155 rfl rfl), (List.forall_mem_cons.mpr ⟨(mm_tw6 157 rfl rfl), (List.forall_mem_cons.mpr ⟨(mm_tw6 159 rfl rfl), (List.forall_mem_cons.mpr ⟨(mm_tw6 161 rfl rfl), (List.forall_mem_cons.mpr ⟨(mm_tw6 163 rfl rfl), (List.forall_mem_cons.mpr ⟨(mm_tw6 165 rfl rfl), (List.forall_mem_cons.mpr ⟨(mm_tw6 167 rfl rfl), (List.forall_mem_cons.mpr ⟨(mm_tw6 169 rfl rfl), (List.forall_mem_cons.mpr ⟨(mm_tw6 171 rfl rfl), (List.forall_mem_cons.mpr ⟨(mm_tw6 173 rfl rfl), (List.forall_mem_cons.mpr ⟨(mm_tw6 175 rfl rfl), (List.forall_mem_cons.mpr ⟨(mm_tw6 177 rfl rfl), (List.forall_mem_cons.mpr ⟨(mm_tw6 179 rfl rfl), (List.forall_mem_cons.mpr ⟨(mm_tw6 181 rfl rfl), (List.forall_mem_cons.mpr ⟨(mm_tw6 183 rfl rfl), (List.forall_mem_cons.mpr ⟨(mm_tw6 185 rfl rfl), (List.forall_mem_cons.mpr ⟨(mm_tw6 187 rfl rfl), (List.forall_mem_cons.mpr ⟨(mm_tw6 189 rfl rfl), (List.forall_mem_cons.mpr ⟨(mm_tw6 191 rfl rfl), (List.forall_mem_cons.mpr ⟨(mm_tw6 193 rfl rfl), (List.forall_mem_cons.mpr ⟨(mm_tw6 195 rfl rfl), (List.forall_mem_cons.mpr ⟨(mm_tw6 197 rfl rfl), (List.forall_mem_cons.mpr ⟨(mm_tw6 199 rfl rfl), (List.forall_mem_cons.mpr ⟨(mm_tw6 201 rfl rfl), (List.forall_mem_cons.mpr ⟨(mm_tw6 203 rfl rfl), (List.forall_mem_cons.mpr ⟨(mm_tw6 205 rfl rfl), (List.forall_mem_cons.mpr ⟨(mm_tw6 207 rfl rfl), (List.forall_mem_cons.mpr ⟨(mm_tw6 209 rfl rfl), (List.forall_mem_cons.mpr ⟨(mm_tw6 211 rfl rfl), (List.forall_mem_cons.mpr ⟨(mm_tw6 213 rfl rfl), (List.forall_mem_cons.mpr ⟨(mm_tw6 215 rfl rfl), (List.forall_mem_cons.mpr ⟨(mm_tw6 217 rfl rfl), (List.forall_mem_cons.mpr ⟨(mm_tw6 219 rfl rfl), (List.forall_mem_cons.mpr ⟨(mm_tw6 221 rfl rfl), (List.forall_mem_cons.mpr ⟨(mm_tw6 223 rfl rfl), (List.forall_mem_cons.mpr ⟨(mm_tw6 225 rfl rfl), (List.forall_mem_cons.mpr ⟨(mm_tw6 227 rfl rfl), (List.forall_mem_cons.mpr ⟨(mm_tw6 229 rfl rfl), (List.forall_mem_cons.mpr ⟨(mm_tw6 231 rfl rfl), (List.forall_mem_cons.mpr ⟨(mm_tw6 233 rfl rfl), (List.forall_mem_cons.mpr ⟨(mm_tw6 235 rfl rfl), (List.forall_mem_cons.mpr ⟨(mm_tw6 237 rfl rfl), (List.forall_mem_cons.mpr ⟨(mm_tw6 239 rfl rfl), (List.forall_mem_cons.mpr ⟨(mm_tw7 1 rfl rfl), (List.forall_mem_cons.mpr ⟨(mm_tw7 3 rfl rfl), (List.forall_mem_cons.mpr ⟨(mm_tw7 5 rfl rfl), (List.forall_mem_cons.mpr ⟨(mm_tw7 7 rfl rfl), (fun _ h => absurd h List.not_mem_nil)⟩)⟩)⟩)⟩)⟩)⟩)⟩)⟩)⟩)⟩)⟩)⟩)⟩)⟩)⟩)⟩)⟩)⟩)⟩)⟩)⟩)⟩)⟩)⟩)⟩)⟩)⟩)⟩)⟩)⟩)⟩)⟩)⟩)⟩)⟩)⟩)⟩)⟩)⟩)⟩)⟩)⟩)⟩)⟩)⟩)⟩)⟩)
set_option maxRecDepth 100000 in
theorem mm_cl21 : mm_clP 21 := ⟨_, tyX12, rfl, rfl, mm_cw21, tyX12_ok, nmX12, by decide +kernel⟩
theorem mm_cl_in : ∀ t ∈ [10, 11, 12, 13, 14, 15, 16, 17, 18, 19, 20, 21], mm_clP t := (List.forall_mem_cons.mpr ⟨mm_cl10, (List.forall_mem_cons.mpr ⟨mm_cl11, (List.forall_mem_cons.mpr ⟨mm_cl12, (List.forall_mem_cons.mpr ⟨mm_cl13, (List.forall_mem_cons.mpr ⟨mm_cl14, (List.forall_mem_cons.mpr ⟨mm_cl15, (List.forall_mem_cons.mpr ⟨mm_cl16, (List.forall_mem_cons.mpr ⟨mm_cl17, (List.forall_mem_cons.mpr ⟨mm_cl18, (List.forall_mem_cons.mpr ⟨mm_cl19, (List.forall_mem_cons.mpr ⟨mm_cl20, (List.forall_mem_cons.mpr ⟨mm_cl21, (fun _ h => absurd h List.not_mem_nil)⟩)⟩)⟩)⟩)⟩)⟩)⟩)⟩)⟩)⟩)⟩)⟩)
theorem mm_cl_ok {t : Nat} (h : 10 ≤ t) (h2 : t < 22) : mm_clP t := mm_cl_in t (by simp; omega)
-- the layout: what lies at a distance from an object is of its kind
set_option maxRecDepth 100000 in
theorem mm_lay : ∀ o, o < 153 → ∀ k, k < 47 → (mm_fcd (mm_kd o) k).1 = 3 → mm_kd o < 22 → o + (mm_fcd (mm_kd o) k).2.2 < 153 ∧ mm_kd (o + (mm_fcd (mm_kd o) k).2.2) = (mm_fcd (mm_kd o) k).2.1 := by decide +kernel
set_option maxRecDepth 100000 in
theorem mm_lay5 : ∀ o, o < 153 → ∀ i, i < 8 → (mm_ak (mm_kd o)).1 = 5 → o + 1 + 4 * i < 153 ∧ mm_kd (o + 1 + 4 * i) = 12 := by decide +kernel
set_option maxRecDepth 100000 in
theorem mm_lay6 : ∀ o, o < 153 → ∀ i, i < 2 → (mm_ak (mm_kd o)).1 = 6 → o + 62 + 19 * i < 153 ∧ mm_kd (o + 62 + 19 * i) = 16 := by decide +kernel
set_option maxRecDepth 100000 in
theorem mm_lay7 : ∀ o, o < 153 → ∀ i, i < 6 → (mm_ak (mm_kd o)).1 = 7 → o + 1 + i < 153 ∧ mm_kd (o + 1 + i) = 27 := by decide +kernel
set_option maxRecDepth 100000 in
theorem mm_kd_ok : ∀ o, o < 153 → 10 ≤ mm_kd o ∧ mm_kd o < 51 := by decide +kernel
end
section
/-! Lengths, constants and targets of the rows -/
def mm_ln (i : Instr) : Nat := match i with
  | .bipush _ => 2
  | .ldc _ => 2
  | .iload _ => 2
  | .lload _ => 2
  | .aload _ => 2
  | .istore _ => 2
  | .lstore _ => 2
  | .astore _ => 2
  | .sipush _ => 3
  | .ldc_w _ => 3
  | .ldc2_w _ => 3
  | .iinc _ _ => 3
  | .goto _ => 3
  | .ifCond _ _ => 3
  | .if_icmp _ _ => 3
  | .if_acmp _ _ => 3
  | .getfield _ => 3
  | .putfield _ => 3
  | .getstatic _ => 3
  | .invokevirtual _ => 3
  | .invokestatic _ => 3
  | _ => 1
def mm_ck2 (e : mm_E) : Bool := match e.2.1 with
  | .tableswitch d lo hi os => decide (0 ≤ (e.1 : Int) + d) && os.toList.all (fun o => decide (0 ≤ (e.1 : Int) + o)) && decide (hi = lo + (os.size : Int) - 1)
  | .lookupswitch d ps => decide (0 ≤ (e.1 : Int) + d) && ps.toList.all (fun o => decide (0 ≤ (e.1 : Int) + o.2)) && (ps.toList.zip (ps.toList.drop 1)).all (fun (a, next) => a.1 < next.1)
  | .iconst n => e.2.2.1 == 1 && decide (-1 ≤ n ∧ n ≤ 5)
  | .bipush n => e.2.2.1 == 2 && decide (-128 ≤ n ∧ n < 128)
  | .sipush n => e.2.2.1 == 3 && decide (-32768 ≤ n ∧ n < 32768)
  | .goto o => e.2.2.1 == 3 && decide (0 ≤ (e.1 : Int) + o)
  | .ifCond _ o => e.2.2.1 == 3 && decide (0 ≤ (e.1 : Int) + o)
  | .if_icmp _ o => e.2.2.1 == 3 && decide (0 ≤ (e.1 : Int) + o)
  | .if_acmp _ o => e.2.2.1 == 3 && decide (0 ≤ (e.1 : Int) + o)
  | i => e.2.2.1 == mm_ln i
set_option maxRecDepth 100000 in
theorem mm_c2_0 : (mm_prog 0).1.all mm_ck2 = true := by show T_X0_readBook.all mm_ck2 = true; decide +kernel
set_option maxRecDepth 100000 in
theorem mm_c2_1 : (mm_prog 1).1.all mm_ck2 = true := by show T_X0_readLine.all mm_ck2 = true; decide +kernel
set_option maxRecDepth 100000 in
theorem mm_c2_2 : (mm_prog 2).1.all mm_ck2 = true := by show T_X0_isAct.all mm_ck2 = true; decide +kernel
set_option maxRecDepth 100000 in
theorem mm_c2_3 : (mm_prog 3).1.all mm_ck2 = true := by show T_X0_actOf.all mm_ck2 = true; decide +kernel
set_option maxRecDepth 100000 in
theorem mm_c2_4 : (mm_prog 4).1.all mm_ck2 = true := by show T_X0_readRelieve.all mm_ck2 = true; decide +kernel
set_option maxRecDepth 100000 in
theorem mm_c2_5 : (mm_prog 5).1.all mm_ck2 = true := by show T_X0_readWalk.all mm_ck2 = true; decide +kernel
set_option maxRecDepth 100000 in
theorem mm_c2_6 : (mm_prog 6).1.all mm_ck2 = true := by show T_X0_add.all mm_ck2 = true; decide +kernel
set_option maxRecDepth 100000 in
theorem mm_c2_7 : (mm_prog 7).1.all mm_ck2 = true := by show T_X0_live.all mm_ck2 = true; decide +kernel
set_option maxRecDepth 100000 in
theorem mm_c2_8 : (mm_prog 8).1.all mm_ck2 = true := by show T_X0_tell.all mm_ck2 = true; decide +kernel
set_option maxRecDepth 100000 in
theorem mm_c2_9 : (mm_prog 9).1.all mm_ck2 = true := by show T_X1_judge.all mm_ck2 = true; decide +kernel
set_option maxRecDepth 100000 in
theorem mm_c2_10 : (mm_prog 10).1.all mm_ck2 = true := by show T_X1_arePairs.all mm_ck2 = true; decide +kernel
set_option maxRecDepth 100000 in
theorem mm_c2_11 : (mm_prog 11).1.all mm_ck2 = true := by show T_X1_leavesRests.all mm_ck2 = true; decide +kernel
set_option maxRecDepth 100000 in
theorem mm_c2_12 : (mm_prog 12).1.all mm_ck2 = true := by show T_X1_keepBounds.all mm_ck2 = true; decide +kernel
set_option maxRecDepth 100000 in
theorem mm_c2_13 : (mm_prog 13).1.all mm_ck2 = true := by show T_X1_thingToLookAt.all mm_ck2 = true; decide +kernel
set_option maxRecDepth 100000 in
theorem mm_c2_14 : (mm_prog 14).1.all mm_ck2 = true := by show T_X1_mostLeftBy.all mm_ck2 = true; decide +kernel
set_option maxRecDepth 100000 in
theorem mm_c2_15 : (mm_prog 15).1.all mm_ck2 = true := by show T_X2_begin.all mm_ck2 = true; decide +kernel
set_option maxRecDepth 100000 in
theorem mm_c2_16 : (mm_prog 16).1.all mm_ck2 = true := by show T_X2_copyFrom.all mm_ck2 = true; decide +kernel
set_option maxRecDepth 100000 in
theorem mm_c2_17 : (mm_prog 17).1.all mm_ck2 = true := by show T_X2_isOut.all mm_ck2 = true; decide +kernel
set_option maxRecDepth 100000 in
theorem mm_c2_18 : (mm_prog 18).1.all mm_ck2 = true := by show T_X2_isDone.all mm_ck2 = true; decide +kernel
set_option maxRecDepth 100000 in
theorem mm_c2_19 : (mm_prog 19).1.all mm_ck2 = true := by show T_X2_secondsLeft.all mm_ck2 = true; decide +kernel
set_option maxRecDepth 100000 in
theorem mm_c2_20 : (mm_prog 20).1.all mm_ck2 = true := by show T_X2_doneWorks.all mm_ck2 = true; decide +kernel
set_option maxRecDepth 100000 in
theorem mm_c2_21 : (mm_prog 21).1.all mm_ck2 = true := by show T_X2_openWorks.all mm_ck2 = true; decide +kernel
set_option maxRecDepth 100000 in
theorem mm_c2_22 : (mm_prog 22).1.all mm_ck2 = true := by show T_X2_howWorkIs.all mm_ck2 = true; decide +kernel
set_option maxRecDepth 100000 in
theorem mm_c2_23 : (mm_prog 23).1.all mm_ck2 = true := by show T_X2_isBusy.all mm_ck2 = true; decide +kernel
set_option maxRecDepth 100000 in
theorem mm_c2_24 : (mm_prog 24).1.all mm_ck2 = true := by show T_X2_placeBehind.all mm_ck2 = true; decide +kernel
set_option maxRecDepth 100000 in
theorem mm_c2_25 : (mm_prog 25).1.all mm_ck2 = true := by show T_X2_somebodyWalksAt.all mm_ck2 = true; decide +kernel
set_option maxRecDepth 100000 in
theorem mm_c2_26 : (mm_prog 26).1.all mm_ck2 = true := by show T_X2_act.all mm_ck2 = true; decide +kernel
set_option maxRecDepth 100000 in
theorem mm_c2_27 : (mm_prog 27).1.all mm_ck2 = true := by show T_X2_takeFright.all mm_ck2 = true; decide +kernel
set_option maxRecDepth 100000 in
theorem mm_c2_28 : (mm_prog 28).1.all mm_ck2 = true := by show T_X2_takeCure.all mm_ck2 = true; decide +kernel
set_option maxRecDepth 100000 in
theorem mm_c2_29 : (mm_prog 29).1.all mm_ck2 = true := by show T_X2_takeFly.all mm_ck2 = true; decide +kernel
set_option maxRecDepth 100000 in
theorem mm_c2_30 : (mm_prog 30).1.all mm_ck2 = true := by show T_X2_changeBeater.all mm_ck2 = true; decide +kernel
set_option maxRecDepth 100000 in
theorem mm_c2_31 : (mm_prog 31).1.all mm_ck2 = true := by show T_X2_goOut.all mm_ck2 = true; decide +kernel
set_option maxRecDepth 100000 in
theorem mm_c2_32 : (mm_prog 32).1.all mm_ck2 = true := by show T_X2_comeIn.all mm_ck2 = true; decide +kernel
set_option maxRecDepth 100000 in
theorem mm_c2_33 : (mm_prog 33).1.all mm_ck2 = true := by show T_X2_passAll.all mm_ck2 = true; decide +kernel
set_option maxRecDepth 100000 in
theorem mm_c2_34 : (mm_prog 34).1.all mm_ck2 = true := by show T_X2_passSecond.all mm_ck2 = true; decide +kernel
set_option maxRecDepth 100000 in
theorem mm_c2_35 : (mm_prog 35).1.all mm_ck2 = true := by show T_X2_beat.all mm_ck2 = true; decide +kernel
set_option maxRecDepth 100000 in
theorem mm_c2_36 : (mm_prog 36).1.all mm_ck2 = true := by show T_X2_secondsTillDone.all mm_ck2 = true; decide +kernel
set_option maxRecDepth 100000 in
theorem mm_c2_37 : (mm_prog 37).1.all mm_ck2 = true := by show T_X2_secondsTillFree.all mm_ck2 = true; decide +kernel
set_option maxRecDepth 100000 in
theorem mm_c2_38 : (mm_prog 38).1.all mm_ck2 = true := by show T_X2_passDrawn.all mm_ck2 = true; decide +kernel
set_option maxRecDepth 100000 in
theorem mm_c2_39 : (mm_prog 39).1.all mm_ck2 = true := by show T_X2_passDrawnSecond.all mm_ck2 = true; decide +kernel
set_option maxRecDepth 100000 in
theorem mm_c2_40 : (mm_prog 40).1.all mm_ck2 = true := by show T_X2_leaveOrJoin.all mm_ck2 = true; decide +kernel
set_option maxRecDepth 100000 in
theorem mm_c2_41 : (mm_prog 41).1.all mm_ck2 = true := by show T_X2_stir.all mm_ck2 = true; decide +kernel
set_option maxRecDepth 100000 in
theorem mm_c2_42 : (mm_prog 42).1.all mm_ck2 = true := by show T_X2_drawOf.all mm_ck2 = true; decide +kernel
set_option maxRecDepth 100000 in
theorem mm_c2_43 : (mm_prog 43).1.all mm_ck2 = true := by show T_X2_votesBehindRound.all mm_ck2 = true; decide +kernel
set_option maxRecDepth 100000 in
theorem mm_c2_44 : (mm_prog 44).1.all mm_ck2 = true := by show T_X2_votesBehind.all mm_ck2 = true; decide +kernel
set_option maxRecDepth 100000 in
theorem mm_c2_45 : (mm_prog 45).1.all mm_ck2 = true := by show T_X2_willBeNear.all mm_ck2 = true; decide +kernel
set_option maxRecDepth 100000 in
theorem mm_c2_46 : (mm_prog 46).1.all mm_ck2 = true := by show T_X3_forget.all mm_ck2 = true; decide +kernel
set_option maxRecDepth 100000 in
theorem mm_c2_47 : (mm_prog 47).1.all mm_ck2 = true := by show T_X3_keep.all mm_ck2 = true; decide +kernel
set_option maxRecDepth 100000 in
theorem mm_c2_48 : (mm_prog 48).1.all mm_ck2 = true := by show T_X3_takeBack.all mm_ck2 = true; decide +kernel
set_option maxRecDepth 100000 in
theorem mm_c2_49 : (mm_prog 49).1.all mm_ck2 = true := by show T_X4_clear.all mm_ck2 = true; decide +kernel
set_option maxRecDepth 100000 in
theorem mm_c2_50 : (mm_prog 50).1.all mm_ck2 = true := by show T_X4_copyFrom.all mm_ck2 = true; decide +kernel
set_option maxRecDepth 100000 in
theorem mm_c2_51 : (mm_prog 51).1.all mm_ck2 = true := by show T_X4_has.all mm_ck2 = true; decide +kernel
set_option maxRecDepth 100000 in
theorem mm_c2_52 : (mm_prog 52).1.all mm_ck2 = true := by show T_X4_isFull.all mm_ck2 = true; decide +kernel
set_option maxRecDepth 100000 in
theorem mm_c2_53 : (mm_prog 53).1.all mm_ck2 = true := by show T_X4_beaters.all mm_ck2 = true; decide +kernel
set_option maxRecDepth 100000 in
theorem mm_c2_54 : (mm_prog 54).1.all mm_ck2 = true := by show T_X4_mayBeat.all mm_ck2 = true; decide +kernel
set_option maxRecDepth 100000 in
theorem mm_c2_55 : (mm_prog 55).1.all mm_ck2 = true := by show T_X4_gapOf.all mm_ck2 = true; decide +kernel
set_option maxRecDepth 100000 in
theorem mm_c2_56 : (mm_prog 56).1.all mm_ck2 = true := by show T_X4_addName.all mm_ck2 = true; decide +kernel
set_option maxRecDepth 100000 in
theorem mm_c2_57 : (mm_prog 57).1.all mm_ck2 = true := by show T_X4_nameOf.all mm_ck2 = true; decide +kernel
set_option maxRecDepth 100000 in
theorem mm_c2_58 : (mm_prog 58).1.all mm_ck2 = true := by show T_X4_numberOf.all mm_ck2 = true; decide +kernel
set_option maxRecDepth 100000 in
theorem mm_c2_59 : (mm_prog 59).1.all mm_ck2 = true := by show T_X4_knows.all mm_ck2 = true; decide +kernel
set_option maxRecDepth 100000 in
theorem mm_c2_60 : (mm_prog 60).1.all mm_ck2 = true := by show T_X4_placeOn.all mm_ck2 = true; decide +kernel
set_option maxRecDepth 100000 in
theorem mm_c2_61 : (mm_prog 61).1.all mm_ck2 = true := by show T_X5_countFor.all mm_ck2 = true; decide +kernel
set_option maxRecDepth 100000 in
theorem mm_c2_62 : (mm_prog 62).1.all mm_ck2 = true := by show T_X5_waysWithOneMore.all mm_ck2 = true; decide +kernel
set_option maxRecDepth 100000 in
theorem mm_c2_63 : (mm_prog 63).1.all mm_ck2 = true := by show T_X5_keepFirst.all mm_ck2 = true; decide +kernel
set_option maxRecDepth 100000 in
theorem mm_c2_64 : (mm_prog 64).1.all mm_ck2 = true := by show T_X5_leastBeater.all mm_ck2 = true; decide +kernel
set_option maxRecDepth 100000 in
theorem mm_c2_65 : (mm_prog 65).1.all mm_ck2 = true := by show T_X6_begin.all mm_ck2 = true; decide +kernel
set_option maxRecDepth 100000 in
theorem mm_c2_66 : (mm_prog 66).1.all mm_ck2 = true := by show T_X6_copyFrom.all mm_ck2 = true; decide +kernel
set_option maxRecDepth 100000 in
theorem mm_c2_67 : (mm_prog 67).1.all mm_ck2 = true := by show T_X7_clear.all mm_ck2 = true; decide +kernel
set_option maxRecDepth 100000 in
theorem mm_c2_68 : (mm_prog 68).1.all mm_ck2 = true := by show T_X7_isTold.all mm_ck2 = true; decide +kernel
set_option maxRecDepth 100000 in
theorem mm_c2_69 : (mm_prog 69).1.all mm_ck2 = true := by show T_X7_copyFrom.all mm_ck2 = true; decide +kernel
set_option maxRecDepth 100000 in
theorem mm_c2_70 : (mm_prog 70).1.all mm_ck2 = true := by show T_X7_readSentence.all mm_ck2 = true; decide +kernel
set_option maxRecDepth 100000 in
theorem mm_c2_71 : (mm_prog 71).1.all mm_ck2 = true := by show T_X7_readCond.all mm_ck2 = true; decide +kernel
set_option maxRecDepth 100000 in
theorem mm_c2_72 : (mm_prog 72).1.all mm_ck2 = true := by show T_X7_readAll.all mm_ck2 = true; decide +kernel
set_option maxRecDepth 100000 in
theorem mm_c2_73 : (mm_prog 73).1.all mm_ck2 = true := by show T_X7_readOne.all mm_ck2 = true; decide +kernel
set_option maxRecDepth 100000 in
theorem mm_c2_74 : (mm_prog 74).1.all mm_ck2 = true := by show T_X7_beginsOne.all mm_ck2 = true; decide +kernel
set_option maxRecDepth 100000 in
theorem mm_c2_75 : (mm_prog 75).1.all mm_ck2 = true := by show T_X7_readCompared.all mm_ck2 = true; decide +kernel
set_option maxRecDepth 100000 in
theorem mm_c2_76 : (mm_prog 76).1.all mm_ck2 = true := by show T_X7_add.all mm_ck2 = true; decide +kernel
set_option maxRecDepth 100000 in
theorem mm_c2_77 : (mm_prog 77).1.all mm_ck2 = true := by show T_X7_holds.all mm_ck2 = true; decide +kernel
set_option maxRecDepth 100000 in
theorem mm_c2_78 : (mm_prog 78).1.all mm_ck2 = true := by show T_X7_holdsAlone.all mm_ck2 = true; decide +kernel
set_option maxRecDepth 100000 in
theorem mm_c2_79 : (mm_prog 79).1.all mm_ck2 = true := by show T_X7_measure.all mm_ck2 = true; decide +kernel
set_option maxRecDepth 100000 in
theorem mm_c2_80 : (mm_prog 80).1.all mm_ck2 = true := by show T_X7_compares.all mm_ck2 = true; decide +kernel
set_option maxRecDepth 100000 in
theorem mm_c2_81 : (mm_prog 81).1.all mm_ck2 = true := by show T_X8_append.all mm_ck2 = true; decide +kernel
set_option maxRecDepth 100000 in
theorem mm_c2_82 : (mm_prog 82).1.all mm_ck2 = true := by show T_X8_get.all mm_ck2 = true; decide +kernel
set_option maxRecDepth 100000 in
theorem mm_c2_83 : (mm_prog 83).1.all mm_ck2 = true := by show T_X8_beginText.all mm_ck2 = true; decide +kernel
set_option maxRecDepth 100000 in
theorem mm_c2_84 : (mm_prog 84).1.all mm_ck2 = true := by show T_X8_advance.all mm_ck2 = true; decide +kernel
set_option maxRecDepth 100000 in
theorem mm_c2_85 : (mm_prog 85).1.all mm_ck2 = true := by show T_X8_skipBlanks.all mm_ck2 = true; decide +kernel
set_option maxRecDepth 100000 in
theorem mm_c2_86 : (mm_prog 86).1.all mm_ck2 = true := by show T_X8_readToken.all mm_ck2 = true; decide +kernel
set_option maxRecDepth 100000 in
theorem mm_c2_87 : (mm_prog 87).1.all mm_ck2 = true := by show T_X8_joinLetters.all mm_ck2 = true; decide +kernel
set_option maxRecDepth 100000 in
theorem mm_c2_88 : (mm_prog 88).1.all mm_ck2 = true := by show T_X8_joinDigits.all mm_ck2 = true; decide +kernel
set_option maxRecDepth 100000 in
theorem mm_c2_89 : (mm_prog 89).1.all mm_ck2 = true := by show T_X8_failAt.all mm_ck2 = true; decide +kernel
set_option maxRecDepth 100000 in
theorem mm_c2_90 : (mm_prog 90).1.all mm_ck2 = true := by show T_X8_fail.all mm_ck2 = true; decide +kernel
set_option maxRecDepth 100000 in
theorem mm_c2_91 : (mm_prog 91).1.all mm_ck2 = true := by show T_X8_take.all mm_ck2 = true; decide +kernel
set_option maxRecDepth 100000 in
theorem mm_c2_92 : (mm_prog 92).1.all mm_ck2 = true := by show T_X8_takeNumber.all mm_ck2 = true; decide +kernel
set_option maxRecDepth 100000 in
theorem mm_c2_93 : (mm_prog 93).1.all mm_ck2 = true := by show T_X8_takeOneOf.all mm_ck2 = true; decide +kernel
set_option maxRecDepth 100000 in
theorem mm_c2_94 : (mm_prog 94).1.all mm_ck2 = true := by show T_X9_readTown.all mm_ck2 = true; decide +kernel
set_option maxRecDepth 100000 in
theorem mm_c2_95 : (mm_prog 95).1.all mm_ck2 = true := by show T_X9_readLine.all mm_ck2 = true; decide +kernel
set_option maxRecDepth 100000 in
theorem mm_c2_96 : (mm_prog 96).1.all mm_ck2 = true := by show T_X9_readRing.all mm_ck2 = true; decide +kernel
set_option maxRecDepth 100000 in
theorem mm_c2_97 : (mm_prog 97).1.all mm_ck2 = true := by show T_X9_readGap.all mm_ck2 = true; decide +kernel
set_option maxRecDepth 100000 in
theorem mm_c2_98 : (mm_prog 98).1.all mm_ck2 = true := by show T_X9_readNewOne.all mm_ck2 = true; decide +kernel
set_option maxRecDepth 100000 in
theorem mm_c2_99 : (mm_prog 99).1.all mm_ck2 = true := by show T_X9_readCousin.all mm_ck2 = true; decide +kernel
set_option maxRecDepth 100000 in
theorem mm_c2_100 : (mm_prog 100).1.all mm_ck2 = true := by show T_X9_readPerson.all mm_ck2 = true; decide +kernel
set_option maxRecDepth 100000 in
theorem mm_c2_101 : (mm_prog 101).1.all mm_ck2 = true := by show T_X9_readWork.all mm_ck2 = true; decide +kernel
set_option maxRecDepth 100000 in
theorem mm_c2_102 : (mm_prog 102).1.all mm_ck2 = true := by show T_X9_readAfter.all mm_ck2 = true; decide +kernel
set_option maxRecDepth 100000 in
theorem mm_c2_103 : (mm_prog 103).1.all mm_ck2 = true := by show T_X9_readThing.all mm_ck2 = true; decide +kernel
set_option maxRecDepth 100000 in
theorem mm_c2_104 : (mm_prog 104).1.all mm_ck2 = true := by show T_X10_find.all mm_ck2 = true; decide +kernel
set_option maxRecDepth 100000 in
theorem mm_c2_105 : (mm_prog 105).1.all mm_ck2 = true := by show T_X11_feed.all mm_ck2 = true; decide +kernel
set_option maxRecDepth 100000 in
theorem mm_c2_106 : (mm_prog 106).1.all mm_ck2 = true := by show T_X11_end.all mm_ck2 = true; decide +kernel
set_option maxRecDepth 100000 in
theorem mm_c2_107 : (mm_prog 107).1.all mm_ck2 = true := by show T_X11_town.all mm_ck2 = true; decide +kernel
set_option maxRecDepth 100000 in
theorem mm_c2_108 : (mm_prog 108).1.all mm_ck2 = true := by show T_X11_fault.all mm_ck2 = true; decide +kernel
set_option maxRecDepth 100000 in
theorem mm_c2_109 : (mm_prog 109).1.all mm_ck2 = true := by show T_X11_work.all mm_ck2 = true; decide +kernel
set_option maxRecDepth 100000 in
theorem mm_c2_110 : (mm_prog 110).1.all mm_ck2 = true := by show T_X11_gap.all mm_ck2 = true; decide +kernel
set_option maxRecDepth 100000 in
theorem mm_c2_111 : (mm_prog 111).1.all mm_ck2 = true := by show T_X11_now.all mm_ck2 = true; decide +kernel
set_option maxRecDepth 100000 in
theorem mm_c2_112 : (mm_prog 112).1.all mm_ck2 = true := by show T_X11_fright.all mm_ck2 = true; decide +kernel
set_option maxRecDepth 100000 in
theorem mm_c2_113 : (mm_prog 113).1.all mm_ck2 = true := by show T_X11_cure.all mm_ck2 = true; decide +kernel
set_option maxRecDepth 100000 in
theorem mm_c2_114 : (mm_prog 114).1.all mm_ck2 = true := by show T_X11_fly.all mm_ck2 = true; decide +kernel
set_option maxRecDepth 100000 in
theorem mm_c2_115 : (mm_prog 115).1.all mm_ck2 = true := by show T_X11_relieve.all mm_ck2 = true; decide +kernel
set_option maxRecDepth 100000 in
theorem mm_c2_116 : (mm_prog 116).1.all mm_ck2 = true := by show T_X11_leave.all mm_ck2 = true; decide +kernel
set_option maxRecDepth 100000 in
theorem mm_c2_117 : (mm_prog 117).1.all mm_ck2 = true := by show T_X11_join.all mm_ck2 = true; decide +kernel
set_option maxRecDepth 100000 in
theorem mm_c2_118 : (mm_prog 118).1.all mm_ck2 = true := by show T_X11_seconds.all mm_ck2 = true; decide +kernel
set_option maxRecDepth 100000 in
theorem mm_c2_119 : (mm_prog 119).1.all mm_ck2 = true := by show T_X11_undo.all mm_ck2 = true; decide +kernel
set_option maxRecDepth 100000 in
theorem mm_c2_120 : (mm_prog 120).1.all mm_ck2 = true := by show T_X11_at.all mm_ck2 = true; decide +kernel
set_option maxRecDepth 100000 in
theorem mm_c2_121 : (mm_prog 121).1.all mm_ck2 = true := by show T_X11_meet.all mm_ck2 = true; decide +kernel
set_option maxRecDepth 100000 in
theorem mm_c2_122 : (mm_prog 122).1.all mm_ck2 = true := by show T_X11_when.all mm_ck2 = true; decide +kernel
set_option maxRecDepth 100000 in
theorem mm_c2_123 : (mm_prog 123).1.all mm_ck2 = true := by show T_X11_once.all mm_ck2 = true; decide +kernel
set_option maxRecDepth 100000 in
theorem mm_c2_124 : (mm_prog 124).1.all mm_ck2 = true := by show T_X11_stood.all mm_ck2 = true; decide +kernel
set_option maxRecDepth 100000 in
theorem mm_c2_125 : (mm_prog 125).1.all mm_ck2 = true := by show T_X11_stoodLeast.all mm_ck2 = true; decide +kernel
set_option maxRecDepth 100000 in
theorem mm_c2_126 : (mm_prog 126).1.all mm_ck2 = true := by show T_X11_stoodMost.all mm_ck2 = true; decide +kernel
set_option maxRecDepth 100000 in
theorem mm_c2_127 : (mm_prog 127).1.all mm_ck2 = true := by show T_X11_next.all mm_ck2 = true; decide +kernel
set_option maxRecDepth 100000 in
theorem mm_c2_128 : (mm_prog 128).1.all mm_ck2 = true := by show T_X11_rows.all mm_ck2 = true; decide +kernel
set_option maxRecDepth 100000 in
theorem mm_c2_129 : (mm_prog 129).1.all mm_ck2 = true := by show T_X11_rowAt.all mm_ck2 = true; decide +kernel
set_option maxRecDepth 100000 in
theorem mm_c2_130 : (mm_prog 130).1.all mm_ck2 = true := by show T_X11_swift.all mm_ck2 = true; decide +kernel
set_option maxRecDepth 100000 in
theorem mm_c2_131 : (mm_prog 131).1.all mm_ck2 = true := by show T_X11_joins.all mm_ck2 = true; decide +kernel
set_option maxRecDepth 100000 in
theorem mm_c2_132 : (mm_prog 132).1.all mm_ck2 = true := by show T_X11_vote.all mm_ck2 = true; decide +kernel
set_option maxRecDepth 100000 in
theorem mm_c2_133 : (mm_prog 133).1.all mm_ck2 = true := by show T_X11_voted.all mm_ck2 = true; decide +kernel
set_option maxRecDepth 100000 in
theorem mm_c2_134 : (mm_prog 134).1.all mm_ck2 = true := by show T_X11_tag.all mm_ck2 = true; decide +kernel
set_option maxRecDepth 100000 in
theorem mm_c2_135 : (mm_prog 135).1.all mm_ck2 = true := by show T_X11_byteAt.all mm_ck2 = true; decide +kernel
set_option maxRecDepth 100000 in
theorem mm_c2_136 : (mm_prog 136).1.all mm_ck2 = true := by show T_X11_drawn.all mm_ck2 = true; decide +kernel
set_option maxRecDepth 100000 in
theorem mm_c2_137 : (mm_prog 137).1.all mm_ck2 = true := by show T_X11_odds.all mm_ck2 = true; decide +kernel
set_option maxRecDepth 100000 in
theorem mm_c2_138 : (mm_prog 138).1.all mm_ck2 = true := by show T_X11_book.all mm_ck2 = true; decide +kernel
set_option maxRecDepth 100000 in
theorem mm_c2_139 : (mm_prog 139).1.all mm_ck2 = true := by show T_X11_told.all mm_ck2 = true; decide +kernel
set_option maxRecDepth 100000 in
theorem mm_c2_140 : (mm_prog 140).1.all mm_ck2 = true := by show T_X11_sentence.all mm_ck2 = true; decide +kernel
set_option maxRecDepth 100000 in
theorem mm_c2_141 : (mm_prog 141).1.all mm_ck2 = true := by show T_X11_said.all mm_ck2 = true; decide +kernel
set_option maxRecDepth 100000 in
theorem mm_c2_142 : (mm_prog 142).1.all mm_ck2 = true := by show T_X11_image.all mm_ck2 = true; decide +kernel
set_option maxRecDepth 100000 in
theorem mm_c2_143 : (mm_prog 143).1.all mm_ck2 = true := by show T_X11_restore.all mm_ck2 = true; decide +kernel
set_option maxRecDepth 100000 in
theorem mm_c2_144 : (mm_prog 144).1.all mm_ck2 = true := by show T_X11_count.all mm_ck2 = true; decide +kernel
set_option maxRecDepth 100000 in
theorem mm_c2_145 : (mm_prog 145).1.all mm_ck2 = true := by show T_X11_endText.all mm_ck2 = true; decide +kernel
set_option maxRecDepth 100000 in
theorem mm_c2_146 : (mm_prog 146).1.all mm_ck2 = true := by show T_X11_actKept.all mm_ck2 = true; decide +kernel
set_option maxRecDepth 100000 in
theorem mm_c2_147 : (mm_prog 147).1.all mm_ck2 = true := by show T_X11_keepBefore.all mm_ck2 = true; decide +kernel
set_option maxRecDepth 100000 in
theorem mm_c2_148 : (mm_prog 148).1.all mm_ck2 = true := by show T_X11_tagByte.all mm_ck2 = true; decide +kernel
set_option maxRecDepth 100000 in
theorem mm_c2_149 : (mm_prog 149).1.all mm_ck2 = true := by show T_X11_tagName.all mm_ck2 = true; decide +kernel
set_option maxRecDepth 100000 in
theorem mm_c2_150 : (mm_prog 150).1.all mm_ck2 = true := by show T_X11_tagText.all mm_ck2 = true; decide +kernel
set_option maxRecDepth 100000 in
theorem mm_c2_151 : (mm_prog 151).1.all mm_ck2 = true := by show T_X11_tagNumber.all mm_ck2 = true; decide +kernel
set_option maxRecDepth 100000 in
theorem mm_c2_152 : (mm_prog 152).1.all mm_ck2 = true := by show T_X11_hasBit.all mm_ck2 = true; decide +kernel
set_option maxRecDepth 100000 in
theorem mm_c2_153 : (mm_prog 153).1.all mm_ck2 = true := by show T_X11_remainder.all mm_ck2 = true; decide +kernel
set_option maxRecDepth 100000 in
theorem mm_c2_154 : (mm_prog 154).1.all mm_ck2 = true := by show T_X12_thrown.all mm_ck2 = true; decide +kernel
set_option maxRecDepth 100000 in
theorem mm_c2_155 : (mm_prog 155).1.all mm_ck2 = true := by show T_X12_refuse.all mm_ck2 = true; decide +kernel
set_option maxRecDepth 100000 in
theorem mm_c2_156 : (mm_prog 156).1.all mm_ck2 = true := by show T_X12_come.all mm_ck2 = true; decide +kernel
set_option maxRecDepth 100000 in
theorem mm_c2_157 : (mm_prog 157).1.all mm_ck2 = true := by show T_X12_feed.all mm_ck2 = true; decide +kernel
set_option maxRecDepth 100000 in
theorem mm_c2_158 : (mm_prog 158).1.all mm_ck2 = true := by show T_X12_end.all mm_ck2 = true; decide +kernel
set_option maxRecDepth 100000 in
theorem mm_c2_159 : (mm_prog 159).1.all mm_ck2 = true := by show T_X12_take.all mm_ck2 = true; decide +kernel
set_option maxRecDepth 100000 in
theorem mm_c2_160 : (mm_prog 160).1.all mm_ck2 = true := by show T_X12_isIn.all mm_ck2 = true; decide +kernel
set_option maxRecDepth 100000 in
theorem mm_c2_161 : (mm_prog 161).1.all mm_ck2 = true := by show T_X12_has.all mm_ck2 = true; decide +kernel
set_option maxRecDepth 100000 in
theorem mm_c2_162 : (mm_prog 162).1.all mm_ck2 = true := by show T_X12_least.all mm_ck2 = true; decide +kernel
set_option maxRecDepth 100000 in
theorem mm_c2_163 : (mm_prog 163).1.all mm_ck2 = true := by show T_X12_size.all mm_ck2 = true; decide +kernel
set_option maxRecDepth 100000 in
theorem mm_c2_164 : (mm_prog 164).1.all mm_ck2 = true := by show T_X12_common.all mm_ck2 = true; decide +kernel
set_option maxRecDepth 100000 in
theorem mm_c2_165 : (mm_prog 165).1.all mm_ck2 = true := by show T_X12_tapeAt.all mm_ck2 = true; decide +kernel
set_option maxRecDepth 100000 in
theorem mm_c2_166 : (mm_prog 166).1.all mm_ck2 = true := by show T_X12_isDigit.all mm_ck2 = true; decide +kernel
set_option maxRecDepth 100000 in
theorem mm_c2_167 : (mm_prog 167).1.all mm_ck2 = true := by show T_X12_isLetter.all mm_ck2 = true; decide +kernel
set_option maxRecDepth 100000 in
theorem mm_c2_168 : (mm_prog 168).1.all mm_ck2 = true := by show T_X12_go.all mm_ck2 = true; decide +kernel
set_option maxRecDepth 100000 in
theorem mm_c2_169 : (mm_prog 169).1.all mm_ck2 = true := by show T_X12_spelt.all mm_ck2 = true; decide +kernel
set_option maxRecDepth 100000 in
theorem mm_c2_170 : (mm_prog 170).1.all mm_ck2 = true := by show T_X12_wordOf.all mm_ck2 = true; decide +kernel
set_option maxRecDepth 100000 in
theorem mm_c2_171 : (mm_prog 171).1.all mm_ck2 = true := by show T_X12_isWord.all mm_ck2 = true; decide +kernel
set_option maxRecDepth 100000 in
theorem mm_c2_172 : (mm_prog 172).1.all mm_ck2 = true := by show T_X12_isSign.all mm_ck2 = true; decide +kernel
set_option maxRecDepth 100000 in
theorem mm_c2_173 : (mm_prog 173).1.all mm_ck2 = true := by show T_X12_isName.all mm_ck2 = true; decide +kernel
set_option maxRecDepth 100000 in
theorem mm_c2_174 : (mm_prog 174).1.all mm_ck2 = true := by show T_X12_bad.all mm_ck2 = true; decide +kernel
set_option maxRecDepth 100000 in
theorem mm_c2_175 : (mm_prog 175).1.all mm_ck2 = true := by show T_X12_readNumber.all mm_ck2 = true; decide +kernel
set_option maxRecDepth 100000 in
theorem mm_c2_176 : (mm_prog 176).1.all mm_ck2 = true := by show T_X12_readEnd.all mm_ck2 = true; decide +kernel
set_option maxRecDepth 100000 in
theorem mm_c2_177 : (mm_prog 177).1.all mm_ck2 = true := by show T_X12_begin.all mm_ck2 = true; decide +kernel
set_option maxRecDepth 100000 in
theorem mm_c2_178 : (mm_prog 178).1.all mm_ck2 = true := by show T_X12_startRead.all mm_ck2 = true; decide +kernel
set_option maxRecDepth 100000 in
theorem mm_c2_179 : (mm_prog 179).1.all mm_ck2 = true := by show T_X12_startSo.all mm_ck2 = true; decide +kernel
set_option maxRecDepth 100000 in
theorem mm_c2_180 : (mm_prog 180).1.all mm_ck2 = true := by show T_X12_findIn.all mm_ck2 = true; decide +kernel
set_option maxRecDepth 100000 in
theorem mm_c2_181 : (mm_prog 181).1.all mm_ck2 = true := by show T_X12_isTaken.all mm_ck2 = true; decide +kernel
set_option maxRecDepth 100000 in
theorem mm_c2_182 : (mm_prog 182).1.all mm_ck2 = true := by show T_X12_readNew.all mm_ck2 = true; decide +kernel
set_option maxRecDepth 100000 in
theorem mm_c2_183 : (mm_prog 183).1.all mm_ck2 = true := by show T_X12_readFirst.all mm_ck2 = true; decide +kernel
set_option maxRecDepth 100000 in
theorem mm_c2_184 : (mm_prog 184).1.all mm_ck2 = true := by show T_X12_put.all mm_ck2 = true; decide +kernel
set_option maxRecDepth 100000 in
theorem mm_c2_185 : (mm_prog 185).1.all mm_ck2 = true := by show T_X12_isFresh.all mm_ck2 = true; decide +kernel
set_option maxRecDepth 100000 in
theorem mm_c2_186 : (mm_prog 186).1.all mm_ck2 = true := by show T_X12_readRing.all mm_ck2 = true; decide +kernel
set_option maxRecDepth 100000 in
theorem mm_c2_187 : (mm_prog 187).1.all mm_ck2 = true := by show T_X12_readCousin.all mm_ck2 = true; decide +kernel
set_option maxRecDepth 100000 in
theorem mm_c2_188 : (mm_prog 188).1.all mm_ck2 = true := by show T_X12_readPlace.all mm_ck2 = true; decide +kernel
set_option maxRecDepth 100000 in
theorem mm_c2_189 : (mm_prog 189).1.all mm_ck2 = true := by show T_X12_readPerson.all mm_ck2 = true; decide +kernel
set_option maxRecDepth 100000 in
theorem mm_c2_190 : (mm_prog 190).1.all mm_ck2 = true := by show T_X12_readWork.all mm_ck2 = true; decide +kernel
set_option maxRecDepth 100000 in
theorem mm_c2_191 : (mm_prog 191).1.all mm_ck2 = true := by show T_X12_isWorkHere.all mm_ck2 = true; decide +kernel
set_option maxRecDepth 100000 in
theorem mm_c2_192 : (mm_prog 192).1.all mm_ck2 = true := by show T_X12_readAfter.all mm_ck2 = true; decide +kernel
set_option maxRecDepth 100000 in
theorem mm_c2_193 : (mm_prog 193).1.all mm_ck2 = true := by show T_X12_readThing.all mm_ck2 = true; decide +kernel
set_option maxRecDepth 100000 in
theorem mm_c2_194 : (mm_prog 194).1.all mm_ck2 = true := by show T_X12_readLine.all mm_ck2 = true; decide +kernel
set_option maxRecDepth 100000 in
theorem mm_c2_195 : (mm_prog 195).1.all mm_ck2 = true := by show T_X12_town.all mm_ck2 = true; decide +kernel
set_option maxRecDepth 100000 in
theorem mm_c2_196 : (mm_prog 196).1.all mm_ck2 = true := by show T_X12_fault.all mm_ck2 = true; decide +kernel
set_option maxRecDepth 100000 in
theorem mm_c2_197 : (mm_prog 197).1.all mm_ck2 = true := by show T_X12_isBeater.all mm_ck2 = true; decide +kernel
set_option maxRecDepth 100000 in
theorem mm_c2_198 : (mm_prog 198).1.all mm_ck2 = true := by show T_X12_isPerson.all mm_ck2 = true; decide +kernel
set_option maxRecDepth 100000 in
theorem mm_c2_199 : (mm_prog 199).1.all mm_ck2 = true := by show T_X12_isWork.all mm_ck2 = true; decide +kernel
set_option maxRecDepth 100000 in
theorem mm_c2_200 : (mm_prog 200).1.all mm_ck2 = true := by show T_X12_isOut.all mm_ck2 = true; decide +kernel
set_option maxRecDepth 100000 in
theorem mm_c2_201 : (mm_prog 201).1.all mm_ck2 = true := by show T_X12_isStanding.all mm_ck2 = true; decide +kernel
set_option maxRecDepth 100000 in
theorem mm_c2_202 : (mm_prog 202).1.all mm_ck2 = true := by show T_X12_doneWorks.all mm_ck2 = true; decide +kernel
set_option maxRecDepth 100000 in
theorem mm_c2_203 : (mm_prog 203).1.all mm_ck2 = true := by show T_X12_openWorks.all mm_ck2 = true; decide +kernel
set_option maxRecDepth 100000 in
theorem mm_c2_204 : (mm_prog 204).1.all mm_ck2 = true := by show T_X12_isBusy.all mm_ck2 = true; decide +kernel
set_option maxRecDepth 100000 in
theorem mm_c2_205 : (mm_prog 205).1.all mm_ck2 = true := by show T_X12_person.all mm_ck2 = true; decide +kernel
set_option maxRecDepth 100000 in
theorem mm_c2_206 : (mm_prog 206).1.all mm_ck2 = true := by show T_X12_work.all mm_ck2 = true; decide +kernel
set_option maxRecDepth 100000 in
theorem mm_c2_207 : (mm_prog 207).1.all mm_ck2 = true := by show T_X12_gap.all mm_ck2 = true; decide +kernel
set_option maxRecDepth 100000 in
theorem mm_c2_208 : (mm_prog 208).1.all mm_ck2 = true := by show T_X12_now.all mm_ck2 = true; decide +kernel
set_option maxRecDepth 100000 in
theorem mm_c2_209 : (mm_prog 209).1.all mm_ck2 = true := by show T_X12_snap.all mm_ck2 = true; decide +kernel
set_option maxRecDepth 100000 in
theorem mm_c2_210 : (mm_prog 210).1.all mm_ck2 = true := by show T_X12_isCrowded.all mm_ck2 = true; decide +kernel
set_option maxRecDepth 100000 in
theorem mm_c2_211 : (mm_prog 211).1.all mm_ck2 = true := by show T_X12_why.all mm_ck2 = true; decide +kernel
set_option maxRecDepth 100000 in
theorem mm_c2_212 : (mm_prog 212).1.all mm_ck2 = true := by show T_X12_relieved.all mm_ck2 = true; decide +kernel
set_option maxRecDepth 100000 in
theorem mm_c2_213 : (mm_prog 213).1.all mm_ck2 = true := by show T_X12_live.all mm_ck2 = true; decide +kernel
set_option maxRecDepth 100000 in
theorem mm_c2_214 : (mm_prog 214).1.all mm_ck2 = true := by show T_X12_act.all mm_ck2 = true; decide +kernel
set_option maxRecDepth 100000 in
theorem mm_c2_215 : (mm_prog 215).1.all mm_ck2 = true := by show T_X12_fright.all mm_ck2 = true; decide +kernel
set_option maxRecDepth 100000 in
theorem mm_c2_216 : (mm_prog 216).1.all mm_ck2 = true := by show T_X12_cure.all mm_ck2 = true; decide +kernel
set_option maxRecDepth 100000 in
theorem mm_c2_217 : (mm_prog 217).1.all mm_ck2 = true := by show T_X12_fly.all mm_ck2 = true; decide +kernel
set_option maxRecDepth 100000 in
theorem mm_c2_218 : (mm_prog 218).1.all mm_ck2 = true := by show T_X12_relieve.all mm_ck2 = true; decide +kernel
set_option maxRecDepth 100000 in
theorem mm_c2_219 : (mm_prog 219).1.all mm_ck2 = true := by show T_X12_leave.all mm_ck2 = true; decide +kernel
set_option maxRecDepth 100000 in
theorem mm_c2_220 : (mm_prog 220).1.all mm_ck2 = true := by show T_X12_join.all mm_ck2 = true; decide +kernel
set_option maxRecDepth 100000 in
theorem mm_c2_221 : (mm_prog 221).1.all mm_ck2 = true := by show T_X12_undo.all mm_ck2 = true; decide +kernel
set_option maxRecDepth 100000 in
theorem mm_c2_222 : (mm_prog 222).1.all mm_ck2 = true := by show T_X12_beat.all mm_ck2 = true; decide +kernel
set_option maxRecDepth 100000 in
theorem mm_c2_223 : (mm_prog 223).1.all mm_ck2 = true := by show T_X12_oneSecond.all mm_ck2 = true; decide +kernel
set_option maxRecDepth 100000 in
theorem mm_c2_224 : (mm_prog 224).1.all mm_ck2 = true := by show T_X12_passSeconds.all mm_ck2 = true; decide +kernel
set_option maxRecDepth 100000 in
theorem mm_c2_225 : (mm_prog 225).1.all mm_ck2 = true := by show T_X12_seconds.all mm_ck2 = true; decide +kernel
set_option maxRecDepth 100000 in
theorem mm_c2_226 : (mm_prog 226).1.all mm_ck2 = true := by show T_X12_placeBehind.all mm_ck2 = true; decide +kernel
set_option maxRecDepth 100000 in
theorem mm_c2_227 : (mm_prog 227).1.all mm_ck2 = true := by show T_X12_at.all mm_ck2 = true; decide +kernel
set_option maxRecDepth 100000 in
theorem mm_c2_228 : (mm_prog 228).1.all mm_ck2 = true := by show T_X12_meet.all mm_ck2 = true; decide +kernel
set_option maxRecDepth 100000 in
theorem mm_c2_229 : (mm_prog 229).1.all mm_ck2 = true := by show T_X12_layAside.all mm_ck2 = true; decide +kernel
set_option maxRecDepth 100000 in
theorem mm_c2_230 : (mm_prog 230).1.all mm_ck2 = true := by show T_X12_takeBack.all mm_ck2 = true; decide +kernel
set_option maxRecDepth 100000 in
theorem mm_c2_231 : (mm_prog 231).1.all mm_ck2 = true := by show T_X12_doneBy.all mm_ck2 = true; decide +kernel
set_option maxRecDepth 100000 in
theorem mm_c2_232 : (mm_prog 232).1.all mm_ck2 = true := by show T_X12_when.all mm_ck2 = true; decide +kernel
set_option maxRecDepth 100000 in
theorem mm_c2_233 : (mm_prog 233).1.all mm_ck2 = true := by show T_X12_swift.all mm_ck2 = true; decide +kernel
set_option maxRecDepth 100000 in
theorem mm_c2_234 : (mm_prog 234).1.all mm_ck2 = true := by show T_X12_joins.all mm_ck2 = true; decide +kernel
set_option maxRecDepth 100000 in
theorem mm_c2_235 : (mm_prog 235).1.all mm_ck2 = true := by show T_X12_once.all mm_ck2 = true; decide +kernel
set_option maxRecDepth 100000 in
theorem mm_c2_236 : (mm_prog 236).1.all mm_ck2 = true := by show T_X12_hasStood.all mm_ck2 = true; decide +kernel
set_option maxRecDepth 100000 in
theorem mm_c2_237 : (mm_prog 237).1.all mm_ck2 = true := by show T_X12_leftBy.all mm_ck2 = true; decide +kernel
set_option maxRecDepth 100000 in
theorem mm_c2_238 : (mm_prog 238).1.all mm_ck2 = true := by show T_X12_stood.all mm_ck2 = true; decide +kernel
set_option maxRecDepth 100000 in
theorem mm_c2_239 : (mm_prog 239).1.all mm_ck2 = true := by show T_X12_stoodLeast.all mm_ck2 = true; decide +kernel
set_option maxRecDepth 100000 in
theorem mm_c2_240 : (mm_prog 240).1.all mm_ck2 = true := by show T_X12_stoodMost.all mm_ck2 = true; decide +kernel
set_option maxRecDepth 100000 in
theorem mm_c2_241 : (mm_prog 241).1.all mm_ck2 = true := by show T_X12_next.all mm_ck2 = true; decide +kernel
set_option maxRecDepth 100000 in
theorem mm_c2_242 : (mm_prog 242).1.all mm_ck2 = true := by show T_X12_rowsOf.all mm_ck2 = true; decide +kernel
set_option maxRecDepth 100000 in
theorem mm_c2_243 : (mm_prog 243).1.all mm_ck2 = true := by show T_X12_layRows.all mm_ck2 = true; decide +kernel
set_option maxRecDepth 100000 in
theorem mm_c2_244 : (mm_prog 244).1.all mm_ck2 = true := by show T_X12_rows.all mm_ck2 = true; decide +kernel
set_option maxRecDepth 100000 in
theorem mm_c2_245 : (mm_prog 245).1.all mm_ck2 = true := by show T_X12_rowAt.all mm_ck2 = true; decide +kernel
set_option maxRecDepth 100000 in
theorem mm_c2_246 : (mm_prog 246).1.all mm_ck2 = true := by show T_X12_areNear.all mm_ck2 = true; decide +kernel
set_option maxRecDepth 100000 in
theorem mm_c2_247 : (mm_prog 247).1.all mm_ck2 = true := by show T_X12_isFor.all mm_ck2 = true; decide +kernel
set_option maxRecDepth 100000 in
theorem mm_c2_248 : (mm_prog 248).1.all mm_ck2 = true := by show T_X12_vote.all mm_ck2 = true; decide +kernel
set_option maxRecDepth 100000 in
theorem mm_c2_249 : (mm_prog 249).1.all mm_ck2 = true := by show T_X12_voted.all mm_ck2 = true; decide +kernel
set_option maxRecDepth 100000 in
theorem mm_c2_250 : (mm_prog 250).1.all mm_ck2 = true := by show T_X12_write.all mm_ck2 = true; decide +kernel
set_option maxRecDepth 100000 in
theorem mm_c2_251 : (mm_prog 251).1.all mm_ck2 = true := by show T_X12_writeWord.all mm_ck2 = true; decide +kernel
set_option maxRecDepth 100000 in
theorem mm_c2_252 : (mm_prog 252).1.all mm_ck2 = true := by show T_X12_writeNumber.all mm_ck2 = true; decide +kernel
set_option maxRecDepth 100000 in
theorem mm_c2_253 : (mm_prog 253).1.all mm_ck2 = true := by show T_X12_writeNext.all mm_ck2 = true; decide +kernel
set_option maxRecDepth 100000 in
theorem mm_c2_254 : (mm_prog 254).1.all mm_ck2 = true := by show T_X12_tag.all mm_ck2 = true; decide +kernel
set_option maxRecDepth 100000 in
theorem mm_c2_255 : (mm_prog 255).1.all mm_ck2 = true := by show T_X12_byteAt.all mm_ck2 = true; decide +kernel
set_option maxRecDepth 100000 in
theorem mm_c2_256 : (mm_prog 256).1.all mm_ck2 = true := by show T_X12_draw.all mm_ck2 = true; decide +kernel
set_option maxRecDepth 100000 in
theorem mm_c2_257 : (mm_prog 257).1.all mm_ck2 = true := by show T_X12_drawsFor.all mm_ck2 = true; decide +kernel
set_option maxRecDepth 100000 in
theorem mm_c2_258 : (mm_prog 258).1.all mm_ck2 = true := by show T_X12_drawSeconds.all mm_ck2 = true; decide +kernel
set_option maxRecDepth 100000 in
theorem mm_c2_259 : (mm_prog 259).1.all mm_ck2 = true := by show T_X12_drawn.all mm_ck2 = true; decide +kernel
set_option maxRecDepth 100000 in
theorem mm_c2_260 : (mm_prog 260).1.all mm_ck2 = true := by show T_X12_odds.all mm_ck2 = true; decide +kernel
set_option maxRecDepth 100000 in
theorem mm_c2_261 : (mm_prog 261).1.all mm_ck2 = true := by show T_X12_keep.all mm_ck2 = true; decide +kernel
set_option maxRecDepth 100000 in
theorem mm_c2_262 : (mm_prog 262).1.all mm_ck2 = true := by show T_X12_readNamed.all mm_ck2 = true; decide +kernel
set_option maxRecDepth 100000 in
theorem mm_c2_263 : (mm_prog 263).1.all mm_ck2 = true := by show T_X12_readBeater.all mm_ck2 = true; decide +kernel
set_option maxRecDepth 100000 in
theorem mm_c2_264 : (mm_prog 264).1.all mm_ck2 = true := by show T_X12_readDoes.all mm_ck2 = true; decide +kernel
set_option maxRecDepth 100000 in
theorem mm_c2_265 : (mm_prog 265).1.all mm_ck2 = true := by show T_X12_readBookLine.all mm_ck2 = true; decide +kernel
set_option maxRecDepth 100000 in
theorem mm_c2_266 : (mm_prog 266).1.all mm_ck2 = true := by show T_X12_goBy.all mm_ck2 = true; decide +kernel
set_option maxRecDepth 100000 in
theorem mm_c2_267 : (mm_prog 267).1.all mm_ck2 = true := by show T_X12_book.all mm_ck2 = true; decide +kernel
set_option maxRecDepth 100000 in
theorem mm_c2_268 : (mm_prog 268).1.all mm_ck2 = true := by show T_X12_stay.all mm_ck2 = true; decide +kernel
set_option maxRecDepth 100000 in
theorem mm_c2_269 : (mm_prog 269).1.all mm_ck2 = true := by show T_X12_told.all mm_ck2 = true; decide +kernel
set_option maxRecDepth 100000 in
theorem mm_c2_270 : (mm_prog 270).1.all mm_ck2 = true := by show T_X12_saysOne.all mm_ck2 = true; decide +kernel
set_option maxRecDepth 100000 in
theorem mm_c2_271 : (mm_prog 271).1.all mm_ck2 = true := by show T_X12_readOr.all mm_ck2 = true; decide +kernel
set_option maxRecDepth 100000 in
theorem mm_c2_272 : (mm_prog 272).1.all mm_ck2 = true := by show T_X12_readAnd.all mm_ck2 = true; decide +kernel
set_option maxRecDepth 100000 in
theorem mm_c2_273 : (mm_prog 273).1.all mm_ck2 = true := by show T_X12_readSaid.all mm_ck2 = true; decide +kernel
set_option maxRecDepth 100000 in
theorem mm_c2_274 : (mm_prog 274).1.all mm_ck2 = true := by show T_X12_readNot.all mm_ck2 = true; decide +kernel
set_option maxRecDepth 100000 in
theorem mm_c2_275 : (mm_prog 275).1.all mm_ck2 = true := by show T_X12_readBracket.all mm_ck2 = true; decide +kernel
set_option maxRecDepth 100000 in
theorem mm_c2_276 : (mm_prog 276).1.all mm_ck2 = true := by show T_X12_readOf.all mm_ck2 = true; decide +kernel
set_option maxRecDepth 100000 in
theorem mm_c2_277 : (mm_prog 277).1.all mm_ck2 = true := by show T_X12_readCompare.all mm_ck2 = true; decide +kernel
set_option maxRecDepth 100000 in
theorem mm_c2_278 : (mm_prog 278).1.all mm_ck2 = true := by show T_X12_sentence.all mm_ck2 = true; decide +kernel
set_option maxRecDepth 100000 in
theorem mm_c2_279 : (mm_prog 279).1.all mm_ck2 = true := by show T_X12_holds.all mm_ck2 = true; decide +kernel
set_option maxRecDepth 100000 in
theorem mm_c2_280 : (mm_prog 280).1.all mm_ck2 = true := by show T_X12_said.all mm_ck2 = true; decide +kernel
set_option maxRecDepth 100000 in
theorem mm_c2_281 : (mm_prog 281).1.all mm_ck2 = true := by show T_X12_image.all mm_ck2 = true; decide +kernel
set_option maxRecDepth 100000 in
theorem mm_c2_282 : (mm_prog 282).1.all mm_ck2 = true := by show T_X12_restore.all mm_ck2 = true; decide +kernel
set_option maxRecDepth 100000 in
theorem mm_c2_283 : (mm_prog 283).1.all mm_ck2 = true := by show T_X12_count.all mm_ck2 = true; decide +kernel
set_option maxRecDepth 100000 in
theorem mm_c2_in : ∀ q ∈ [0, 1, 2, 3, 4, 5, 6, 7, 8, 9, 10, 11, 12, 13, 14, 15, 16, 17, 18, 19, 20, 21, 22, 23, 24, 25, 26, 27, 28, 29, 30, 31, 32, 33, 34, 35, 36, 37, 38, 39, 40, 41, 42, 43, 44, 45, 46, 47, 48, 49, 50, 51, 52, 53, 54, 55, 56, 57, 58, 59, 60, 61, 62, 63, 64, 65, 66, 67, 68, 69, 70, 71, 72, 73, 74, 75, 76, 77, 78, 79, 80, 81, 82, 83, 84, 85, 86, 87, 88, 89, 90, 91, 92, 93, 94, 95, 96, 97, 98, 99, 100, 101, 102, 103, 104, 105, 106, 107, 108, 109, 110, 111, 112, 113, 114, 115, 116, 117, 118, 119, 120, 121, 122, 123, 124, 125, 126, 127, 128, 129, 130, 131, 132, 133, 134, 135, 136, 137, 138, 139, 140, 141, 142, 143, 144, 145, 146, 147, 148, 149, 150, 151, 152, 153, 154, 155, 156, 157, 158, 159, 160, 161, 162, 163, 164, 165, 166, 167, 168, 169, 170, 171, 172, 173, 174, 175, 176, 177, 178, 179, 180, 181, 182, 183, 184, 185, 186, 187, 188, 189, 190, 191, 192, 193, 194, 195, 196, 197, 198, 199, 200, 201, 202, 203, 204, 205, 206, 207, 208, 209, 210, 211, 212, 213, 214, 215, 216, 217, 218, 219, 220, 221, 222, 223, 224, 225, 226, 227, 228, 229, 230, 231, 232, 233, 234, 235, 236, 237, 238, 239, 240, 241, 242, 243, 244, 245, 246, 247, 248, 249, 250, 251, 252, 253, 254, 255, 256, 257, 258, 259, 260, 261, 262, 263, 264, 265, 266, 267, 268, 269, 270, 271, 272, 273, 274, 275, 276, 277, 278, 279, 280, 281, 282, 283], (mm_prog q).1.all mm_ck2 = true := (List.forall_mem_cons.mpr ⟨mm_c2_0, (List.forall_mem_cons.mpr ⟨mm_c2_1, (List.forall_mem_cons.mpr ⟨mm_c2_2, (List.forall_mem_cons.mpr ⟨mm_c2_3, (List.forall_mem_cons.mpr ⟨mm_c2_4, (List.forall_mem_cons.mpr ⟨mm_c2_5, (List.forall_mem_cons.mpr ⟨mm_c2_6, (List.forall_mem_cons.mpr ⟨mm_c2_7, (List.forall_mem_cons.mpr ⟨mm_c2_8, (List.forall_mem_cons.mpr ⟨mm_c2_9, (List.forall_mem_cons.mpr ⟨mm_c2_10, (List.forall_mem_cons.mpr ⟨mm_c2_11, (List.forall_mem_cons.mpr ⟨mm_c2_12, (List.forall_mem_cons.mpr ⟨mm_c2_13, (List.forall_mem_cons.mpr ⟨mm_c2_14, (List.forall_mem_cons.mpr ⟨mm_c2_15, (List.forall_mem_cons.mpr ⟨mm_c2_16, (List.forall_mem_cons.mpr ⟨mm_c2_17, (List.forall_mem_cons.mpr ⟨mm_c2_18, (List.forall_mem_cons.mpr ⟨mm_c2_19, (List.forall_mem_cons.mpr ⟨mm_c2_20, (List.forall_mem_cons.mpr ⟨mm_c2_21, (List.forall_mem_cons.mpr ⟨mm_c2_22, (List.forall_mem_cons.mpr ⟨mm_c2_23, (List.forall_mem_cons.mpr ⟨mm_c2_24, (List.forall_mem_cons.mpr ⟨mm_c2_25, (List.forall_mem_cons.mpr ⟨mm_c2_26, (List.forall_mem_cons.mpr ⟨mm_c2_27, (List.forall_mem_cons.mpr ⟨mm_c2_28, (List.forall_mem_cons.mpr ⟨mm_c2_29, (List.forall_mem_cons.mpr ⟨mm_c2_30, (List.forall_mem_cons.mpr ⟨mm_c2_31, (List.forall_mem_cons.mpr ⟨mm_c2_32, (List.forall_mem_cons.mpr ⟨mm_c2_33, (List.forall_mem_cons.mpr ⟨mm_c2_34, (List.forall_mem_cons.mpr ⟨mm_c2_35, (List.forall_mem_cons.mpr ⟨mm_c2_36, (List.forall_mem_cons.mpr ⟨mm_c2_37, (List.forall_mem_cons.mpr ⟨mm_c2_38, (List.forall_mem_cons.mpr ⟨mm_c2_39, (List.forall_mem_cons.mpr ⟨mm_c2_40, (List.forall_mem_cons.mpr ⟨mm_c2_41, (List.forall_mem_cons.mpr ⟨mm_c2_42, (List.forall_mem_cons.mpr ⟨mm_c2_43, (List.forall_mem_cons.mpr ⟨mm_c2_44, (List.forall_mem_cons.mpr ⟨mm_c2_45, (List.forall_mem_cons.mpr ⟨mm_c2_46, (List.forall_mem_cons.mpr ⟨mm_c2_47, (List.forall_mem_cons.mpr ⟨mm_c2_48, (List.forall_mem_cons.mpr ⟨mm_c2_49, (List.forall_mem_cons.mpr ⟨mm_c2_50, (List.forall_mem_cons.mpr ⟨mm_c2_51, (List.forall_mem_cons.mpr ⟨mm_c2_52, (List.forall_mem_cons.mpr ⟨mm_c2_53, (List.forall_mem_cons.mpr ⟨mm_c2_54, (List.forall_mem_cons.mpr ⟨mm_c2_55, (List.forall_mem_cons.mpr ⟨mm_c2_56, (List.forall_mem_cons.mpr ⟨mm_c2_57, (List.forall_mem_cons.mpr ⟨mm_c2_58, (List.forall_mem_cons.mpr ⟨mm_c2_59, (List.forall_mem_cons.mpr ⟨mm_c2_60, (List.forall_mem_cons.mpr ⟨mm_c2_61, (List.forall_mem_cons.mpr ⟨mm_c2_62, (List.forall_mem_cons.mpr ⟨mm_c2_63, (List.forall_mem_cons.mpr ⟨mm_c2_64, (List.forall_mem_cons.mpr ⟨mm_c2_65, (List.forall_mem_cons.mpr ⟨mm_c2_66, (List.forall_mem_cons.mpr ⟨mm_c2_67, (List.forall_mem_cons.mpr ⟨mm_c2_68, (List.forall_mem_cons.mpr ⟨mm_c2_69, (List.forall_mem_cons.mpr ⟨mm_c2_70, (List.forall_mem_cons.mpr ⟨mm_c2_71, (List.forall_mem_cons.mpr ⟨mm_c2_72, (List.forall_mem_cons.mpr ⟨mm_c2_73, (List.forall_mem_cons.mpr ⟨mm_c2_74, (List.forall_mem_cons.mpr ⟨mm_c2_75, (List.forall_mem_cons.mpr ⟨mm_c2_76, (List.forall_mem_cons.mpr ⟨mm_c2_77, (List.forall_mem_cons.mpr ⟨mm_c2_78, (List.forall_mem_cons.mpr ⟨mm_c2_79, (List.forall_mem_cons.mpr ⟨mm_c2_80, (List.forall_mem_cons.mpr ⟨mm_c2_81, (List.forall_mem_cons.mpr ⟨mm_c2_82, (List.forall_mem_cons.mpr ⟨mm_c2_83, (List.forall_mem_cons.mpr ⟨mm_c2_84, (List.forall_mem_cons.mpr ⟨mm_c2_85, (List.forall_mem_cons.mpr ⟨mm_c2_86, (List.forall_mem_cons.mpr ⟨mm_c2_87, (List.forall_mem_cons.mpr ⟨mm_c2_88, (List.forall_mem_cons.mpr ⟨mm_c2_89, (List.forall_mem_cons.mpr ⟨mm_c2_90, (List.forall_mem_cons.mpr ⟨mm_c2_91, (List.forall_mem_cons.mpr ⟨mm_c2_92, (List.forall_mem_cons.mpr ⟨mm_c2_93, (List.forall_mem_cons.mpr ⟨mm_c2_94, (List.forall_mem_cons.mpr ⟨mm_c2_95, (List.forall_mem_cons.mpr ⟨mm_c2_96, (List.forall_mem_cons.mpr ⟨mm_c2_97, (List.forall_mem_cons.mpr ⟨mm_c2_98, (List.forall_mem_cons.mpr ⟨mm_c2_99, (List.forall_mem_cons.mpr ⟨mm_c2_100, (List.forall_mem_cons.mpr ⟨mm_c2_101, (List.forall_mem_cons.mpr ⟨mm_c2_102, (List.forall_mem_cons.mpr ⟨mm_c2_103, (List.forall_mem_cons.mpr ⟨mm_c2_104, (List.forall_mem_cons.mpr ⟨mm_c2_105, (List.forall_mem_cons.mpr ⟨mm_c2_106, (List.forall_mem_cons.mpr ⟨mm_c2_107, (List.forall_mem_cons.mpr ⟨mm_c2_108, (List.forall_mem_cons.mpr ⟨mm_c2_109, (List.forall_mem_cons.mpr ⟨mm_c2_110, (List.forall_mem_cons.mpr ⟨mm_c2_111, (List.forall_mem_cons.mpr ⟨mm_c2_112, (List.forall_mem_cons.mpr ⟨mm_c2_113, (List.forall_mem_cons.mpr ⟨mm_c2_114, (List.forall_mem_cons.mpr ⟨mm_c2_115, (List.forall_mem_cons.mpr ⟨mm_c2_116, (List.forall_mem_cons.mpr ⟨mm_c2_117, (List.forall_mem_cons.mpr ⟨mm_c2_118, (List.forall_mem_cons.mpr ⟨mm_c2_119, (List.forall_mem_cons.mpr ⟨mm_c2_120, (List.forall_mem_cons.mpr ⟨mm_c2_121, (List.forall_mem_cons.mpr ⟨mm_c2_122, (List.forall_mem_cons.mpr ⟨mm_c2_123, (List.forall_mem_cons.mpr ⟨mm_c2_124, (List.forall_mem_cons.mpr ⟨mm_c2_125, (List.forall_mem_cons.mpr ⟨mm_c2_126, (List.forall_mem_cons.mpr ⟨mm_c2_127, (List.forall_mem_cons.mpr ⟨mm_c2_128, (List.forall_mem_cons.mpr ⟨mm_c2_129, (List.forall_mem_cons.mpr ⟨mm_c2_130, (List.forall_mem_cons.mpr ⟨mm_c2_131, (List.forall_mem_cons.mpr ⟨mm_c2_132, (List.forall_mem_cons.mpr ⟨mm_c2_133, (List.forall_mem_cons.mpr ⟨mm_c2_134, (List.forall_mem_cons.mpr ⟨mm_c2_135, (List.forall_mem_cons.mpr ⟨mm_c2_136, (List.forall_mem_cons.mpr ⟨mm_c2_137, (List.forall_mem_cons.mpr ⟨mm_c2_138, (List.forall_mem_cons.mpr ⟨mm_c2_139, (List.forall_mem_cons.mpr ⟨mm_c2_140, (List.forall_mem_cons.mpr ⟨mm_c2_141, (List.forall_mem_cons.mpr ⟨mm_c2_142, (List.forall_mem_cons.mpr ⟨mm_c2_143, (List.forall_mem_cons.mpr ⟨mm_c2_144, (List.forall_mem_cons.mpr ⟨mm_c2_145, (List.forall_mem_cons.mpr ⟨mm_c2_146, (List.forall_mem_cons.mpr ⟨mm_c2_147, (List.forall_mem_cons.mpr ⟨mm_c2_148, (List.forall_mem_cons.mpr ⟨mm_c2_149, (List.forall_mem_cons.mpr ⟨mm_c2_150, (List.forall_mem_cons.mpr ⟨mm_c2_151, (List.forall_mem_cons.mpr ⟨mm_c2_152, (List.forall_mem_cons.mpr ⟨mm_c2_153, (List.forall_mem_cons.mpr ⟨mm_c2_154, (List.forall_mem_cons.mpr ⟨mm_c2_155, (List.forall_mem_cons.mpr ⟨mm_c2_156, (List.forall_mem_cons.mpr ⟨mm_c2_157, (List.forall_mem_cons.mpr ⟨mm_c2_158, (List.forall_mem_cons.mpr ⟨mm_c2_159, (List.forall_mem_cons.mpr ⟨mm_c2_160, (List.forall_mem_cons.mpr ⟨mm_c2_161, (List.forall_mem_cons.mpr ⟨mm_c2_162, (List.forall_mem_cons.mpr ⟨mm_c2_163, (List.forall_mem_cons.mpr ⟨mm_c2_164, (List.forall_mem_cons.mpr ⟨mm_c2_165, (List.forall_mem_cons.mpr ⟨mm_c2_166, (List.forall_mem_cons.mpr ⟨mm_c2_167, (List.forall_mem_cons.mpr ⟨mm_c2_168, (List.forall_mem_cons.mpr ⟨mm_c2_169, (List.forall_mem_cons.mpr ⟨mm_c2_170, (List.forall_mem_cons.mpr ⟨mm_c2_171, (List.forall_mem_cons.mpr ⟨mm_c2_172, (List.forall_mem_cons.mpr ⟨mm_c2_173, (List.forall_mem_cons.mpr ⟨mm_c2_174, (List.forall_mem_cons.mpr ⟨mm_c2_175, (List.forall_mem_cons.mpr ⟨mm_c2_176, (List.forall_mem_cons.mpr ⟨mm_c2_177, (List.forall_mem_cons.mpr ⟨mm_c2_178, (List.forall_mem_cons.mpr ⟨mm_c2_179, (List.forall_mem_cons.mpr ⟨mm_c2_180, (List.forall_mem_cons.mpr ⟨mm_c2_181, (List.forall_mem_cons.mpr ⟨mm_c2_182, (List.forall_mem_cons.mpr ⟨mm_c2_183, (List.forall_mem_cons.mpr ⟨mm_c2_184, (List.forall_mem_cons.mpr ⟨mm_c2_185, (List.forall_mem_cons.mpr ⟨mm_c2_186, (List.forall_mem_cons.mpr ⟨mm_c2_187, (List.forall_mem_cons.mpr ⟨mm_c2_188, (List.forall_mem_cons.mpr ⟨mm_c2_189, (List.forall_mem_cons.mpr ⟨mm_c2_190, (List.forall_mem_cons.mpr ⟨mm_c2_191, (List.forall_mem_cons.mpr ⟨mm_c2_192, (List.forall_mem_cons.mpr ⟨mm_c2_193, (List.forall_mem_cons.mpr ⟨mm_c2_194, (List.forall_mem_cons.mpr ⟨mm_c2_195, (List.forall_mem_cons.mpr ⟨mm_c2_196, (List.forall_mem_cons.mpr ⟨mm_c2_197, (List.forall_mem_cons.mpr ⟨mm_c2_198, (List.forall_mem_cons.mpr ⟨mm_c2_199, (List.forall_mem_cons.mpr ⟨mm_c2_200, (List.forall_mem_cons.mpr ⟨mm_c2_201, (List.forall_mem_cons.mpr ⟨mm_c2_202, (List.forall_mem_cons.mpr ⟨mm_c2_203, (List.forall_mem_cons.mpr ⟨mm_c2_204, (List.forall_mem_cons.mpr ⟨mm_c2_205, (List.forall_mem_cons.mpr ⟨mm_c2_206, (List.forall_mem_cons.mpr ⟨mm_c2_207, (List.forall_mem_cons.mpr ⟨mm_c2_208, (List.forall_mem_cons.mpr ⟨mm_c2_209, (List.forall_mem_cons.mpr ⟨mm_c2_210, (List.forall_mem_cons.mpr ⟨mm_c2_211, (List.forall_mem_cons.mpr ⟨mm_c2_212, (List.forall_mem_cons.mpr ⟨mm_c2_213, (List.forall_mem_cons.mpr ⟨mm_c2_214, (List.forall_mem_cons.mpr ⟨mm_c2_215, (List.forall_mem_cons.mpr ⟨mm_c2_216, (List.forall_mem_cons.mpr ⟨mm_c2_217, (List.forall_mem_cons.mpr ⟨mm_c2_218, (List.forall_mem_cons.mpr ⟨mm_c2_219, (List.forall_mem_cons.mpr ⟨mm_c2_220, (List.forall_mem_cons.mpr ⟨mm_c2_221, (List.forall_mem_cons.mpr ⟨mm_c2_222, (List.forall_mem_cons.mpr ⟨mm_c2_223, (List.forall_mem_cons.mpr ⟨mm_c2_224, (List.forall_mem_cons.mpr ⟨mm_c2_225, (List.forall_mem_cons.mpr ⟨mm_c2_226, (List.forall_mem_cons.mpr ⟨mm_c2_227, (List.forall_mem_cons.mpr ⟨mm_c2_228, (List.forall_mem_cons.mpr ⟨mm_c2_229, (List.forall_mem_cons.mpr ⟨mm_c2_230, (List.forall_mem_cons.mpr ⟨mm_c2_231, (List.forall_mem_cons.mpr ⟨mm_c2_232, (List.forall_mem_cons.mpr ⟨mm_c2_233, (List.forall_mem_cons.mpr ⟨mm_c2_234, (List.forall_mem_cons.mpr ⟨mm_c2_235, (List.forall_mem_cons.mpr ⟨mm_c2_236, (List.forall_mem_cons.mpr ⟨mm_c2_237, (List.forall_mem_cons.mpr ⟨mm_c2_238, (List.forall_mem_cons.mpr ⟨mm_c2_239, (List.forall_mem_cons.mpr ⟨mm_c2_240, (List.forall_mem_cons.mpr ⟨mm_c2_241, (List.forall_mem_cons.mpr ⟨mm_c2_242, (List.forall_mem_cons.mpr ⟨mm_c2_243, (List.forall_mem_cons.mpr ⟨mm_c2_244, (List.forall_mem_cons.mpr ⟨mm_c2_245, (List.forall_mem_cons.mpr ⟨mm_c2_246, (List.forall_mem_cons.mpr ⟨mm_c2_247, (List.forall_mem_cons.mpr ⟨mm_c2_248, (List.forall_mem_cons.mpr ⟨mm_c2_249, (List.forall_mem_cons.mpr ⟨mm_c2_250, (List.forall_mem_cons.mpr ⟨mm_c2_251, (List.forall_mem_cons.mpr ⟨mm_c2_252, (List.forall_mem_cons.mpr ⟨mm_c2_253, (List.forall_mem_cons.mpr ⟨mm_c2_254, (List.forall_mem_cons.mpr ⟨mm_c2_255, (List.forall_mem_cons.mpr ⟨mm_c2_256, (List.forall_mem_cons.mpr ⟨mm_c2_257, (List.forall_mem_cons.mpr ⟨mm_c2_258, (List.forall_mem_cons.mpr ⟨mm_c2_259, (List.forall_mem_cons.mpr ⟨mm_c2_260, (List.forall_mem_cons.mpr ⟨mm_c2_261, (List.forall_mem_cons.mpr ⟨mm_c2_262, (List.forall_mem_cons.mpr ⟨mm_c2_263, (List.forall_mem_cons.mpr ⟨mm_c2_264, (List.forall_mem_cons.mpr ⟨mm_c2_265, (List.forall_mem_cons.mpr ⟨mm_c2_266, (List.forall_mem_cons.mpr ⟨mm_c2_267, (List.forall_mem_cons.mpr ⟨mm_c2_268, (List.forall_mem_cons.mpr ⟨mm_c2_269, (List.forall_mem_cons.mpr ⟨mm_c2_270, (List.forall_mem_cons.mpr ⟨mm_c2_271, (List.forall_mem_cons.mpr ⟨mm_c2_272, (List.forall_mem_cons.mpr ⟨mm_c2_273, (List.forall_mem_cons.mpr ⟨mm_c2_274, (List.forall_mem_cons.mpr ⟨mm_c2_275, (List.forall_mem_cons.mpr ⟨mm_c2_276, (List.forall_mem_cons.mpr ⟨mm_c2_277, (List.forall_mem_cons.mpr ⟨mm_c2_278, (List.forall_mem_cons.mpr ⟨mm_c2_279, (List.forall_mem_cons.mpr ⟨mm_c2_280, (List.forall_mem_cons.mpr ⟨mm_c2_281, (List.forall_mem_cons.mpr ⟨mm_c2_282, (List.forall_mem_cons.mpr ⟨mm_c2_283, (fun _ h => absurd h List.not_mem_nil)⟩)⟩)⟩)⟩)⟩)⟩)⟩)⟩)⟩)⟩)⟩)⟩)⟩)⟩)⟩)⟩)⟩)⟩)⟩)⟩)⟩)⟩)⟩)⟩)⟩)⟩)⟩)⟩)⟩)⟩)⟩)⟩)⟩)⟩)⟩)⟩)⟩)⟩)⟩)⟩)⟩)⟩)⟩)⟩)⟩)⟩)⟩)⟩)⟩)⟩)⟩)⟩)⟩)⟩)⟩)⟩)⟩)⟩)⟩)⟩)⟩)⟩)⟩)⟩)⟩)⟩)⟩)⟩)⟩)⟩)⟩)⟩)⟩)⟩)⟩)⟩)⟩)⟩)⟩)⟩)⟩)⟩)⟩)⟩)⟩)⟩)⟩)⟩)⟩)⟩)⟩)⟩)⟩)⟩)⟩)⟩)⟩)⟩)⟩)⟩)⟩)⟩)⟩)⟩)⟩)⟩)⟩)⟩)⟩)⟩)⟩)⟩)⟩)⟩)⟩)⟩)⟩)⟩)⟩)⟩)⟩)⟩)⟩)⟩)⟩)⟩)⟩)⟩)⟩)⟩)⟩)⟩)⟩)⟩)⟩)⟩)⟩)⟩)⟩)⟩)⟩)⟩)⟩)⟩)⟩)⟩)⟩)⟩)⟩)⟩)⟩)⟩)⟩)⟩)⟩)⟩)⟩)⟩)⟩)⟩)⟩)⟩)⟩)⟩)⟩)⟩)⟩)⟩)⟩)⟩)⟩)⟩)⟩)⟩)⟩)⟩)⟩)⟩)⟩)⟩)⟩)⟩)⟩)⟩)⟩)⟩)⟩)⟩)⟩)⟩)⟩)⟩)⟩)⟩)⟩)⟩)⟩)⟩)⟩)⟩)⟩)⟩)⟩)⟩)⟩)⟩)⟩)⟩)⟩)⟩)⟩)⟩)⟩)⟩)⟩)⟩)⟩)⟩)⟩)⟩)⟩)⟩)⟩)⟩)⟩)⟩)⟩)⟩)⟩)⟩)⟩)⟩)⟩)⟩)⟩)⟩)⟩)⟩)⟩)⟩)⟩)⟩)⟩)⟩)⟩)⟩)⟩)⟩)⟩)⟩)⟩)⟩)⟩)⟩)⟩)⟩)⟩)⟩)⟩)⟩)⟩)⟩)⟩)⟩)⟩)⟩)⟩)⟩)⟩)⟩)⟩)⟩)⟩)⟩)⟩)⟩)⟩)⟩)⟩)⟩)⟩)⟩)⟩)⟩)
set_option maxRecDepth 100000 in
theorem mm_c2_ok {q : Nat} (h : q < 284) : (mm_prog q).1.all mm_ck2 = true := mm_c2_in q (by have := List.mem_range.mpr h; exact (show List.range 284 = [0, 1, 2, 3, 4, 5, 6, 7, 8, 9, 10, 11, 12, 13, 14, 15, 16, 17, 18, 19, 20, 21, 22, 23, 24, 25, 26, 27, 28, 29, 30, 31, 32, 33, 34, 35, 36, 37, 38, 39, 40, 41, 42, 43, 44, 45, 46, 47, 48, 49, 50, 51, 52, 53, 54, 55, 56, 57, 58, 59, 60, 61, 62, 63, 64, 65, 66, 67, 68, 69, 70, 71, 72, 73, 74, 75, 76, 77, 78, 79, 80, 81, 82, 83, 84, 85, 86, 87, 88, 89, 90, 91, 92, 93, 94, 95, 96, 97, 98, 99, 100, 101, 102, 103, 104, 105, 106, 107, 108, 109, 110, 111, 112, 113, 114, 115, 116, 117, 118, 119, 120, 121, 122, 123, 124, 125, 126, 127, 128, 129, 130, 131, 132, 133, 134, 135, 136, 137, 138, 139, 140, 141, 142, 143, 144, 145, 146, 147, 148, 149, 150, 151, 152, 153, 154, 155, 156, 157, 158, 159, 160, 161, 162, 163, 164, 165, 166, 167, 168, 169, 170, 171, 172, 173, 174, 175, 176, 177, 178, 179, 180, 181, 182, 183, 184, 185, 186, 187, 188, 189, 190, 191, 192, 193, 194, 195, 196, 197, 198, 199, 200, 201, 202, 203, 204, 205, 206, 207, 208, 209, 210, 211, 212, 213, 214, 215, 216, 217, 218, 219, 220, 221, 222, 223, 224, 225, 226, 227, 228, 229, 230, 231, 232, 233, 234, 235, 236, 237, 238, 239, 240, 241, 242, 243, 244, 245, 246, 247, 248, 249, 250, 251, 252, 253, 254, 255, 256, 257, 258, 259, 260, 261, 262, 263, 264, 265, 266, 267, 268, 269, 270, 271, 272, 273, 274, 275, 276, 277, 278, 279, 280, 281, 282, 283] from rfl) ▸ this)
/-- a row of a method, as the bytes have it -/
theorem mm_row {q pc : Nat} (hq : q < 284) {e : mm_E} (h : mm_at (mm_prog q).1 pc = some e) : e.1 = pc ∧ decode (mm_b q) pc = .ok (e.2.1, e.2.2.1) ∧ mm_chk (mm_xq q) q e = true ∧ mm_ck2 e = true := by
  have hm : e ∈ (mm_prog q).1 := List.mem_of_find?_eq_some h
  have hp : (e.1 == pc) = true := List.find?_some (p := fun e : mm_E => e.1 == pc) h
  have he : e.1 = pc := by simpa using hp
  have h1 := List.all_eq_true.mp (mm_q_ok hq).1 e hm
  simp only [Bool.and_eq_true, decide_eq_true_eq] at h1
  rw [he] at h1
  exact ⟨he, h1.1, h1.2, List.all_eq_true.mp (mm_c2_ok hq) e hm⟩
end
section
/-! The small machine's heap and values, as the machine's own: g 0 the addresses of the objects by their numbers, g 1 those of the Words, g 2 those of the texts, g 3 those of Word.ALL and MOST_OF_SORT; cy the array classes by what they hold -/
def mm_i32 (x : Int) : Prop := -2147483648 ≤ x ∧ x < 2147483648
def mm_i64 (x : Int) : Prop := -9223372036854775808 ≤ x ∧ x < 9223372036854775808
def mm_wv (g : Nat → Nat → Nat) (i : Int) : Option Nat := if 0 ≤ i ∧ i < 36 then some (g 1 i.toNat) else none
def mm_val (g : Nat → Nat → Nat) (v : mm_V) : Value := match v.1 with
  | 0 => .int (Int32.ofInt v.2)
  | 1 => .long (Int64.ofInt v.2)
  | 2 => va_rf (mm_wv g v.2)
  | 3 => .ref (g 2 v.2.toNat)
  | 4 => .ref (g 3 0)
  | 5 => .ref (g 3 1)
  | _ => .ref (g 0 v.2.toNat)
def mm_vok (v : mm_V) : Prop := match v.1 with
  | 0 => mm_i32 v.2
  | 1 => mm_i64 v.2
  | 2 => True
  | 3 => 0 ≤ v.2 ∧ v.2 < 4
  | 4 => True
  | 5 => True
  | 6 => False
  | 7 => False
  | 8 => False
  | 9 => False
  | t => 0 ≤ v.2 ∧ v.2 < 153 ∧ mm_kd v.2.toNat = t
def mm_fv (g : Nat → Nat → Nat) (h : mm_H) (o k : Nat) (c : Nat × Nat × Nat) : Value := match c.1 with
  | 1 => .long (Int64.ofInt (h o k))
  | 2 => va_rf (mm_wv g (h o k))
  | 3 => .ref (g 0 (o + c.2.2))
  | _ => .int (Int32.ofInt (h o k))
def mm_ar (g : Nat → Nat → Nat) (h : mm_H) (o c : Nat) : (Nat → Int32) ⊕ (Nat → Int64) ⊕ (Nat → UInt32) ⊕ (Nat → UInt64) ⊕ (Nat → Option Nat) := match c with
  | 1 => .inr (.inl fun i => Int64.ofInt (h o i))
  | 2 => .inr (.inr (.inr (.inr fun i => mm_wv g (h o i))))
  | 5 => .inr (.inr (.inr (.inr fun i => some (g 0 (o + 1 + 4 * i)))))
  | 6 => .inr (.inr (.inr (.inr fun i => some (g 0 (o + 62 + 19 * i)))))
  | 7 => .inr (.inr (.inr (.inr fun i => some (g 0 (o + 1 + i)))))
  | _ => .inl fun i => Int32.ofInt (h o i)
def mm_ce (g : Nat → Nat → Nat) (cy : Nat → ClassId) (h : mm_H) (o : Nat) : va_E :=
  if mm_kd o < 22 then .inr (mm_kd o - 10, (List.range (mm_fn (mm_kd o))).map fun k => mm_fv g h o k (mm_fcd (mm_kd o) k))
  else .inl (cy (mm_ak (mm_kd o)).1, (mm_ak (mm_kd o)).2, mm_ar g h o (mm_ak (mm_kd o)).1)
def mm_ws (g : Nat → Nat → Nat) (cy : Nat → ClassId) (h : mm_H) : va_W := (List.range 153).map fun o => (g 0 o, mm_ce g cy h o)
theorem mm_ws_get {g : Nat → Nat → Nat} {cy : Nat → ClassId} {h : mm_H} {o : Nat} (ho : o < 153) : (mm_ws g cy h)[o]? = some (g 0 o, mm_ce g cy h o) := by
  simp [mm_ws, ho]
theorem mm_ws_ge {g : Nat → Nat → Nat} {cy : Nat → ClassId} {h : mm_H} {o : Nat} (ho : ¬ o < 153) : (mm_ws g cy h)[o]? = none := by
  simp [mm_ws]; omega
theorem mm_ws_set {g : Nat → Nat → Nat} {cy : Nat → ClassId} {h h' : mm_H} {o : Nat} (ho : o < 153) {e : va_E} (he : mm_ce g cy h' o = e) (hn : ∀ o', o' ≠ o → mm_ce g cy h' o' = mm_ce g cy h o') : (mm_ws g cy h).set o (g 0 o, e) = mm_ws g cy h' := by
  apply List.ext_getElem?
  intro j
  rw [List.getElem?_set]
  by_cases hj : o = j
  · subst hj
    rw [if_pos rfl, mm_ws_get ho, he]
    simp [mm_ws, ho]
  · rw [if_neg hj]
    by_cases h2 : j < 153
    · rw [mm_ws_get h2, mm_ws_get h2, hn j (Ne.symm hj)]
    · rw [mm_ws_ge h2, mm_ws_ge h2]
theorem mm_ce_congr {g : Nat → Nat → Nat} {cy : Nat → ClassId} {h h' : mm_H} {o : Nat} (hh : ∀ k, h' (o : Int) k = h (o : Int) k) : mm_ce g cy h' o = mm_ce g cy h o := by
  have e : h' (o : Int) = h (o : Int) := funext hh
  unfold mm_ce mm_fv mm_ar
  simp only [e]
theorem mm_up_ne {h : mm_H} {o o' k k' v : Int} (hn : o' ≠ o) : mm_up h o k v o' k' = h o' k' := by
  unfold mm_up
  rw [if_neg (fun q => hn q.1)]
theorem mm_up_ne2 {h : mm_H} {o o' k k' v : Int} (hn : k' ≠ k) : mm_up h o k v o' k' = h o' k' := by
  unfold mm_up
  rw [if_neg (fun q => hn q.2)]
theorem mm_up_eq {h : mm_H} {o k v : Int} : mm_up h o k v o k = v := by
  unfold mm_up
  rw [if_pos ⟨rfl, rfl⟩]
theorem mm_ce_up {g : Nat → Nat → Nat} {cy : Nat → ClassId} {h : mm_H} {o o' : Nat} {k v : Int} (hn : o' ≠ o) : mm_ce g cy (mm_up h o k v) o' = mm_ce g cy h o' :=
  mm_ce_congr (fun _ => mm_up_ne (by omega))
/-- the cell of an object -/
theorem mm_ce_obj {g : Nat → Nat → Nat} {cy : Nat → ClassId} {h : mm_H} {o t : Nat} (ho : mm_kd o = t) (ht : t < 22) : mm_ce g cy h o = .inr (t - 10, (List.range (mm_fn t)).map fun k => mm_fv g h o k (mm_fcd t k)) := by
  unfold mm_ce
  rw [ho, if_pos ht]
theorem mm_ce_arr {g : Nat → Nat → Nat} {cy : Nat → ClassId} {h : mm_H} {o t : Nat} (ho : mm_kd o = t) (ht : ¬ t < 22) : mm_ce g cy h o = .inl (cy (mm_ak t).1, (mm_ak t).2, mm_ar g h o (mm_ak t).1) := by
  unfold mm_ce
  rw [ho, if_neg ht]
theorem mm_fl_set {f f' : Nat → Value} {n k : Nat} {v : Value} (hv : f' k = v) (hn : ∀ j, j ≠ k → f' j = f j) : ((List.range n).map f).set k v = (List.range n).map f' := by
  apply List.ext_getElem?
  intro j
  rw [List.getElem?_set]
  by_cases hj : k = j
  · subst hj
    by_cases h2 : k < n
    · simp [h2, hv]
    · simp [h2]
  · rw [if_neg hj]
    by_cases h2 : j < n
    · simp [h2, hn j (Ne.symm hj)]
    · simp [h2]
/-- a field is written -/
theorem mm_ce_put {g : Nat → Nat → Nat} {cy : Nat → ClassId} {h : mm_H} {o t k : Nat} {x : Int} {v : Value} (ho : mm_kd o = t) (ht : t < 22) (hc : ∀ h' : mm_H, h' (o : Int) (k : Int) = x → mm_fv g h' o k (mm_fcd t k) = v) :
    mm_ce g cy (mm_up h o k x) o = .inr (t - 10, ((List.range (mm_fn t)).map fun k => mm_fv g h o k (mm_fcd t k)).set k v) := by
  rw [mm_ce_obj ho ht]
  refine congrArg (fun l => Sum.inr (t - 10, l)) (mm_fl_set (f := fun k => mm_fv g h o k (mm_fcd t k)) (f' := fun j => mm_fv g (mm_up h o k x) o j (mm_fcd t j)) (hc _ mm_up_eq) ?_).symm
  intro j hj
  have e : mm_up h o k x (o : Int) (j : Int) = h o j := mm_up_ne2 (by omega)
  unfold mm_fv
  simp only [e]
def mm_A (g : Nat → Nat → Nat) : Nat → Prop := fun q => ∃ o, o < 153 ∧ q = g 0 o
def mm_inj (g : Nat → Nat → Nat) : Prop := (∀ i j, i < 153 → j < 153 → g 0 i = g 0 j → i = j) ∧ ∀ i j, i < 36 → j < 36 → g 1 i = g 1 j → i = j
theorem mm_D {g : Nat → Nat → Nat} (hg : mm_inj g) (cy : Nat → ClassId) (h : mm_H) : va_D (mm_A g) (mm_ws g cy h) := by
  have key : ∀ (i : Nat) (p : Nat × va_E), (mm_ws g cy h)[i]? = some p → i < 153 ∧ p.1 = g 0 i := by
    intro i p hp
    by_cases hi : i < 153
    · rw [mm_ws_get hi] at hp
      cases hp
      exact ⟨hi, rfl⟩
    · rw [mm_ws_ge hi] at hp
      cases hp
  refine ⟨fun i j p q hp hq e => ?_, fun k q hq => ⟨k, (key k q hq).1, (key k q hq).2⟩⟩
  obtain ⟨h1, e1⟩ := key i p hp
  obtain ⟨h2, e2⟩ := key j q hq
  exact hg.1 i j h1 h2 (by rw [← e1, ← e2, e])
/-- numbers are numbers of their length -/
def mm_cd (o : Nat) (k : Int) : Nat := if mm_kd o < 22 then (mm_fcd (mm_kd o) k.toNat).1 else (mm_ak (mm_kd o)).1
def mm_rg (h : mm_H) : Prop := ∀ (o : Nat) (k : Int), o < 153 → 0 ≤ k → ((mm_kd o < 22 → (mm_cd o k = 0 ∨ mm_cd o k = 5) → mm_i32 (h o k)) ∧ (¬ mm_kd o < 22 → (mm_cd o k = 0 ∨ mm_cd o k = 3 ∨ mm_cd o k = 4) → mm_i32 (h o k))) ∧ (mm_cd o k = 1 → mm_i64 (h o k))
theorem mm_rg_up {h : mm_H} {o : Nat} {k x : Int} (hr : mm_rg h) (hx : (((mm_kd o < 22 → (mm_cd o k = 0 ∨ mm_cd o k = 5) → mm_i32 x) ∧ (¬ mm_kd o < 22 → (mm_cd o k = 0 ∨ mm_cd o k = 3 ∨ mm_cd o k = 4) → mm_i32 x)) ∧ (mm_cd o k = 1 → mm_i64 x))) : mm_rg (mm_up h o k x) := by
  intro o' k' ho hk
  by_cases e : (o' : Int) = (o : Int) ∧ k' = k
  · obtain ⟨e1, e2⟩ := e
    have e3 : o' = o := by omega
    subst e3; subst e2
    rw [mm_up_eq]
    exact hx
  · have e4 : mm_up h o k x (o' : Int) k' = h o' k' := by
      unfold mm_up
      rw [if_neg e]
    rw [e4]
    exact hr o' k' ho hk
/-- the locals -/
def mm_lr (g : Nat → Nat → Nat) (ls : List mm_V) (L : Array Slot) : Prop := L.size = ls.length ∧ lv_wf L ∧ ∀ (i : Nat) (v : mm_V), ls[i]? = some v → v.1 ≠ 9 → mm_vok v ∧ L[i]? = some (.val (mm_val g v))
def mm_ll (g : Nat → Nat → Nat) (ls : List mm_V) : List (Nat × Value) := (List.range ls.length).filterMap fun i => match ls[i]? with
  | none => none
  | some v => if v.1 = 9 then none else some (i, mm_val g v)
theorem mm_ll_mem {g : Nat → Nat → Nat} {ls : List mm_V} {q : Nat × Value} : q ∈ mm_ll g ls ↔ ∃ v, ls[q.1]? = some v ∧ v.1 ≠ 9 ∧ q.2 = mm_val g v := by
  unfold mm_ll
  rw [List.mem_filterMap]
  constructor
  · rintro ⟨i, hi, hq⟩
    cases h : ls[i]? with
    | none => rw [h] at hq; cases hq
    | some v =>
      rw [h] at hq
      simp only at hq
      split at hq
      · cases hq
      · cases hq
        exact ⟨v, h, by assumption, rfl⟩
  · rintro ⟨v, h1, h2, h3⟩
    have hlt : q.1 < ls.length := (List.getElem?_eq_some_iff.mp h1).1
    refine ⟨q.1, List.mem_range.mpr hlt, ?_⟩
    rw [h1]
    simp only [if_neg h2]
    rw [← h3]
theorem mm_lr_has {g : Nat → Nat → Nat} {ls : List mm_V} {L : Array Slot} (h : mm_lr g ls L) : lv_has L ls.length (mm_ll g ls) := by
  refine ⟨h.1, h.2.1, fun q hq => ?_⟩
  obtain ⟨v, h1, h2, h3⟩ := mm_ll_mem.mp hq
  rw [h3]
  exact (h.2.2 q.1 v h1 h2).2
theorem mm_cat {g : Nat → Nat → Nat} {v : mm_V} : (mm_val g v).category = if v.1 = 1 then 2 else 1 := by
  obtain ⟨t, x⟩ := v
  unfold mm_val
  split
  case h_3 => 
    simp only at *
    subst_vars
    cases mm_wv g x <;> rfl
  all_goals simp_all [Value.category]
/-- a value of one word is stored -/
theorem mm_lr_set {g : Nat → Nat → Nat} {ls : List mm_V} {L L' : Array Slot} {i : Nat} {v : mm_V} (h : mm_lr g ls L) (hv : mm_vok v) (hp : mm_pv ls i = true) (h' : lv_has L' ls.length ((i, mm_val g v) :: (mm_ll g ls).filter (fun q => !(q.1 == i) && !(q.1 + 1 == i && q.2.category == 2)))) : mm_lr g (ls.set i v) L' := by
  refine ⟨by rw [h'.1, List.length_set], h'.2.1, fun j u hj hu => ?_⟩
  rw [List.getElem?_set] at hj
  by_cases e : i = j
  · subst e
    rw [if_pos rfl] at hj
    split at hj
    · cases hj
      exact ⟨hv, h'.2.2 _ List.mem_cons_self⟩
    · cases hj
  · rw [if_neg e] at hj
    refine ⟨(h.2.2 j u hj hu).1, h'.2.2 (j, mm_val g u) (List.mem_cons_of_mem _ (List.mem_filter.mpr ⟨mm_ll_mem.mpr ⟨u, hj, hu, rfl⟩, ?_⟩))⟩
    have n1 : (j == i) = false := by simpa using (Ne.symm e)
    simp only [n1, Bool.not_false, Bool.true_and, Bool.not_eq_true', Bool.and_eq_false_iff]
    by_cases e2 : j + 1 = i
    · right
      subst e2
      unfold mm_pv at hp
      simp only [hj] at hp
      rw [mm_cat]
      have : ¬ u.1 = 1 := by simpa using hp
      rw [if_neg this]
      rfl
    · left
      simpa using e2
theorem mm_lr_set2 {g : Nat → Nat → Nat} {ls : List mm_V} {L L' : Array Slot} {i : Nat} {v : mm_V} (h : mm_lr g ls L) (hv : mm_vok v) (hp : mm_pv ls i = true) (hi : i + 1 < ls.length) (h' : lv_has L' ls.length ((i, mm_val g v) :: (mm_ll g ls).filter (fun q => !(q.1 == i) && (!(q.1 == i + 1) && !(q.1 + 1 == i && q.2.category == 2))))) : mm_lr g ((ls.set i v).set (i + 1) (9, 0)) L' := by
  refine ⟨by rw [h'.1, List.length_set, List.length_set], h'.2.1, fun j u hj hu => ?_⟩
  rw [List.getElem?_set] at hj
  by_cases e0 : i + 1 = j
  · subst e0
    rw [if_pos rfl] at hj
    split at hj
    · cases hj
      exact absurd rfl hu
    · cases hj
  rw [if_neg e0, List.getElem?_set] at hj
  by_cases e : i = j
  · subst e
    rw [if_pos rfl] at hj
    split at hj
    · cases hj
      exact ⟨hv, h'.2.2 _ List.mem_cons_self⟩
    · cases hj
  · rw [if_neg e] at hj
    refine ⟨(h.2.2 j u hj hu).1, h'.2.2 (j, mm_val g u) (List.mem_cons_of_mem _ (List.mem_filter.mpr ⟨mm_ll_mem.mpr ⟨u, hj, hu, rfl⟩, ?_⟩))⟩
    have n1 : (j == i) = false := by simpa using (Ne.symm e)
    have n2 : (j == i + 1) = false := by simpa using (Ne.symm e0)
    simp only [n1, n2, Bool.not_false, Bool.true_and, Bool.not_eq_true', Bool.and_eq_false_iff]
    by_cases e2 : j + 1 = i
    · right
      subst e2
      unfold mm_pv at hp
      simp only [hj] at hp
      rw [mm_cat]
      have : ¬ u.1 = 1 := by simpa using hp
      rw [if_neg this]
      rfl
    · left
      simpa using e2
theorem mm_en_sl {g : Nat → Nat → Nat} : ∀ (as : List mm_V), (lg_sl (as.map (mm_val g))).length = (mm_en as).length
  | [] => rfl
  | v :: r => by
    have ih := mm_en_sl (g := g) r
    have e : lg_sl ((v :: r).map (mm_val g)) = (if (mm_val g v).category = 2 then [.val (mm_val g v), .second] else [.val (mm_val g v)]) ++ lg_sl (r.map (mm_val g)) := rfl
    rw [e, List.length_append, ih, mm_cat]
    by_cases h1 : v.1 = 1
    · have b : (v.1 == 1) = true := by simpa using h1
      simp [mm_en, h1, b]
      omega
    · have b : (v.1 == 1) = false := by simpa using h1
      simp [mm_en, h1, b]
      omega
theorem mm_en_in {g : Nat → Nat → Nat} : ∀ (as : List mm_V) (base i : Nat) (v : mm_V), (mm_en as)[i]? = some v → v.1 ≠ 9 → v ∈ as ∧ (base + i, mm_val g v) ∈ lv_args base (as.map (mm_val g))
  | [], _, _, _, h, _ => by simp [mm_en] at h
  | u :: r, base, i, v, h, hv => by
    by_cases h1 : u.1 = 1
    · have b : (u.1 == 1) = true := by simpa using h1
      have c : (mm_val g u).category = 2 := by rw [mm_cat, if_pos h1]
      simp only [mm_en, b, cond_true] at h
      simp only [List.map_cons, lv_args, c, if_true]
      match i, h with
      | 0, h =>
        simp at h
        subst h
        exact ⟨List.mem_cons_self, List.mem_cons_self⟩
      | 1, h =>
        simp at h
        subst h
        exact absurd rfl hv
      | i + 2, h =>
        have h2 : (mm_en r)[i]? = some v := by simpa using h
        obtain ⟨m1, m2⟩ := mm_en_in (g := g) r (base + 2) i v h2 hv
        exact ⟨List.mem_cons_of_mem _ m1, List.mem_cons_of_mem _ (by rw [show base + (i + 2) = base + 2 + i by omega]; exact m2)⟩
    · have b : (u.1 == 1) = false := by simpa using h1
      have c : ¬ (mm_val g u).category = 2 := by rw [mm_cat, if_neg h1]; decide
      simp only [mm_en, b, cond_false] at h
      simp only [List.map_cons, lv_args, c, if_false]
      match i, h with
      | 0, h =>
        simp at h
        subst h
        exact ⟨List.mem_cons_self, List.mem_cons_self⟩
      | i + 1, h =>
        have h2 : (mm_en r)[i]? = some v := by simpa using h
        obtain ⟨m1, m2⟩ := mm_en_in (g := g) r (base + 1) i v h2 hv
        exact ⟨List.mem_cons_of_mem _ m1, List.mem_cons_of_mem _ (by rw [show base + (i + 1) = base + 1 + i by omega]; exact m2)⟩
/-- the locals at a method's entry -/
theorem mm_lr_entry {g : Nat → Nat → Nat} {as : List mm_V} {n : Nat} (hn : (mm_en as).length ≤ n) (hv : ∀ v ∈ as, mm_vok v) : mm_lr g (mm_fr n as) ((lg_sl (as.map (mm_val g)) ++ List.replicate (n - (lg_sl (as.map (mm_val g))).length) Slot.unset).toArray) := by
  have hl := lv_entry (as.map (mm_val g)) (n := n) (by rw [mm_en_sl]; exact hn)
  refine ⟨?_, hl.2.1, fun i v hi h9 => ?_⟩
  · rw [hl.1]
    simp [mm_fr]
    omega
  · unfold mm_fr at hi
    rw [List.getElem?_append] at hi
    split at hi
    · obtain ⟨m1, m2⟩ := mm_en_in (g := g) as 0 i v hi h9
      rw [Nat.zero_add] at m2
      exact ⟨hv v m1, hl.2.2 _ m2⟩
    · rw [List.getElem?_replicate] at hi
      split at hi
      · cases hi
        exact absurd rfl h9
      · cases hi
end
section
/-! What holds wherever a method of the small machine runs -/
def mm_wn : List String := ["END", "BAD", "NAME", "DIGITS", "SEMICOLON", "LESS", "EQUAL", "GREATER", "OPENING", "CLOSING", "RING", "GAP", "COUSIN", "PERSON", "WORK", "AFTER", "THING", "OUT", "FRIGHT", "CURE", "FLY", "RELIEVE", "MAN", "LEAVES", "JOINS", "SECOND", "OR", "AND", "NOT", "BY", "WITH", "BUSY", "PLACE", "PACE", "STEPS", "NUMBER"]
def mm_ty (c : Nat) : FieldType := match c with
  | 0 => .int
  | 1 => .long
  | 2 => .object "HiccupTown$Word"
  | 3 => .byte
  | 4 => .boolean
  | 5 => .object "HiccupTown$Moment"
  | 6 => .object "HiccupTown$Scene"
  | _ => .array .int
def mm_tys (cy : Nat → ClassId) : List (ClassId × FieldType) := (List.range 8).map fun c => (cy c, mm_ty c)
theorem mm_tys_get {cy : Nat → ClassId} {c : Nat} (h : c < 8) : (mm_tys cy)[c]? = some (cy c, mm_ty c) := by
  simp [mm_tys, h]
/-- what was there before, and stays: the Words, their array and keys, the numbers of MOST_OF_SORT -/
def mm_Z (g : Nat → Nat → Nat) (A : Nat → Prop) (U : State) (H : Heap) : Prop :=
  (∀ i, i < 36 → va_Z "HiccupTown$Word" (mm_wn.getD i "") "LHiccupTown$Word;" (.ref (g 1 i)) A U H) ∧
  va_Z "HiccupTown$Word" "ALL" "[LHiccupTown$Word;" (.ref (g 3 0)) A U H ∧ va_T (.object "HiccupTown$Word") (g 3 0) 36 (fun j => .ref (g 1 j)) A U H ∧
  va_Z "HiccupTown" "MOST_OF_SORT" "[I" (.ref (g 3 1)) A U H ∧ va_T .int (g 3 1) 4 (fun j => .int (Int32.ofInt (mm_mos j))) A U H ∧
  va_Ef 36 "HiccupTown$Word" "key" "J" (fun i => .long (Int64.ofInt (mm_key i))) (g 1) A U H ∧ (∀ i, i < 36 → va_O "HiccupTown$Word" (g 1 i) A U H)
theorem mm_Z.moved {g : Nat → Nat → Nat} {A : Nat → Prop} {u U : State} {H : Heap} (hvm : u.vm.Alike U.vm) (h : mm_Z g A u H) : mm_Z g A U H :=
  ⟨fun i hi => (h.1 i hi).moved hvm, h.2.1.moved hvm, h.2.2.1.moved hvm, h.2.2.2.1.moved hvm, h.2.2.2.2.1.moved hvm, h.2.2.2.2.2.1.moved hvm, fun i hi => (h.2.2.2.2.2.2 i hi).moved hvm⟩
theorem mm_Z.kept {g : Nat → Nat → Nat} {A : Nat → Prop} {U : State} {H H1 : Heap} (h : mm_Z g A U H) (hq : ∀ a : Nat, a < H.size → ¬ A a → H1[a]? = H[a]?) : mm_Z g A U H1 :=
  ⟨fun i hi => (h.1 i hi).kept hq, h.2.1.kept hq, h.2.2.1.kept hq, h.2.2.2.1.kept hq, h.2.2.2.2.1.kept hq, h.2.2.2.2.2.1.kept hq, fun i hi => (h.2.2.2.2.2.2 i hi).kept hq⟩
def mm_nw (U : State) : Prop := ∀ w ∈ mm_NW, va_Nw w U
theorem mm_nw.warm {s U : State} (hW : s.WarmedH U.vm) (h : mm_nw s) : mm_nw U := by
  intro w hw
  have h1 := h w hw
  have h2 : mm_isN w = true := (List.mem_filter.mp hw).2
  cases w <;> first | exact va_Nw.warmF hW h1 | exact va_Nw.warmM hW h1 | (simp [mm_isN] at h2)
theorem mm_nw.same {u U : State} (hv : u.vm = U.vm) (h : mm_nw u) : mm_nw U := by
  intro w hw
  have h1 := h w hw
  have h2 : mm_isN w = true := (List.mem_filter.mp hw).2
  cases w <;> first | exact va_Nw.same rfl hv h1 | (simp [mm_isN] at h2)
/-- the room of a method at depth d -/
def mm_rm (d : Nat) : Room := { frames := d + 3, cells := 0, slots := 0, locals := 60 * d + 120 }
/-- a state in which a method may be called -/
def mm_U (g : Nat → Nat → Nat) (D : va_G) (cy : Nat → ClassId) (h : mm_H) (U : State) : Prop :=
  va_P D vwCl (mm_ws g cy h) U.heap ∧ va_K D vwCl (mm_tys cy) U ∧ mm_Z g (mm_A g) U U.heap ∧ mm_nw U ∧ mm_rg h
/-- what comes back -/
def mm_rv (g : Nat → Nat → Nat) (t : Nat) (x : Int) : Option Value := if t = 8 then none else some (mm_val g (t, x))
def mm_Q (g : Nat → Nat → Nat) (D : va_G) (cy : Nat → ClassId) (t : Nat) (o : mm_O) : Array Value → State → Outcome → State → Prop := fun _ st oc u =>
  oc = .returned (mm_rv g t o.1) ∧ va_P D vwCl (mm_ws g cy o.2) u.heap ∧ va_F (mm_A g) st u
/-- what comes back is sound: of its kind, and the numbers of the heap are -/
def mm_ro (t : Nat) (o : mm_O) : Prop := (t ≠ 8 → mm_vok (t, o.1)) ∧ mm_rg o.2
def mm_wq (q : Nat) : List Cond := .code (mm_y q) (mm_b q) (mm_prog q).2 (mm_r q) :: mm_TW
theorem mm_FB {g : Nat → Nat → Nat} {D : va_G} {cy : Nat → ClassId} {h : mm_H} {as : List Value} : FrameBlind (va_Pc as (mm_U g D cy h)) := by
  intro a U f mk hq
  obtain ⟨q0, qP, qK, qZ, qN, qR⟩ := hq
  exact ⟨q0, qP, va_K.moved (u := U) (U := U.calling f mk a) (Vm.Alike.refl U.vm) qK, mm_Z.moved (u := U) (U := U.calling f mk a) (Vm.Alike.refl U.vm) qZ, mm_nw.same (u := U) (U := U.calling f mk a) rfl qN, qR⟩
section MC
variable {p : Program} {l : Launch} {e : Env} {R : Room} {s : State} {m : MethodId} {args : Array Value} {below : List Frame} {meth : Method} {c : Code} {H : Heap} {locs : List Loc} {cells slots : Nat} {Q : State → Prop}
theorem mm_call {g : Nat → Nat → Nat} {D : va_G} {cy : Nat → ClassId} {t pc : Nat} {o : mm_O} {L : Array Slot} {st0 rest : List Value} {aa : Array Value} {H0 : Heap} (hr : va_Run p l e R s m args below meth c H locs cells slots 0 0 (F0 m pc L st0) rest (mm_Q g D cy t o aa) (mm_A g)) (hS : va_S (mm_A g) H0 H locs)
    (kk : ∀ (H1 : Heap) (locs1 : List Loc), va_P D vwCl (mm_ws g cy o.2) H1 → va_S (mm_A g) H0 H1 locs1 → W p l e R s m args below meth c H1 locs1 cells slots Q (F0 m (pc + 3) L ((mm_rv g t o.1).toList ++ rest))) : W p l e R s m args below meth c H locs cells slots Q (F0 m pc L st0) := by
  intro T hT X
  obtain ⟨v, st₀, u, T', L', h0, X', hL, e1, e2, ⟨hv, hP, hz, hk⟩, st⟩ := hr T hT X
  cases hv
  rw [h0] at hz hk
  obtain ⟨t2, a1, b1⟩ := kk T'.heap (locs ++ L') (by rw [e1]; exact hP)
    ⟨Nat.le_trans hS.1 (by rw [e1]; exact hz), fun q h1 h2 => by rw [e1, hk q (Nat.lt_of_lt_of_le h1 hS.1) h2]; exact hS.2.1 q h1 h2, fun q hq => by
      rcases List.mem_append.mp hq with h | h
      · exact hS.2.2 q h
      · exact hL q h⟩ T' rfl X'
  exact ⟨t2, st t2 a1, b1⟩
end MC
end
section
/-! A step keeps numbers numbers of their length, and references references of their kind -/
theorem mm_t1_some {α : Type} {st : List mm_V} {t : Nat} {k : Int → List mm_V → Option α} {z : α} (h : mm_t1 st t none k = some z) : ∃ x r, st = (t, x) :: r ∧ k x r = some z := by
  unfold mm_t1 at h
  cases st with
  | nil => cases h
  | cons v r =>
    obtain ⟨a, b⟩ := v
    simp only at h
    cases e : a == t with
    | true => rw [e] at h; have : a = t := by simpa using e
              subst this; exact ⟨b, r, rfl, h⟩
    | false => rw [e] at h; cases h
theorem mm_an_some {α : Type} {st : List mm_V} {k : mm_V → List mm_V → Option α} {z : α} (h : mm_an st none k = some z) : ∃ v r, st = v :: r ∧ v.1 ≠ 1 ∧ v.1 ≠ 9 ∧ k v r = some z := by
  unfold mm_an at h
  cases st with
  | nil => cases h
  | cons v r =>
    simp only at h
    cases e : (v.1 == 1 || v.1 == 9) with
    | true => rw [e] at h; cases h
    | false =>
      rw [e] at h
      simp only [Bool.or_eq_false_iff, beq_eq_false_iff_ne] at e
      exact ⟨v, r, rfl, e.1, e.2, h⟩
theorem mm_nl_some {α : Type} {st : List mm_V} {k : Option α} {z : α} (h : mm_nl st none k = some z) : st = [] ∧ k = some z := by
  unfold mm_nl at h
  cases st with
  | nil => exact ⟨rfl, h⟩
  | cons v r => cases h
theorem mm_ld_some {α : Type} {ls : List mm_V} {i t : Nat} {k : Int → Option α} {z : α} (h : mm_ld ls i t none k = some z) : ∃ x, ls[i]? = some (t, x) ∧ k x = some z := by
  unfold mm_ld at h
  cases e : ls[i]? with
  | none => rw [e] at h; cases h
  | some v =>
    obtain ⟨a, b⟩ := v
    rw [e] at h
    simp only at h
    cases e2 : a == t with
    | true => rw [e2] at h; have : a = t := by simpa using e2
              subst this; exact ⟨b, rfl, h⟩
    | false => rw [e2] at h; cases h
theorem mm_la_some {α : Type} {ls : List mm_V} {i : Nat} {k : mm_V → Option α} {z : α} (h : mm_la ls i none k = some z) : ∃ v, ls[i]? = some v ∧ v.1 ≠ 0 ∧ v.1 ≠ 1 ∧ v.1 ≠ 9 ∧ k v = some z := by
  unfold mm_la at h
  cases e : ls[i]? with
  | none => rw [e] at h; cases h
  | some v =>
    rw [e] at h
    simp only at h
    cases e2 : (v.1 == 0 || v.1 == 1 || v.1 == 9) with
    | true => rw [e2] at h; cases h
    | false =>
      rw [e2] at h
      simp only [Bool.or_eq_false_iff, beq_eq_false_iff_ne] at e2
      exact ⟨v, rfl, e2.1.1, e2.1.2, e2.2, h⟩
theorem mm_s1_some {α : Type} {ls : List mm_V} {i : Nat} {v : mm_V} {k : List mm_V → Option α} {z : α} (h : mm_s1 ls i v none k = some z) : i < ls.length ∧ mm_pv ls i = true ∧ k (ls.set i v) = some z := by
  unfold mm_s1 at h
  cases e : (decide (i < ls.length) && mm_pv ls i) with
  | true =>
    rw [e] at h
    simp only [Bool.and_eq_true, decide_eq_true_eq] at e
    exact ⟨e.1, e.2, h⟩
  | false => rw [e] at h; cases h
theorem mm_s2_some {α : Type} {ls : List mm_V} {i : Nat} {v : mm_V} {k : List mm_V → Option α} {z : α} (h : mm_s2 ls i v none k = some z) : i + 1 < ls.length ∧ mm_pv ls i = true ∧ k ((ls.set i v).set (i + 1) (9, 0)) = some z := by
  unfold mm_s2 at h
  cases e : (decide (i + 1 < ls.length) && mm_pv ls i) with
  | true =>
    rw [e] at h
    simp only [Bool.and_eq_true, decide_eq_true_eq] at e
    exact ⟨e.1, e.2, h⟩
  | false => rw [e] at h; cases h
theorem mm_ck_some {α : Type} {st : List mm_V} {k : Option α} {z : α} (h : mm_ck st none k = some z) : mm_wd st ≤ 20 ∧ k = some z := by
  unfold mm_ck at h
  cases e : decide (mm_wd st ≤ 20) with
  | true => rw [e] at h; exact ⟨by simpa using e, h⟩
  | false => rw [e] at h; cases h
theorem mm_bf_some {α : Type} {b : Bool} {k : Option α} {z : α} (h : (bif b then k else none) = some z) : b = true ∧ k = some z := by
  cases b with
  | true => exact ⟨rfl, h⟩
  | false => cases h
theorem mm_if_some {α : Type} {c : Prop} [Decidable c] {k : Option α} {z : α} (h : (if c then k else none) = some z) : c ∧ k = some z := by
  split at h
  · exact ⟨by assumption, h⟩
  · cases h
theorem mm_ifn_some {α : Type} {c : Prop} [Decidable c] {k : Option α} {z : α} (h : (if c then none else k) = some z) : ¬ c ∧ k = some z := by
  split at h
  · cases h
  · exact ⟨by assumption, h⟩
theorem mm_sw_some {α : Type} {x : Int} {pc : Nat} {K : Nat → Option α} {d : Int} {z : α} : ∀ {os : List Int} {lo : Int}, mm_sw x pc K d lo os = some z → (∃ (j : Nat) (o : Int), os[j]? = some o ∧ x = lo + j ∧ K (mm_tg pc o) = some z) ∨ ((∀ j : Nat, j < os.length → x ≠ lo + j) ∧ K (mm_tg pc d) = some z)
  | [], lo, h => Or.inr ⟨fun j hj => absurd hj (Nat.not_lt_zero j), h⟩
  | o :: os, lo, h => by
    have h : (if x = lo then K (mm_tg pc o) else mm_sw x pc K d (lo + 1) os) = some z := h
    split at h
    · exact Or.inl ⟨0, o, rfl, by simpa using ‹x = lo›, h⟩
    · rcases mm_sw_some h with ⟨j, o', h1, h2, h3⟩ | ⟨h1, h2⟩
      · exact Or.inl ⟨j + 1, o', h1, by omega, h3⟩
      · refine Or.inr ⟨fun j hj => ?_, h2⟩
        cases j with
        | zero => simpa using ‹¬ x = lo›
        | succ j =>
          have := h1 j (by simpa using hj)
          omega
theorem mm_lk_some {α : Type} {x : Int} {pc : Nat} {K : Nat → Option α} {d : Int} {z : α} : ∀ {os : List (Int × Int)}, mm_lk x pc K d os = some z → K (mm_tg pc (Op.lookupswitch.offset os d x)) = some z ∧ (Op.lookupswitch.offset os d x = d ∨ ∃ p ∈ os, Op.lookupswitch.offset os d x = p.2)
  | [], h => ⟨h, Or.inl rfl⟩
  | o :: os, h => by
    have h : (if x = o.1 then K (mm_tg pc o.2) else mm_lk x pc K d os) = some z := h
    obtain ⟨a, b⟩ := o
    rw [Op.lookupswitch.offset_cons]
    by_cases e : x = a
    · rw [if_pos e] at h
      rw [if_pos (by first | exact e | exact e.symm)]
      exact ⟨h, Or.inr ⟨(a, b), List.mem_cons_self, rfl⟩⟩
    · rw [if_neg e] at h
      rw [if_neg (by first | exact e | exact fun q => e q.symm)]
      obtain ⟨h1, h2⟩ := mm_lk_some h
      refine ⟨h1, ?_⟩
      rcases h2 with h2 | ⟨p, hp, h2⟩
      · exact Or.inl h2
      · exact Or.inr ⟨p, List.mem_cons_of_mem _ hp, h2⟩
theorem mm_w_ok (x : Int) : mm_i32 (mm_w x) := by
  unfold mm_w mm_i32
  have h1 := Int.le_bmod (x := x) (m := 4294967296) (by decide)
  have h2 := Int.bmod_lt (x := x) (m := 4294967296) (by decide)
  omega
theorem mm_wl_ok (x : Int) : mm_i64 (mm_wl x) := by
  unfold mm_wl mm_i64
  have h1 := Int.le_bmod (x := x) (m := 18446744073709551616) (by decide)
  have h2 := Int.bmod_lt (x := x) (m := 18446744073709551616) (by decide)
  omega
theorem mm_w8_ok (x : Int) : -128 ≤ mm_w8 x ∧ mm_w8 x < 128 := by
  unfold mm_w8
  have h1 := Int.le_bmod (x := x) (m := 256) (by decide)
  have h2 := Int.bmod_lt (x := x) (m := 256) (by decide)
  omega
theorem mm_t32 (x : Int32) : mm_i32 x.toInt := ⟨Int32.le_toInt x, Int32.toInt_lt x⟩
theorem mm_t64 (x : Int64) : mm_i64 x.toInt := ⟨Int64.le_toInt x, Int64.toInt_lt x⟩
theorem mm_keys_ok : ∀ x ∈ mm_keys, 0 ≤ x ∧ x < 9223372036854775808 := by decide +kernel
theorem mm_key_ok (i : Int) : mm_i64 (mm_key i) := by
  unfold mm_key
  rw [List.getD_eq_getElem?_getD]
  cases e : mm_keys[i.toNat]? with
  | none => exact ⟨by decide, by decide⟩
  | some v =>
    have := mm_keys_ok v (List.mem_of_getElem? e)
    exact ⟨by simp only [Option.getD_some]; omega, by simp only [Option.getD_some]; omega⟩
def mm_vl (ls st : List mm_V) (h : mm_H) : Prop := (∀ (i : Nat) (v : mm_V), ls[i]? = some v → v.1 ≠ 9 → mm_vok v) ∧ (∀ v ∈ st, mm_vok v) ∧ mm_rg h
theorem mm_vl.push {ls st : List mm_V} {h : mm_H} {v : mm_V} (a : mm_vl ls st h) (b : mm_vok v) : mm_vl ls (v :: st) h := ⟨a.1, List.forall_mem_cons.mpr ⟨b, a.2.1⟩, a.2.2⟩
theorem mm_vl.pop {ls st : List mm_V} {h : mm_H} {v : mm_V} (a : mm_vl ls (v :: st) h) : mm_vok v ∧ mm_vl ls st h := ⟨(List.forall_mem_cons.mp a.2.1).1, a.1, (List.forall_mem_cons.mp a.2.1).2, a.2.2⟩
theorem mm_vl.set {ls st : List mm_V} {h : mm_H} {i : Nat} {v : mm_V} (a : mm_vl ls st h) (b : v.1 ≠ 9 → mm_vok v) : mm_vl (ls.set i v) st h := by
  refine ⟨fun j u hj hu => ?_, a.2⟩
  rw [List.getElem?_set] at hj
  by_cases e : i = j
  · subst e
    rw [if_pos rfl] at hj
    split at hj
    · cases hj
      exact b hu
    · cases hj
  · rw [if_neg e] at hj
    exact a.1 j u hj hu
theorem mm_vl.heap {ls st : List mm_V} {h h' : mm_H} (a : mm_vl ls st h) (b : mm_rg h') : mm_vl ls st h' := ⟨a.1, a.2.1, b⟩
/-- of a step's end -/
def mm_zok (q : Nat) (ls : List mm_V) (z : mm_O ⊕ ((Nat × List mm_V × List mm_V × mm_H) ⊕ (Nat × List mm_V × Nat × Nat × List mm_V × List mm_V × mm_H))) : Prop := match z with
  | .inl o => mm_ro (mm_rt q) o
  | .inr (.inl s) => mm_vl s.2.1 s.2.2.1 s.2.2.2 ∧ s.2.1.length = ls.length
  | .inr (.inr s) => s.1 < 284 ∧ (∀ v ∈ s.2.1, mm_vok v) ∧ s.2.2.1 = mm_rt s.1 ∧ mm_vl s.2.2.2.2.1 s.2.2.2.2.2.1 s.2.2.2.2.2.2 ∧ s.2.2.2.2.1 = ls
theorem mm_ref {v : mm_V} (h : mm_vok v) (h1 : 10 ≤ v.1) : 0 ≤ v.2 ∧ v.2 < 153 ∧ mm_kd v.2.toNat = v.1 := by
  obtain ⟨t, x⟩ := v
  unfold mm_vok at h
  split at h <;> simp_all
theorem mm_ref' {t : Nat} {x : Int} (h1 : 10 ≤ t) (h : 0 ≤ x ∧ x < 153 ∧ mm_kd x.toNat = t) : mm_vok (t, x) := by
  unfold mm_vok
  split <;> simp_all
theorem mm_elem {α : Type} [BEq α] [LawfulBEq α] {a : α} {l : List α} (h : l.elem a = true) : a ∈ l := List.mem_of_elem_eq_true h
theorem mm_rdi {h : mm_H} (hr : mm_rg h) {o : Int} {t k : Nat} (h0 : 0 ≤ o ∧ o < 153 ∧ mm_kd o.toNat = t) (ht : t < 22) (hc : (mm_fcd t k).1 = 0 ∨ (mm_fcd t k).1 = 5) : mm_i32 (h o k) := by
  obtain ⟨a, b, c⟩ := h0
  have h1 := ((hr o.toNat (k : Int) (by omega) (by omega)).1).1
  rw [show ((o.toNat : Nat) : Int) = o by omega] at h1
  exact h1 (by rw [c]; exact ht) (by unfold mm_cd; rw [c, if_pos ht]; simpa using hc)
theorem mm_rdl {h : mm_H} (hr : mm_rg h) {o : Int} {t k : Nat} (h0 : 0 ≤ o ∧ o < 153 ∧ mm_kd o.toNat = t) (ht : t < 22) (hc : (mm_fcd t k).1 = 1) : mm_i64 (h o k) := by
  obtain ⟨a, b, c⟩ := h0
  have h1 := (hr o.toNat (k : Int) (by omega) (by omega)).2
  rw [show ((o.toNat : Nat) : Int) = o by omega] at h1
  exact h1 (by unfold mm_cd; rw [c, if_pos ht]; simpa using hc)
theorem mm_rai {h : mm_H} (hr : mm_rg h) {o i : Int} {t : Nat} (h0 : 0 ≤ o ∧ o < 153 ∧ mm_kd o.toNat = t) (ht : ¬ t < 22) (hi : 0 ≤ i) (hc : (mm_ak t).1 = 0 ∨ (mm_ak t).1 = 3 ∨ (mm_ak t).1 = 4) : mm_i32 (h o i) := by
  obtain ⟨a, b, c⟩ := h0
  have h1 := ((hr o.toNat i (by omega) hi).1).2
  rw [show ((o.toNat : Nat) : Int) = o by omega] at h1
  exact h1 (by rw [c]; exact ht) (by unfold mm_cd; rw [c, if_neg ht]; exact hc)
theorem mm_ral {h : mm_H} (hr : mm_rg h) {o i : Int} {t : Nat} (h0 : 0 ≤ o ∧ o < 153 ∧ mm_kd o.toNat = t) (ht : ¬ t < 22) (hi : 0 ≤ i) (hc : (mm_ak t).1 = 1) : mm_i64 (h o i) := by
  obtain ⟨a, b, c⟩ := h0
  have h1 := (hr o.toNat i (by omega) hi).2
  rw [show ((o.toNat : Nat) : Int) = o by omega] at h1
  exact h1 (by unfold mm_cd; rw [c, if_neg ht]; exact hc)
theorem mm_ak_ge {t n : Nat} (h : (mm_ak t).1 = n) (hn : n ≠ 9) : ¬ t < 22 := by
  intro q
  unfold mm_ak at h
  rw [if_pos q] at h
  exact hn h.symm
/-- a field is written -/
theorem mm_wrf {h : mm_H} (hr : mm_rg h) {o x : Int} {t k : Nat} (h0 : 0 ≤ o ∧ o < 153 ∧ mm_kd o.toNat = t) (ht : t < 22) (hc : ((mm_fcd t k).1 = 0 ∨ (mm_fcd t k).1 = 5) → mm_i32 x) (hl : (mm_fcd t k).1 = 1 → mm_i64 x) : mm_rg (mm_up h o k x) := by
  obtain ⟨a, b, c⟩ := h0
  have e : o = ((o.toNat : Nat) : Int) := by omega
  rw [e]
  have e2 : mm_cd o.toNat (k : Int) = (mm_fcd t k).1 := by unfold mm_cd; rw [c, if_pos ht]; simp
  refine mm_rg_up hr ⟨⟨fun _ q => hc (by rw [← e2]; exact q), fun q => absurd (by rw [c]; exact ht) q⟩, fun q => hl (by rw [← e2]; exact q)⟩
theorem mm_wra {h : mm_H} (hr : mm_rg h) {o i x : Int} {t : Nat} (h0 : 0 ≤ o ∧ o < 153 ∧ mm_kd o.toNat = t) (ht : ¬ t < 22) (hc : ((mm_ak t).1 = 0 ∨ (mm_ak t).1 = 3 ∨ (mm_ak t).1 = 4) → mm_i32 x) (hl : (mm_ak t).1 = 1 → mm_i64 x) : mm_rg (mm_up h o i x) := by
  obtain ⟨a, b, c⟩ := h0
  have e : o = ((o.toNat : Nat) : Int) := by omega
  rw [e]
  have e2 : mm_cd o.toNat i = (mm_ak t).1 := by unfold mm_cd; rw [c, if_neg ht]
  refine mm_rg_up hr ⟨⟨fun q => absurd (by rw [← c]; exact q) ht, fun _ q => hc (by rw [← e2]; exact q)⟩, fun q => hl (by rw [← e2]; exact q)⟩
theorem mm_wrc {h : mm_H} (hr : mm_rg h) {a b i j n : Int} {t u : Nat} (ha : 0 ≤ a ∧ a < 153 ∧ mm_kd a.toNat = t) (hb : 0 ≤ b ∧ b < 153 ∧ mm_kd b.toNat = u) (ht : (mm_ak t).1 = 0 ∨ (mm_ak t).1 = 1) (hu : (mm_ak u).1 = (mm_ak t).1) (hi : 0 ≤ i) : mm_rg (mm_cp h a i b j n) := by
  have t2 : ¬ t < 22 := by
    rcases ht with q | q
    · exact mm_ak_ge q (by decide)
    · exact mm_ak_ge q (by decide)
  have u2 : ¬ u < 22 := by
    rcases ht with q | q
    · exact mm_ak_ge (hu.trans q) (by decide)
    · exact mm_ak_ge (hu.trans q) (by decide)
  intro o k ho hk
  have cu : mm_cd b.toNat k = (mm_ak u).1 := by unfold mm_cd; rw [hb.2.2, if_neg u2]
  unfold mm_cp
  by_cases e : (o : Int) = b ∧ j ≤ k ∧ k < j + n
  · rw [if_pos e]
    have eo : o = b.toNat := by omega
    subst eo
    refine ⟨⟨fun q => absurd (by rw [← hb.2.2]; exact q) u2, fun _ q => ?_⟩, fun q => ?_⟩
    · refine mm_rai hr ha t2 (by omega) ?_
      rw [cu, hu] at q
      exact q
    · refine mm_ral hr ha t2 (by omega) ?_
      rw [cu, hu] at q
      exact q
  · rw [if_neg e]
    exact hr o k ho hk
end
section
/-! The kept kinds, instruction by instruction -/
theorem mm_mk1 {q : Nat} {ls : List mm_V} {s : Nat × List mm_V × List mm_V × mm_H} (h : mm_vl s.2.1 s.2.2.1 s.2.2.2) (hl : s.2.1.length = ls.length) {z : mm_O ⊕ ((Nat × List mm_V × List mm_V × mm_H) ⊕ (Nat × List mm_V × Nat × Nat × List mm_V × List mm_V × mm_H))} (hz : some (Sum.inr (Sum.inl s)) = some z) : mm_zok q ls z := by
  cases hz
  exact ⟨h, hl⟩
theorem mm_mk0 {q : Nat} {ls : List mm_V} {o : mm_O} (h : mm_ro (mm_rt q) o) {z : mm_O ⊕ ((Nat × List mm_V × List mm_V × mm_H) ⊕ (Nat × List mm_V × Nat × Nat × List mm_V × List mm_V × mm_H))} (hz : some (Sum.inl o) = some z) : mm_zok q ls z := by
  cases hz
  exact h
theorem mm_i0 {x : Int} (h : mm_i32 x) : mm_vok (0, x) := h
theorem mm_i2 (x : Int) : mm_vok (2, x) := trivial
theorem mm_lcmp_ok (x y : Int) : mm_i32 (mm_lcmp x y) := by
  unfold mm_lcmp mm_i32
  split
  · decide
  · split <;> decide
theorem mm_i1 {x : Int} (h : mm_i64 x) : mm_vok (1, x) := h
theorem mm_ofi {x : Int} (h : mm_i32 x) : mm_i64 x := ⟨by have := h.1; omega, by have := h.2; omega⟩
theorem mm_sm {x : Int} {a b : Int} (h1 : a ≤ x) (h2 : x < b) (ha : -2147483648 ≤ a) (hb : b ≤ 2147483648) : mm_i32 x := ⟨by omega, by omega⟩
theorem mm_txt_ok (s : Int) : ∀ x ∈ mm_txt s, 0 ≤ x ∧ x < 128 := by
  intro x hx
  unfold mm_txt at hx
  split at hx
  · revert x; decide
  · split at hx
    · revert x; decide
    · split at hx
      · revert x; decide
      · revert x; decide
theorem mm_txt_len (s : Int) : (mm_txt s).length ≤ 8 := by
  unfold mm_txt
  split
  · decide
  · split
    · decide
    · split <;> decide
theorem mm_mos_ok (i : Int) : 4 ≤ mm_mos i ∧ mm_mos i ≤ 7 := by
  unfold mm_mos
  split
  · decide
  · split
    · decide
    · split <;> decide
set_option maxHeartbeats 8000000 in
set_option maxRecDepth 100000 in
theorem mm_pres {q : Nat} {e : mm_E} (hc : mm_chk (mm_xq q) q e = true) (h2 : mm_ck2 e = true) {ls st : List mm_V} {h : mm_H} {z : mm_O ⊕ ((Nat × List mm_V × List mm_V × mm_H) ⊕ (Nat × List mm_V × Nat × Nat × List mm_V × List mm_V × mm_H))} (hv : mm_vl ls st h) (hs : mm_st e ls st h = some z) : mm_zok q ls z := by
  obtain ⟨pc, ins, len, aux, val⟩ := e
  cases ins
  case iconst n =>
    simp only [mm_st, mm_F] at hs
    simp only [mm_ck2, Bool.and_eq_true, decide_eq_true_eq] at h2
    exact mm_mk1 (hv.push (mm_i0 (by constructor <;> omega))) rfl hs
  case bipush n =>
    simp only [mm_st, mm_F] at hs
    simp only [mm_ck2, Bool.and_eq_true, decide_eq_true_eq] at h2
    exact mm_mk1 (hv.push (mm_i0 (by constructor <;> omega))) rfl hs
  case sipush n =>
    simp only [mm_st, mm_F] at hs
    simp only [mm_ck2, Bool.and_eq_true, decide_eq_true_eq] at h2
    exact mm_mk1 (hv.push (mm_i0 (by constructor <;> omega))) rfl hs
  case lconst n =>
    simp only [mm_st, mm_F] at hs
    exact mm_mk1 (hv.push (mm_i1 (by have := n.isLt; constructor <;> omega))) rfl hs
  case ldc i =>
    simp only [mm_st, mm_F] at hs
    simp only [mm_chk, Bool.and_eq_true, Bool.or_eq_true, beq_iff_eq] at hc
    obtain ⟨e1, hm⟩ := hc
    rw [e1] at hs
    exact mm_mk1 (hv.push (mm_i0 (mm_pk_ok _ (mm_elem hm)).2)) rfl hs
  case ldc_w i =>
    simp only [mm_st, mm_F] at hs
    simp only [mm_chk, Bool.and_eq_true, Bool.or_eq_true, beq_iff_eq] at hc
    rcases hc with ⟨e1, hm⟩ | ⟨e1, hm⟩
    · rw [e1] at hs
      exact mm_mk1 (hv.push (mm_i0 (mm_pk_ok _ (mm_elem hm)).2)) rfl hs
    · rw [e1] at hs
      refine mm_mk1 (hv.push ?_) rfl hs
      have hm := mm_elem hm
      have : ∀ z ∈ mm_ps, 0 ≤ z.2.2 ∧ z.2.2 < 4 := by decide
      exact this _ hm
  case ldc2_w i =>
    simp only [mm_st, mm_F] at hs
    simp only [mm_chk] at hc
    exact mm_mk1 (hv.push (mm_i1 (mm_pl_ok _ (mm_elem hc)).2)) rfl hs
  case iload_n i =>
    simp only [mm_st, mm_F] at hs
    obtain ⟨x, e1, hs⟩ := mm_ld_some hs
    exact mm_mk1 (hv.push (hv.1 _ _ e1 (by simp))) rfl hs
  case iload i =>
    simp only [mm_st, mm_F] at hs
    obtain ⟨x, e1, hs⟩ := mm_ld_some hs
    exact mm_mk1 (hv.push (hv.1 _ _ e1 (by simp))) rfl hs
  case lload_n i =>
    simp only [mm_st, mm_F] at hs
    obtain ⟨x, e1, hs⟩ := mm_ld_some hs
    exact mm_mk1 (hv.push (hv.1 _ _ e1 (by simp))) rfl hs
  case lload i =>
    simp only [mm_st, mm_F] at hs
    obtain ⟨x, e1, hs⟩ := mm_ld_some hs
    exact mm_mk1 (hv.push (hv.1 _ _ e1 (by simp))) rfl hs
  case aload_n i =>
    simp only [mm_st, mm_F] at hs
    obtain ⟨v, e1, -, -, e4, hs⟩ := mm_la_some hs
    exact mm_mk1 (hv.push (hv.1 _ _ e1 e4)) rfl hs
  case aload i =>
    simp only [mm_st, mm_F] at hs
    obtain ⟨v, e1, -, -, e4, hs⟩ := mm_la_some hs
    exact mm_mk1 (hv.push (hv.1 _ _ e1 e4)) rfl hs
  case istore_n i =>
    simp only [mm_st, mm_F] at hs
    obtain ⟨x, r, rfl, ht⟩ := mm_t1_some hs; clear hs; have hs := ht; clear ht
    obtain ⟨-, -, hs⟩ := mm_s1_some hs
    exact mm_mk1 (hv.pop.2.set fun _ => hv.pop.1) (List.length_set ..) hs
  case istore i =>
    simp only [mm_st, mm_F] at hs
    obtain ⟨x, r, rfl, ht⟩ := mm_t1_some hs; clear hs; have hs := ht; clear ht
    obtain ⟨-, -, hs⟩ := mm_s1_some hs
    exact mm_mk1 (hv.pop.2.set fun _ => hv.pop.1) (List.length_set ..) hs
  case lstore_n i =>
    simp only [mm_st, mm_F] at hs
    obtain ⟨x, r, rfl, ht⟩ := mm_t1_some hs; clear hs; have hs := ht; clear ht
    obtain ⟨-, -, hs⟩ := mm_s2_some hs
    exact mm_mk1 ((hv.pop.2.set fun _ => hv.pop.1).set fun w => absurd rfl w) (by simp) hs
  case lstore i =>
    simp only [mm_st, mm_F] at hs
    obtain ⟨x, r, rfl, ht⟩ := mm_t1_some hs; clear hs; have hs := ht; clear ht
    obtain ⟨-, -, hs⟩ := mm_s2_some hs
    exact mm_mk1 ((hv.pop.2.set fun _ => hv.pop.1).set fun w => absurd rfl w) (by simp) hs
  case astore_n i =>
    simp only [mm_st, mm_F] at hs
    obtain ⟨v, r, rfl, -, -, ht⟩ := mm_an_some hs; clear hs; have hs := ht; clear ht
    rw [show (bif v.1 == 0 then (none : mm_S) else _) = bif !(v.1 == 0) then _ else none by cases v.1 == 0 <;> rfl] at hs
    obtain ⟨-, hs⟩ := mm_bf_some hs
    obtain ⟨-, -, hs⟩ := mm_s1_some hs
    exact mm_mk1 (hv.pop.2.set fun _ => hv.pop.1) (List.length_set ..) hs
  case astore i =>
    simp only [mm_st, mm_F] at hs
    obtain ⟨v, r, rfl, -, -, ht⟩ := mm_an_some hs; clear hs; have hs := ht; clear ht
    rw [show (bif v.1 == 0 then (none : mm_S) else _) = bif !(v.1 == 0) then _ else none by cases v.1 == 0 <;> rfl] at hs
    obtain ⟨-, hs⟩ := mm_bf_some hs
    obtain ⟨-, -, hs⟩ := mm_s1_some hs
    exact mm_mk1 (hv.pop.2.set fun _ => hv.pop.1) (List.length_set ..) hs
  case iinc i n =>
    simp only [mm_st, mm_F] at hs
    obtain ⟨x, e1, hs⟩ := mm_ld_some hs
    obtain ⟨-, -, hs⟩ := mm_s1_some hs
    exact mm_mk1 (hv.set fun _ => mm_i0 (mm_w_ok _)) (List.length_set ..) hs
  case iadd =>
    simp only [mm_st, mm_F] at hs
    obtain ⟨y, r, rfl, ht⟩ := mm_t1_some hs; clear hs; have hs := ht; clear ht
    obtain ⟨x, r, rfl, ht⟩ := mm_t1_some hs; clear hs; have hs := ht; clear ht
    exact mm_mk1 (hv.pop.2.pop.2.push (mm_i0 (mm_w_ok _))) rfl hs
  case isub =>
    simp only [mm_st, mm_F] at hs
    obtain ⟨y, r, rfl, ht⟩ := mm_t1_some hs; clear hs; have hs := ht; clear ht
    obtain ⟨x, r, rfl, ht⟩ := mm_t1_some hs; clear hs; have hs := ht; clear ht
    exact mm_mk1 (hv.pop.2.pop.2.push (mm_i0 (mm_w_ok _))) rfl hs
  case imul =>
    simp only [mm_st, mm_F] at hs
    obtain ⟨y, r, rfl, ht⟩ := mm_t1_some hs; clear hs; have hs := ht; clear ht
    obtain ⟨x, r, rfl, ht⟩ := mm_t1_some hs; clear hs; have hs := ht; clear ht
    exact mm_mk1 (hv.pop.2.pop.2.push (mm_i0 (mm_w_ok _))) rfl hs
  case idiv =>
    simp only [mm_st, mm_F] at hs
    obtain ⟨y, r, rfl, ht⟩ := mm_t1_some hs; clear hs; have hs := ht; clear ht
    obtain ⟨x, r, rfl, ht⟩ := mm_t1_some hs; clear hs; have hs := ht; clear ht
    obtain ⟨-, hs⟩ := mm_ifn_some hs
    exact mm_mk1 (hv.pop.2.pop.2.push (mm_i0 (mm_t32 _))) rfl hs
  case irem =>
    simp only [mm_st, mm_F] at hs
    obtain ⟨y, r, rfl, ht⟩ := mm_t1_some hs; clear hs; have hs := ht; clear ht
    obtain ⟨x, r, rfl, ht⟩ := mm_t1_some hs; clear hs; have hs := ht; clear ht
    obtain ⟨-, hs⟩ := mm_ifn_some hs
    exact mm_mk1 (hv.pop.2.pop.2.push (mm_i0 (mm_t32 _))) rfl hs
  case ineg =>
    simp only [mm_st, mm_F] at hs
    obtain ⟨x, r, rfl, ht⟩ := mm_t1_some hs; clear hs; have hs := ht; clear ht
    exact mm_mk1 (hv.pop.2.push (mm_i0 (mm_w_ok _))) rfl hs
  case iand =>
    simp only [mm_st, mm_F] at hs
    obtain ⟨y, r, rfl, ht⟩ := mm_t1_some hs; clear hs; have hs := ht; clear ht
    obtain ⟨x, r, rfl, ht⟩ := mm_t1_some hs; clear hs; have hs := ht; clear ht
    exact mm_mk1 (hv.pop.2.pop.2.push (mm_i0 (mm_t32 _))) rfl hs
  case ior =>
    simp only [mm_st, mm_F] at hs
    obtain ⟨y, r, rfl, ht⟩ := mm_t1_some hs; clear hs; have hs := ht; clear ht
    obtain ⟨x, r, rfl, ht⟩ := mm_t1_some hs; clear hs; have hs := ht; clear ht
    exact mm_mk1 (hv.pop.2.pop.2.push (mm_i0 (mm_t32 _))) rfl hs
  case ixor =>
    simp only [mm_st, mm_F] at hs
    obtain ⟨y, r, rfl, ht⟩ := mm_t1_some hs; clear hs; have hs := ht; clear ht
    obtain ⟨x, r, rfl, ht⟩ := mm_t1_some hs; clear hs; have hs := ht; clear ht
    exact mm_mk1 (hv.pop.2.pop.2.push (mm_i0 (mm_t32 _))) rfl hs
  case ishl =>
    simp only [mm_st, mm_F] at hs
    obtain ⟨y, r, rfl, ht⟩ := mm_t1_some hs; clear hs; have hs := ht; clear ht
    obtain ⟨x, r, rfl, ht⟩ := mm_t1_some hs; clear hs; have hs := ht; clear ht
    exact mm_mk1 (hv.pop.2.pop.2.push (mm_i0 (mm_t32 _))) rfl hs
  case ishr =>
    simp only [mm_st, mm_F] at hs
    obtain ⟨y, r, rfl, ht⟩ := mm_t1_some hs; clear hs; have hs := ht; clear ht
    obtain ⟨x, r, rfl, ht⟩ := mm_t1_some hs; clear hs; have hs := ht; clear ht
    exact mm_mk1 (hv.pop.2.pop.2.push (mm_i0 (mm_t32 _))) rfl hs
  case iushr =>
    simp only [mm_st, mm_F] at hs
    obtain ⟨y, r, rfl, ht⟩ := mm_t1_some hs; clear hs; have hs := ht; clear ht
    obtain ⟨x, r, rfl, ht⟩ := mm_t1_some hs; clear hs; have hs := ht; clear ht
    exact mm_mk1 (hv.pop.2.pop.2.push (mm_i0 (mm_t32 _))) rfl hs
  case ladd =>
    simp only [mm_st, mm_F] at hs
    obtain ⟨y, r, rfl, ht⟩ := mm_t1_some hs; clear hs; have hs := ht; clear ht
    obtain ⟨x, r, rfl, ht⟩ := mm_t1_some hs; clear hs; have hs := ht; clear ht
    exact mm_mk1 (hv.pop.2.pop.2.push (mm_i1 (mm_wl_ok _))) rfl hs
  case lsub =>
    simp only [mm_st, mm_F] at hs
    obtain ⟨y, r, rfl, ht⟩ := mm_t1_some hs; clear hs; have hs := ht; clear ht
    obtain ⟨x, r, rfl, ht⟩ := mm_t1_some hs; clear hs; have hs := ht; clear ht
    exact mm_mk1 (hv.pop.2.pop.2.push (mm_i1 (mm_wl_ok _))) rfl hs
  case lmul =>
    simp only [mm_st, mm_F] at hs
    obtain ⟨y, r, rfl, ht⟩ := mm_t1_some hs; clear hs; have hs := ht; clear ht
    obtain ⟨x, r, rfl, ht⟩ := mm_t1_some hs; clear hs; have hs := ht; clear ht
    exact mm_mk1 (hv.pop.2.pop.2.push (mm_i1 (mm_wl_ok _))) rfl hs
  case ldiv =>
    simp only [mm_st, mm_F] at hs
    obtain ⟨y, r, rfl, ht⟩ := mm_t1_some hs; clear hs; have hs := ht; clear ht
    obtain ⟨x, r, rfl, ht⟩ := mm_t1_some hs; clear hs; have hs := ht; clear ht
    obtain ⟨-, hs⟩ := mm_ifn_some hs
    exact mm_mk1 (hv.pop.2.pop.2.push (mm_i1 (mm_t64 _))) rfl hs
  case lrem =>
    simp only [mm_st, mm_F] at hs
    obtain ⟨y, r, rfl, ht⟩ := mm_t1_some hs; clear hs; have hs := ht; clear ht
    obtain ⟨x, r, rfl, ht⟩ := mm_t1_some hs; clear hs; have hs := ht; clear ht
    obtain ⟨-, hs⟩ := mm_ifn_some hs
    exact mm_mk1 (hv.pop.2.pop.2.push (mm_i1 (mm_t64 _))) rfl hs
  case lor =>
    simp only [mm_st, mm_F] at hs
    obtain ⟨y, r, rfl, ht⟩ := mm_t1_some hs; clear hs; have hs := ht; clear ht
    obtain ⟨x, r, rfl, ht⟩ := mm_t1_some hs; clear hs; have hs := ht; clear ht
    exact mm_mk1 (hv.pop.2.pop.2.push (mm_i1 (mm_t64 _))) rfl hs
  case lshl =>
    simp only [mm_st, mm_F] at hs
    obtain ⟨y, r, rfl, ht⟩ := mm_t1_some hs; clear hs; have hs := ht; clear ht
    obtain ⟨x, r, rfl, ht⟩ := mm_t1_some hs; clear hs; have hs := ht; clear ht
    exact mm_mk1 (hv.pop.2.pop.2.push (mm_i1 (mm_t64 _))) rfl hs
  case lushr =>
    simp only [mm_st, mm_F] at hs
    obtain ⟨y, r, rfl, ht⟩ := mm_t1_some hs; clear hs; have hs := ht; clear ht
    obtain ⟨x, r, rfl, ht⟩ := mm_t1_some hs; clear hs; have hs := ht; clear ht
    exact mm_mk1 (hv.pop.2.pop.2.push (mm_i1 (mm_t64 _))) rfl hs
  case lcmp =>
    simp only [mm_st, mm_F] at hs
    obtain ⟨y, r, rfl, ht⟩ := mm_t1_some hs; clear hs; have hs := ht; clear ht
    obtain ⟨x, r, rfl, ht⟩ := mm_t1_some hs; clear hs; have hs := ht; clear ht
    exact mm_mk1 (hv.pop.2.pop.2.push (mm_i0 (mm_lcmp_ok _ _))) rfl hs
  case i2l =>
    simp only [mm_st, mm_F] at hs
    obtain ⟨x, r, rfl, ht⟩ := mm_t1_some hs; clear hs; have hs := ht; clear ht
    exact mm_mk1 (hv.pop.2.push (mm_i1 (mm_ofi hv.pop.1))) rfl hs
  case l2i =>
    simp only [mm_st, mm_F] at hs
    obtain ⟨x, r, rfl, ht⟩ := mm_t1_some hs; clear hs; have hs := ht; clear ht
    exact mm_mk1 (hv.pop.2.push (mm_i0 (mm_w_ok _))) rfl hs
  case i2b =>
    simp only [mm_st, mm_F] at hs
    obtain ⟨x, r, rfl, ht⟩ := mm_t1_some hs; clear hs; have hs := ht; clear ht
    exact mm_mk1 (hv.pop.2.push (mm_i0 (mm_sm (mm_w8_ok x).1 (mm_w8_ok x).2 (by decide) (by decide)))) rfl hs
  case dup =>
    simp only [mm_st, mm_F] at hs
    obtain ⟨v, r, rfl, -, -, ht⟩ := mm_an_some hs; clear hs; have hs := ht; clear ht
    exact mm_mk1 (hv.push hv.pop.1) rfl hs
  case dup2 =>
    simp only [mm_st, mm_F] at hs
    obtain ⟨v, r, rfl, -, -, ht⟩ := mm_an_some hs; clear hs; have hs := ht; clear ht
    obtain ⟨u, r, rfl, -, -, ht⟩ := mm_an_some hs; clear hs; have hs := ht; clear ht
    exact mm_mk1 ((hv.push hv.pop.2.pop.1).push hv.pop.1) rfl hs
  case pop =>
    simp only [mm_st, mm_F] at hs
    obtain ⟨v, r, rfl, -, -, ht⟩ := mm_an_some hs; clear hs; have hs := ht; clear ht
    exact mm_mk1 hv.pop.2 rfl hs
  case goto o =>
    simp only [mm_st, mm_F] at hs
    exact mm_mk1 hv rfl hs
  case ifCond c o =>
    cases c
    all_goals
      simp only [mm_st, mm_F] at hs
      obtain ⟨x, r, rfl, ht⟩ := mm_t1_some hs; clear hs; have hs := ht; clear ht
      split at hs <;> exact mm_mk1 hv.pop.2 rfl hs
  case if_icmp c o =>
    cases c
    all_goals
      simp only [mm_st, mm_F] at hs
      obtain ⟨y, r, rfl, ht⟩ := mm_t1_some hs; clear hs; have hs := ht; clear ht
      obtain ⟨x, r, rfl, ht⟩ := mm_t1_some hs; clear hs; have hs := ht; clear ht
      split at hs <;> exact mm_mk1 hv.pop.2.pop.2 rfl hs
  case if_acmp c o =>
    cases c
    all_goals
      simp only [mm_st, mm_F] at hs
      obtain ⟨y, r, rfl, ht⟩ := mm_t1_some hs; clear hs; have hs := ht; clear ht
      obtain ⟨x, r, rfl, ht⟩ := mm_t1_some hs; clear hs; have hs := ht; clear ht
      obtain ⟨-, hs⟩ := mm_bf_some hs
      split at hs <;> exact mm_mk1 hv.pop.2.pop.2 rfl hs
  case tableswitch d lo hi os =>
    simp only [mm_st, mm_F] at hs
    obtain ⟨x, r, rfl, ht⟩ := mm_t1_some hs; clear hs; have hs := ht; clear ht
    rcases mm_sw_some hs with ⟨j, o, -, -, hs⟩ | ⟨-, hs⟩ <;> exact mm_mk1 hv.pop.2 rfl hs
  case lookupswitch d ps =>
    simp only [mm_st, mm_F] at hs
    obtain ⟨x, r, rfl, ht⟩ := mm_t1_some hs; clear hs; have hs := ht; clear ht
    exact mm_mk1 hv.pop.2 rfl (mm_lk_some hs).1
  case getstatic i =>
    simp only [mm_st, mm_F] at hs
    simp only [mm_chk] at hc
    have hm := mm_elem hc
    have : ∀ z ∈ mm_pz, z.2.2.1 = 2 ∨ z.2.2.1 = 4 ∨ z.2.2.1 = 5 := by decide
    refine mm_mk1 (hv.push ?_) rfl hs
    rcases this _ hm with e1 | e1 | e1 <;> (simp only at e1; rw [e1]; trivial)
  case getfield i =>
    simp only [mm_st, mm_F] at hs
    obtain ⟨v, r, rfl, -, -, ht⟩ := mm_an_some hs; clear hs; have hs := ht; clear ht
    obtain ⟨e1, hs⟩ := mm_bf_some hs
    have e1 : v.1 = aux.getD 0 9 := by simpa using e1
    simp only [mm_chk] at hc
    have vv := hv.pop.1
    split at hs
    · rename_i hcd
      rw [hcd] at hc
      simp only [show ((0 : Nat) == 4) = false from rfl, cond_false, Bool.and_eq_true, Bool.or_eq_true, beq_iff_eq] at hc
      obtain ⟨r0, -, -, g1, g2, -⟩ := mm_pf_ok _ (mm_elem hc.1)
      simp only at g1 g2
      exact mm_mk1 (hv.pop.2.push (mm_i0 (mm_rdi hv.2.2 (mm_ref vv (by rw [e1]; exact g1)) (by rw [e1]; exact g2) (by rw [e1]; exact hc.2)))) rfl hs
    · rename_i hcd
      rw [hcd] at hc
      simp only [show ((1 : Nat) == 4) = false from rfl, cond_false, Bool.and_eq_true, beq_iff_eq] at hc
      obtain ⟨r0, -, -, g1, g2, -⟩ := mm_pf_ok _ (mm_elem hc.1)
      simp only at g1 g2
      exact mm_mk1 (hv.pop.2.push (mm_i1 (mm_rdl hv.2.2 (mm_ref vv (by rw [e1]; exact g1)) (by rw [e1]; exact g2) (by rw [e1]; exact hc.2)))) rfl hs
    · exact mm_mk1 (hv.pop.2.push (mm_i2 _)) rfl hs
    · rename_i hcd
      rw [hcd] at hc
      simp only [show ((3 : Nat) == 4) = false from rfl, cond_false, Bool.and_eq_true, beq_iff_eq] at hc
      obtain ⟨r0, hr0, g0, g1, g2, -⟩ := mm_pf_ok _ (mm_elem hc.1)
      simp only at g0 g1 g2 hr0
      have rf := mm_ref vv (by rw [e1]; exact g1)
      have e3 := hc.2
      have hk : aux.getD 1 0 < 47 := by
        have : ∀ t, t < 12 → ∀ r : vw_C, vwCl[t]? = some r → r.2.2 ≤ 47 := by
          intro t ht r hr
          match t, ht with
          | 0, _ => cases hr; decide
          | 1, _ => cases hr; decide
          | 2, _ => cases hr; decide
          | 3, _ => cases hr; decide
          | 4, _ => cases hr; decide
          | 5, _ => cases hr; decide
          | 6, _ => cases hr; decide
          | 7, _ => cases hr; decide
          | 8, _ => cases hr; decide
          | 9, _ => cases hr; decide
          | 10, _ => cases hr; decide
          | 11, _ => cases hr; decide
        exact Nat.lt_of_lt_of_le g0 (this _ (by omega) _ hr0)
      have L := mm_lay v.2.toNat (by omega) (aux.getD 1 0) hk (by rw [rf.2.2, e1, e3]) (by rw [rf.2.2, e1]; exact g2)
      rw [rf.2.2, e1, e3] at L
      simp only at L
      have t3 : 10 ≤ aux.getD 3 9 := by
        rw [← L.2]
        exact (mm_kd_ok _ L.1).1
      refine mm_mk1 (hv.pop.2.push (mm_ref' t3 ⟨by omega, by omega, ?_⟩)) rfl hs
      rw [show (v.2 + ((aux.getD 4 0 : Nat) : Int)).toNat = v.2.toNat + aux.getD 4 0 by omega]
      exact L.2
    · obtain ⟨-, hs⟩ := mm_bf_some hs
      exact mm_mk1 (hv.pop.2.push (mm_i1 (mm_key_ok _))) rfl hs
    · cases hs
  case putfield i =>
    simp only [mm_st, mm_F] at hs
    simp only [mm_chk, Bool.and_eq_true, beq_iff_eq] at hc
    obtain ⟨r0, -, -, g1, g2, -⟩ := mm_pf_ok _ (mm_elem hc.1.1)
    simp only at g1 g2
    have hcc := hc.1.2
    split at hs
    · rename_i hcd
      obtain ⟨x, r, rfl, ht⟩ := mm_t1_some hs; clear hs; have hs := ht; clear ht
      obtain ⟨v, r, rfl, -, -, ht⟩ := mm_an_some hs; clear hs; have hs := ht; clear ht
      obtain ⟨e1, hs⟩ := mm_bf_some hs
      have e1 : v.1 = aux.getD 0 9 := by simpa using e1
      refine mm_mk1 (hv.pop.2.pop.2.heap (mm_wrf hv.2.2 (mm_ref hv.pop.2.pop.1 (by rw [e1]; exact g1)) (by rw [e1]; exact g2) (fun _ => hv.pop.1) (fun w => ?_))) rfl hs
      rw [e1, hcc, hcd] at w
      cases w
    · rename_i hcd
      obtain ⟨x, r, rfl, ht⟩ := mm_t1_some hs; clear hs; have hs := ht; clear ht
      obtain ⟨v, r, rfl, -, -, ht⟩ := mm_an_some hs; clear hs; have hs := ht; clear ht
      obtain ⟨e1, hs⟩ := mm_bf_some hs
      have e1 : v.1 = aux.getD 0 9 := by simpa using e1
      refine mm_mk1 (hv.pop.2.pop.2.heap (mm_wrf hv.2.2 (mm_ref hv.pop.2.pop.1 (by rw [e1]; exact g1)) (by rw [e1]; exact g2) (fun w => ?_) (fun _ => hv.pop.1))) rfl hs
      rw [e1, hcc, hcd] at w
      rcases w with w | w <;> cases w
    · rename_i hcd
      obtain ⟨x, r, rfl, ht⟩ := mm_t1_some hs; clear hs; have hs := ht; clear ht
      obtain ⟨v, r, rfl, -, -, ht⟩ := mm_an_some hs; clear hs; have hs := ht; clear ht
      obtain ⟨e1, hs⟩ := mm_bf_some hs
      have e1 : v.1 = aux.getD 0 9 := by simpa using e1
      refine mm_mk1 (hv.pop.2.pop.2.heap (mm_wrf hv.2.2 (mm_ref hv.pop.2.pop.1 (by rw [e1]; exact g1)) (by rw [e1]; exact g2) (fun w => ?_) (fun w => ?_))) rfl hs
      · rw [e1, hcc, hcd] at w
        rcases w with w | w <;> cases w
      · rw [e1, hcc, hcd] at w
        cases w
    · rename_i hcd
      obtain ⟨x, r, rfl, ht⟩ := mm_t1_some hs; clear hs; have hs := ht; clear ht
      obtain ⟨v, r, rfl, -, -, ht⟩ := mm_an_some hs; clear hs; have hs := ht; clear ht
      obtain ⟨e1, hs⟩ := mm_bf_some hs
      obtain ⟨-, hs⟩ := mm_if_some hs
      have e1 : v.1 = aux.getD 0 9 := by simpa using e1
      refine mm_mk1 (hv.pop.2.pop.2.heap (mm_wrf hv.2.2 (mm_ref hv.pop.2.pop.1 (by rw [e1]; exact g1)) (by rw [e1]; exact g2) (fun _ => hv.pop.1) (fun w => ?_))) rfl hs
      rw [e1, hcc, hcd] at w
      cases w
    · cases hs
  case arraylength =>
    simp only [mm_st, mm_F] at hs
    obtain ⟨x, r, rfl, ht⟩ := mm_t1_some hs; clear hs; have hs := ht; clear ht
    exact mm_mk1 (hv.pop.2.push (mm_i0 ⟨by decide, by decide⟩)) rfl hs
  case iaload =>
    simp only [mm_st, mm_F] at hs
    obtain ⟨i, r, rfl, ht⟩ := mm_t1_some hs; clear hs; have hs := ht; clear ht
    obtain ⟨v, r, rfl, -, -, ht⟩ := mm_an_some hs; clear hs; have hs := ht; clear ht
    cases e5 : v.1 == 5 with
    | true =>
      rw [e5] at hs
      obtain ⟨-, hs⟩ := mm_if_some hs
      have := mm_mos_ok i
      exact mm_mk1 (hv.pop.2.pop.2.push (mm_i0 ⟨by omega, by omega⟩)) rfl hs
    | false =>
      rw [e5] at hs
      obtain ⟨e1, hs⟩ := mm_bf_some hs
      obtain ⟨e2, hs⟩ := mm_if_some hs
      have e1 : (mm_ak v.1).1 = 0 := by simpa using e1
      have t2 := mm_ak_ge e1 (by decide)
      exact mm_mk1 (hv.pop.2.pop.2.push (mm_i0 (mm_rai hv.2.2 (mm_ref hv.pop.2.pop.1 (by omega)) t2 e2.1 (Or.inl e1)))) rfl hs
  case laload =>
    simp only [mm_st, mm_F] at hs
    obtain ⟨i, r, rfl, ht⟩ := mm_t1_some hs; clear hs; have hs := ht; clear ht
    obtain ⟨v, r, rfl, -, -, ht⟩ := mm_an_some hs; clear hs; have hs := ht; clear ht
    obtain ⟨e1, hs⟩ := mm_bf_some hs
    obtain ⟨e2, hs⟩ := mm_if_some hs
    have e1 : (mm_ak v.1).1 = 1 := by simpa using e1
    have t2 := mm_ak_ge e1 (by decide)
    exact mm_mk1 (hv.pop.2.pop.2.push (mm_i1 (mm_ral hv.2.2 (mm_ref hv.pop.2.pop.1 (by omega)) t2 e2.1 e1))) rfl hs
  case baload =>
    simp only [mm_st, mm_F] at hs
    obtain ⟨i, r, rfl, ht⟩ := mm_t1_some hs; clear hs; have hs := ht; clear ht
    obtain ⟨v, r, rfl, -, -, ht⟩ := mm_an_some hs; clear hs; have hs := ht; clear ht
    obtain ⟨e1, hs⟩ := mm_bf_some hs
    obtain ⟨e2, hs⟩ := mm_if_some hs
    have e1 : (mm_ak v.1).1 = 3 ∨ (mm_ak v.1).1 = 4 := by simpa using e1
    have t2 : ¬ v.1 < 22 := by rcases e1 with q | q <;> exact mm_ak_ge q (by decide)
    exact mm_mk1 (hv.pop.2.pop.2.push (mm_i0 (mm_rai hv.2.2 (mm_ref hv.pop.2.pop.1 (by omega)) t2 e2.1 (Or.inr e1)))) rfl hs
  case aaload =>
    simp only [mm_st, mm_F] at hs
    obtain ⟨i, r, rfl, ht⟩ := mm_t1_some hs; clear hs; have hs := ht; clear ht
    obtain ⟨v, r, rfl, -, -, ht⟩ := mm_an_some hs; clear hs; have hs := ht; clear ht
    cases e5 : v.1 == 4 with
    | true =>
      rw [e5] at hs
      obtain ⟨-, hs⟩ := mm_if_some hs
      exact mm_mk1 (hv.pop.2.pop.2.push (mm_i2 _)) rfl hs
    | false =>
      rw [e5] at hs
      obtain ⟨e2, hs⟩ := mm_if_some hs
      have ref : ∀ c, (mm_ak v.1).1 = c → c ≠ 9 → 0 ≤ v.2 ∧ v.2 < 153 ∧ mm_kd v.2.toNat = v.1 := fun c hc1 hc2 => mm_ref hv.pop.2.pop.1 (by have := mm_ak_ge hc1 hc2; omega)
      split at hs
      · exact mm_mk1 (hv.pop.2.pop.2.push (mm_i2 _)) rfl hs
      · rename_i hcd
        have rf := ref _ hcd (by decide)
        have hn : (mm_ak v.1).2 ≤ 8 := by
          have : ∀ o, o < 153 → (mm_ak (mm_kd o)).1 = 5 → (mm_ak (mm_kd o)).2 ≤ 8 := by decide +kernel
          rw [← rf.2.2]
          exact this _ (by omega) (by rw [rf.2.2]; exact hcd)
        have L := mm_lay5 v.2.toNat (by omega) i.toNat (by omega) (by rw [rf.2.2]; exact hcd)
        refine mm_mk1 (hv.pop.2.pop.2.push (mm_ref' (by decide) ⟨by omega, by omega, ?_⟩)) rfl hs
        rw [show (v.2 + 1 + 4 * i).toNat = v.2.toNat + 1 + 4 * i.toNat by omega]
        exact L.2
      · rename_i hcd
        have rf := ref _ hcd (by decide)
        have hn : (mm_ak v.1).2 ≤ 2 := by
          have : ∀ o, o < 153 → (mm_ak (mm_kd o)).1 = 6 → (mm_ak (mm_kd o)).2 ≤ 2 := by decide +kernel
          rw [← rf.2.2]
          exact this _ (by omega) (by rw [rf.2.2]; exact hcd)
        have L := mm_lay6 v.2.toNat (by omega) i.toNat (by omega) (by rw [rf.2.2]; exact hcd)
        refine mm_mk1 (hv.pop.2.pop.2.push (mm_ref' (by decide) ⟨by omega, by omega, ?_⟩)) rfl hs
        rw [show (v.2 + 62 + 19 * i).toNat = v.2.toNat + 62 + 19 * i.toNat by omega]
        exact L.2
      · rename_i hcd
        have rf := ref _ hcd (by decide)
        have hn : (mm_ak v.1).2 ≤ 6 := by
          have : ∀ o, o < 153 → (mm_ak (mm_kd o)).1 = 7 → (mm_ak (mm_kd o)).2 ≤ 6 := by decide +kernel
          rw [← rf.2.2]
          exact this _ (by omega) (by rw [rf.2.2]; exact hcd)
        have L := mm_lay7 v.2.toNat (by omega) i.toNat (by omega) (by rw [rf.2.2]; exact hcd)
        refine mm_mk1 (hv.pop.2.pop.2.push (mm_ref' (by decide) ⟨by omega, by omega, ?_⟩)) rfl hs
        rw [show (v.2 + 1 + i).toNat = v.2.toNat + 1 + i.toNat by omega]
        exact L.2
      · cases hs
  case iastore =>
    simp only [mm_st, mm_F] at hs
    obtain ⟨x, r, rfl, ht⟩ := mm_t1_some hs; clear hs; have hs := ht; clear ht
    obtain ⟨i, r, rfl, ht⟩ := mm_t1_some hs; clear hs; have hs := ht; clear ht
    obtain ⟨v, r, rfl, -, -, ht⟩ := mm_an_some hs; clear hs; have hs := ht; clear ht
    obtain ⟨e1, hs⟩ := mm_bf_some hs
    obtain ⟨e2, hs⟩ := mm_if_some hs
    have e1 : (mm_ak v.1).1 = 0 := by simpa using e1
    have t2 := mm_ak_ge e1 (by decide)
    exact mm_mk1 (hv.pop.2.pop.2.pop.2.heap (mm_wra hv.2.2 (mm_ref hv.pop.2.pop.2.pop.1 (by omega)) t2 (fun _ => hv.pop.1) (fun w => by rw [e1] at w; cases w))) rfl hs
  case lastore =>
    simp only [mm_st, mm_F] at hs
    obtain ⟨x, r, rfl, ht⟩ := mm_t1_some hs; clear hs; have hs := ht; clear ht
    obtain ⟨i, r, rfl, ht⟩ := mm_t1_some hs; clear hs; have hs := ht; clear ht
    obtain ⟨v, r, rfl, -, -, ht⟩ := mm_an_some hs; clear hs; have hs := ht; clear ht
    obtain ⟨e1, hs⟩ := mm_bf_some hs
    obtain ⟨e2, hs⟩ := mm_if_some hs
    have e1 : (mm_ak v.1).1 = 1 := by simpa using e1
    have t2 := mm_ak_ge e1 (by decide)
    exact mm_mk1 (hv.pop.2.pop.2.pop.2.heap (mm_wra hv.2.2 (mm_ref hv.pop.2.pop.2.pop.1 (by omega)) t2 (fun w => by rw [e1] at w; rcases w with w | w | w <;> cases w) (fun _ => hv.pop.1))) rfl hs
  case aastore =>
    simp only [mm_st, mm_F] at hs
    obtain ⟨x, r, rfl, ht⟩ := mm_t1_some hs; clear hs; have hs := ht; clear ht
    obtain ⟨i, r, rfl, ht⟩ := mm_t1_some hs; clear hs; have hs := ht; clear ht
    obtain ⟨v, r, rfl, -, -, ht⟩ := mm_an_some hs; clear hs; have hs := ht; clear ht
    obtain ⟨e1, hs⟩ := mm_bf_some hs
    obtain ⟨e2, hs⟩ := mm_if_some hs
    have e1 : (mm_ak v.1).1 = 2 := by simpa using e1
    have t2 := mm_ak_ge e1 (by decide)
    exact mm_mk1 (hv.pop.2.pop.2.pop.2.heap (mm_wra hv.2.2 (mm_ref hv.pop.2.pop.2.pop.1 (by omega)) t2 (fun w => by rw [e1] at w; rcases w with w | w | w <;> cases w) (fun w => by rw [e1] at w; cases w))) rfl hs
  case bastore =>
    simp only [mm_st, mm_F] at hs
    obtain ⟨x, r, rfl, ht⟩ := mm_t1_some hs; clear hs; have hs := ht; clear ht
    obtain ⟨i, r, rfl, ht⟩ := mm_t1_some hs; clear hs; have hs := ht; clear ht
    obtain ⟨v, r, rfl, -, -, ht⟩ := mm_an_some hs; clear hs; have hs := ht; clear ht
    cases e3 : (mm_ak v.1).1 == 3 with
    | true =>
      rw [e3] at hs
      obtain ⟨e2, hs⟩ := mm_if_some hs
      have e1 : (mm_ak v.1).1 = 3 := by simpa using e3
      have t2 := mm_ak_ge e1 (by decide)
      exact mm_mk1 (hv.pop.2.pop.2.pop.2.heap (mm_wra hv.2.2 (mm_ref hv.pop.2.pop.2.pop.1 (by omega)) t2 (fun _ => mm_sm (mm_w8_ok x).1 (mm_w8_ok x).2 (by decide) (by decide)) (fun w => by rw [e1] at w; cases w))) rfl hs
    | false =>
      rw [e3] at hs
      obtain ⟨e1, hs⟩ := mm_bf_some hs
      obtain ⟨e2, hs⟩ := mm_if_some hs
      obtain ⟨-, hs⟩ := mm_if_some hs
      have e1 : (mm_ak v.1).1 = 4 := by simpa using e1
      have t2 := mm_ak_ge e1 (by decide)
      exact mm_mk1 (hv.pop.2.pop.2.pop.2.heap (mm_wra hv.2.2 (mm_ref hv.pop.2.pop.2.pop.1 (by omega)) t2 (fun _ => hv.pop.1) (fun w => by rw [e1] at w; cases w))) rfl hs
  case invokevirtual i =>
    simp only [mm_st, mm_F] at hs
    simp only [mm_chk] at hc
    split at hs
    · rename_i hcd
      rw [hcd] at hc
      simp only [Bool.and_eq_true, beq_iff_eq] at hc
      obtain ⟨e1, hs⟩ := mm_bf_some hs
      cases hs
      refine ⟨(mm_pm_ok _ (mm_elem hc.1.1.1)).1, fun v hm => hv.2.1 v ?_, hc.1.2, ⟨hv.1, fun v hm => hv.2.1 v (List.mem_of_mem_drop hm), hv.2.2⟩, rfl⟩
      exact List.mem_of_mem_take (List.mem_reverse.mp hm)
    · obtain ⟨x, r, rfl, ht⟩ := mm_t1_some hs; clear hs; have hs := ht; clear ht
      obtain ⟨-, hs⟩ := mm_ck_some hs
      have := mm_txt_len x
      exact mm_mk1 (hv.pop.2.push (mm_i0 ⟨by omega, by omega⟩)) rfl hs
    · obtain ⟨i, r, rfl, ht⟩ := mm_t1_some hs; clear hs; have hs := ht; clear ht
      obtain ⟨x, r, rfl, ht⟩ := mm_t1_some hs; clear hs; have hs := ht; clear ht
      obtain ⟨-, hs⟩ := mm_ck_some hs
      obtain ⟨e2, hs⟩ := mm_if_some hs
      refine mm_mk1 (hv.pop.2.pop.2.push (mm_i0 ?_)) rfl hs
      rw [List.getD_eq_getElem?_getD]
      cases ee : (mm_txt x)[i.toNat]? with
      | none => exact ⟨by decide, by decide⟩
      | some w =>
        have := mm_txt_ok x w (List.mem_of_getElem? ee)
        exact ⟨by simp only [Option.getD_some]; omega, by simp only [Option.getD_some]; omega⟩
    · cases hs
  case invokestatic i =>
    simp only [mm_st, mm_F] at hs
    simp only [mm_chk] at hc
    split at hs
    · rename_i hcd
      rw [hcd] at hc
      simp only [Bool.and_eq_true, Bool.or_eq_true, beq_iff_eq] at hc
      obtain ⟨e1, hs⟩ := mm_bf_some hs
      cases hs
      refine ⟨?_, fun v hm => hv.2.1 v ?_, hc.2, ⟨hv.1, fun v hm => hv.2.1 v (List.mem_of_mem_drop hm), hv.2.2⟩, rfl⟩
      · rcases hc.1.1 with w | w <;> exact (mm_pm_ok _ (mm_elem w)).1
      · exact List.mem_of_mem_take (List.mem_reverse.mp hm)
    · obtain ⟨y, r, rfl, ht⟩ := mm_t1_some hs; clear hs; have hs := ht; clear ht
      obtain ⟨x, r, rfl, ht⟩ := mm_t1_some hs; clear hs; have hs := ht; clear ht
      obtain ⟨-, hs⟩ := mm_ck_some hs
      have a : mm_i32 y := hv.pop.1
      have b : mm_i32 x := hv.pop.2.pop.1
      unfold mm_i32 at a b
      exact mm_mk1 (hv.pop.2.pop.2.push (mm_i0 ⟨by omega, by omega⟩)) rfl hs
    · obtain ⟨y, r, rfl, ht⟩ := mm_t1_some hs; clear hs; have hs := ht; clear ht
      obtain ⟨x, r, rfl, ht⟩ := mm_t1_some hs; clear hs; have hs := ht; clear ht
      obtain ⟨-, hs⟩ := mm_ck_some hs
      have a : mm_i32 y := hv.pop.1
      have b : mm_i32 x := hv.pop.2.pop.1
      unfold mm_i32 at a b
      exact mm_mk1 (hv.pop.2.pop.2.push (mm_i0 ⟨by omega, by omega⟩)) rfl hs
    · obtain ⟨x, r, rfl, ht⟩ := mm_t1_some hs; clear hs; have hs := ht; clear ht
      obtain ⟨-, hs⟩ := mm_ck_some hs
      exact mm_mk1 (hv.pop.2.push (mm_i0 (mm_w_ok _))) rfl hs
    · obtain ⟨n, r, rfl, ht⟩ := mm_t1_some hs; clear hs; have hs := ht; clear ht
      obtain ⟨j, r, rfl, ht⟩ := mm_t1_some hs; clear hs; have hs := ht; clear ht
      obtain ⟨b, r, rfl, -, -, ht⟩ := mm_an_some hs; clear hs; have hs := ht; clear ht
      obtain ⟨i, r, rfl, ht⟩ := mm_t1_some hs; clear hs; have hs := ht; clear ht
      obtain ⟨a, r, rfl, -, -, ht⟩ := mm_an_some hs; clear hs; have hs := ht; clear ht
      obtain ⟨-, hs⟩ := mm_ck_some hs
      obtain ⟨e1, hs⟩ := mm_bf_some hs
      simp only [Bool.and_eq_true, Bool.or_eq_true, beq_iff_eq, decide_eq_true_eq] at e1
      obtain ⟨⟨e1, e2⟩, e3, e4, e5, e6, e7⟩ := e1
      have ta : ¬ a.1 < 22 := by rcases e1 with q | q <;> exact mm_ak_ge q (by decide)
      have tb : ¬ b.1 < 22 := by rcases e1 with q | q <;> exact mm_ak_ge (e2.trans q) (by decide)
      have hb := hv.pop.2.pop.2.pop.1
      have ha := hv.pop.2.pop.2.pop.2.pop.2.pop.1
      exact mm_mk1 (hv.pop.2.pop.2.pop.2.pop.2.pop.2.heap (mm_wrc hv.2.2 (mm_ref ha (by omega)) (mm_ref hb (by omega)) e1 e2 e3)) rfl hs
    · cases hs
  case ireturn =>
    simp only [mm_st, mm_F] at hs
    obtain ⟨x, r, rfl, ht⟩ := mm_t1_some hs; clear hs; have hs := ht; clear ht
    obtain ⟨-, hs⟩ := mm_nl_some hs
    have hro : mm_ro (mm_rt q) (x, h) := by
      refine ⟨fun _ => ?_, hv.2.2⟩
      have : mm_rt q = 0 := by
        simp only [mm_chk] at hc
        unfold mm_rt
        split at hc
        · simp_all
        · simp_all
        · cases hc
      rw [this]
      exact hv.pop.1
    cases e5 : aux.headD 0 == 5 with
    | true =>
      rw [e5] at hs
      obtain ⟨-, hs⟩ := mm_if_some hs
      exact mm_mk0 hro hs
    | false =>
      rw [e5] at hs
      exact mm_mk0 hro hs
  case lreturn =>
    simp only [mm_st, mm_F] at hs
    obtain ⟨x, r, rfl, ht⟩ := mm_t1_some hs; clear hs; have hs := ht; clear ht
    obtain ⟨-, hs⟩ := mm_nl_some hs
    have e : mm_rt q = 1 := by simpa [mm_chk] using hc
    exact mm_mk0 ⟨fun _ => by rw [e]; exact hv.pop.1, hv.2.2⟩ hs
  case areturn =>
    simp only [mm_st, mm_F] at hs
    obtain ⟨x, r, rfl, ht⟩ := mm_t1_some hs; clear hs; have hs := ht; clear ht
    obtain ⟨-, hs⟩ := mm_nl_some hs
    have e : mm_r q = some (.object "HiccupTown$Word") := by simpa [mm_chk] using hc
    have e : mm_rt q = 2 := by unfold mm_rt; rw [e]
    exact mm_mk0 ⟨fun _ => by rw [e]; exact hv.pop.1, hv.2.2⟩ hs
  case return_ =>
    simp only [mm_st, mm_F] at hs
    obtain ⟨-, hs⟩ := mm_nl_some hs
    have e : mm_rt q = 8 := by simpa [mm_chk] using hc
    exact mm_mk0 ⟨fun w => absurd e w, hv.2.2⟩ hs
  all_goals (simp only [mm_st, mm_F] at hs; cases hs)
end
section
/-! A step of the small machine is a step of the machine: numbers, locals, branches -/
theorem mm_toI {x : Int} (h : mm_i32 x) : (Int32.ofInt x).toInt = x := Int32.toInt_ofInt_of_le h.1 h.2
theorem mm_toL {x : Int} (h : mm_i64 x) : (Int64.ofInt x).toInt = x := Int64.toInt_ofInt_of_le h.1 h.2
theorem mm_ofw (x : Int) : Int32.ofInt (mm_w x) = Int32.ofInt x := by
  apply Int32.toInt_inj.mp
  rw [Int32.toInt_ofInt, Int32.toInt_ofInt]
  unfold mm_w
  simp [Int.bmod_bmod]
theorem mm_ofwl (x : Int) : Int64.ofInt (mm_wl x) = Int64.ofInt x := by
  apply Int64.toInt_inj.mp
  rw [Int64.toInt_ofInt, Int64.toInt_ofInt]
  unfold mm_wl
  simp [Int.bmod_bmod]
theorem mm_lt {x y : Int} (hx : mm_i32 x) (hy : mm_i32 y) : Int32.ofInt x < Int32.ofInt y ↔ x < y := by
  rw [Int32.lt_iff_toInt_lt, mm_toI hx, mm_toI hy]
theorem mm_le {x y : Int} (hx : mm_i32 x) (hy : mm_i32 y) : Int32.ofInt x ≤ Int32.ofInt y ↔ x ≤ y := by
  rw [Int32.le_iff_toInt_le, mm_toI hx, mm_toI hy]
theorem mm_eq {x y : Int} (hx : mm_i32 x) (hy : mm_i32 y) : Int32.ofInt x = Int32.ofInt y ↔ x = y := by
  constructor
  · intro q
    have := congrArg Int32.toInt q
    rw [mm_toI hx, mm_toI hy] at this
    exact this
  · rintro rfl
    rfl
theorem mm_ltL {x y : Int} (hx : mm_i64 x) (hy : mm_i64 y) : Int64.ofInt x < Int64.ofInt y ↔ x < y := by
  rw [Int64.lt_iff_toInt_lt, mm_toL hx, mm_toL hy]
theorem mm_eqL {x y : Int} (hx : mm_i64 x) (hy : mm_i64 y) : Int64.ofInt x = Int64.ofInt y ↔ x = y := by
  constructor
  · intro q
    have := congrArg Int64.toInt q
    rw [mm_toL hx, mm_toL hy] at this
    exact this
  · rintro rfl
    rfl
theorem mm_z0 : mm_i32 0 := ⟨by decide, by decide⟩
theorem mm_of0 : (Int32.ofInt 0) = 0 := rfl
theorem mm_byte {n : Int} (h1 : -128 ≤ n) (h2 : n < 128) : (Int8.ofInt n).toInt32 = Int32.ofInt n := by
  apply Int32.toInt_inj.mp
  rw [Int8.toInt_toInt32, Int8.toInt_ofInt_of_le h1 h2, mm_toI ⟨by omega, by omega⟩]
theorem mm_short {n : Int} (h1 : -32768 ≤ n) (h2 : n < 32768) : (Int16.ofInt n).toInt32 = Int32.ofInt n := by
  apply Int32.toInt_inj.mp
  rw [Int16.toInt_toInt32, Int16.toInt_ofInt_of_le h1 h2, mm_toI ⟨by omega, by omega⟩]
theorem mm_tgt {pc : Nat} {o : Int} (h : 0 ≤ (pc : Int) + o) : (pc : Int) + o = (mm_tg pc o : Int) := by
  unfold mm_tg
  omega
/-- what the activation of a method q rests on -/
def mm_cx (p : Program) (s : State) (m : MethodId) (args : Array Value) (meth : Method) (c : Code) (g : Nat → Nat → Nat) (D : va_G) (cy : Nat → ClassId) (q : Nat) : Prop :=
  p.tables.exec = Jvm.exec ∧ c.code = mm_b q ∧ c.maxLocals = (mm_prog q).2 ∧ meth.sig.returnType = mm_r q ∧ meth.locks = false ∧ s.vm.findClass (mm_xn (mm_xq q)) = some m.cls ∧ (∀ w ∈ mm_TW, w.before args s = true) ∧ va_K D vwCl (mm_tys cy) s ∧ mm_Z g (mm_A g) s s.heap ∧ mm_nw s ∧ mm_inj g
def mm_G (p : Program) (l : Launch) (e : Env) (d : Nat) (s : State) (m : MethodId) (args : Array Value) (below : List Frame) (meth : Method) (c : Code) (g : Nat → Nat → Nat) (D : va_G) (cy : Nat → ClassId) (Q : State → Prop) (pc : Nat) (ls st : List mm_V) (h : mm_H) : Prop :=
  ∀ (H : Heap) (locs : List Loc) (L : Array Slot), va_P D vwCl (mm_ws g cy h) H → va_S (mm_A g) s.heap H locs → mm_lr g ls L → W p l e (mm_rm d) s m args below meth c H locs 0 0 Q (F0 m pc L (st.map (mm_val g)))
theorem mm_vref {g : Nat → Nat → Nat} {v : mm_V} (h0 : v.1 ≠ 0) (h1 : v.1 ≠ 1) : (∃ a, mm_val g v = .ref a) ∨ mm_val g v = .null := by
  obtain ⟨t, x⟩ := v
  unfold mm_val
  split
  · exact absurd ‹_› h0
  · exact absurd ‹_› h1
  · unfold va_rf
    split
    · exact Or.inr rfl
    · exact Or.inl ⟨_, rfl⟩
  all_goals exact Or.inl ⟨_, rfl⟩
section MS
variable {p : Program} {l : Launch} {e : Env} {d : Nat} {s : State} {m : MethodId} {args : Array Value} {below : List Frame} {meth : Method} {c : Code} {g : Nat → Nat → Nat} {D : va_G} {cy : Nat → ClassId} {Q : State → Prop} {q pc len : Nat} {ls st : List mm_V} {h : mm_H} {aux : List Nat} {val : Int}
variable {s' : Nat × List mm_V × List mm_V × mm_H}
theorem mm_sd_iconst (X : mm_cx p s m args meth c g D cy q) {n : Int} (hd : decode (mm_b q) pc = .ok (.iconst n, len)) (h2 : mm_ck2 (pc, .iconst n, len, aux, val) = true) (hv : mm_vl ls st h) (hs : mm_st (pc, .iconst n, len, aux, val) ls st h = some (.inr (.inl s'))) (K : mm_G p l e d s m args below meth c g D cy Q s'.1 s'.2.1 s'.2.2.1 s'.2.2.2) : mm_G p l e d s m args below meth c g D cy Q pc ls st h := by
  simp only [mm_st, mm_F] at hs
  obtain ⟨hx, hb, -⟩ := X
  intro H locs L hP hS hL
  simp only [mm_ck2, Bool.and_eq_true, beq_iff_eq, decide_eq_true_eq] at h2
  obtain ⟨rfl, hn⟩ := h2
  cases hs
  exact lv_iconst hx hb hd rfl (K H locs L hP hS hL)
theorem mm_sd_bipush (X : mm_cx p s m args meth c g D cy q) {n : Int} (hd : decode (mm_b q) pc = .ok (.bipush n, len)) (h2 : mm_ck2 (pc, .bipush n, len, aux, val) = true) (hv : mm_vl ls st h) (hs : mm_st (pc, .bipush n, len, aux, val) ls st h = some (.inr (.inl s'))) (K : mm_G p l e d s m args below meth c g D cy Q s'.1 s'.2.1 s'.2.2.1 s'.2.2.2) : mm_G p l e d s m args below meth c g D cy Q pc ls st h := by
  simp only [mm_st, mm_F] at hs
  obtain ⟨hx, hb, -⟩ := X
  intro H locs L hP hS hL
  simp only [mm_ck2, Bool.and_eq_true, beq_iff_eq, decide_eq_true_eq] at h2
  obtain ⟨rfl, hn⟩ := h2
  cases hs
  exact lv_bipush hx hb hd (mm_byte hn.1 hn.2) (K H locs L hP hS hL)
theorem mm_sd_sipush (X : mm_cx p s m args meth c g D cy q) {n : Int} (hd : decode (mm_b q) pc = .ok (.sipush n, len)) (h2 : mm_ck2 (pc, .sipush n, len, aux, val) = true) (hv : mm_vl ls st h) (hs : mm_st (pc, .sipush n, len, aux, val) ls st h = some (.inr (.inl s'))) (K : mm_G p l e d s m args below meth c g D cy Q s'.1 s'.2.1 s'.2.2.1 s'.2.2.2) : mm_G p l e d s m args below meth c g D cy Q pc ls st h := by
  simp only [mm_st, mm_F] at hs
  obtain ⟨hx, hb, -⟩ := X
  intro H locs L hP hS hL
  simp only [mm_ck2, Bool.and_eq_true, beq_iff_eq, decide_eq_true_eq] at h2
  obtain ⟨rfl, hn⟩ := h2
  cases hs
  exact lv_sipush hx hb hd (mm_short hn.1 hn.2) (K H locs L hP hS hL)
theorem mm_sd_lconst (X : mm_cx p s m args meth c g D cy q) {n : Fin 2} (hd : decode (mm_b q) pc = .ok (.lconst n, len)) (h2 : mm_ck2 (pc, .lconst n, len, aux, val) = true) (hv : mm_vl ls st h) (hs : mm_st (pc, .lconst n, len, aux, val) ls st h = some (.inr (.inl s'))) (K : mm_G p l e d s m args below meth c g D cy Q s'.1 s'.2.1 s'.2.2.1 s'.2.2.2) : mm_G p l e d s m args below meth c g D cy Q pc ls st h := by
  simp only [mm_st, mm_F] at hs
  obtain ⟨hx, hb, -⟩ := X
  intro H locs L hP hS hL
  have e0 : len = 1 := by simpa [mm_ck2, mm_ln] using h2
  subst e0
  cases hs
  refine lv_lconst hx hb hd (v := Int64.ofInt ((n : Nat) : Int)) ?_ (K H locs L hP hS hL)
  rfl
theorem mm_sd_iload_n (X : mm_cx p s m args meth c g D cy q) {i : Fin 4} (hd : decode (mm_b q) pc = .ok (.iload_n i, len)) (h2 : mm_ck2 (pc, .iload_n i, len, aux, val) = true) (hv : mm_vl ls st h) (hs : mm_st (pc, .iload_n i, len, aux, val) ls st h = some (.inr (.inl s'))) (K : mm_G p l e d s m args below meth c g D cy Q s'.1 s'.2.1 s'.2.2.1 s'.2.2.2) : mm_G p l e d s m args below meth c g D cy Q pc ls st h := by
  simp only [mm_st, mm_F] at hs
  obtain ⟨hx, hb, -⟩ := X
  intro H locs L hP hS hL
  have e0 : len = 1 := by simpa [mm_ck2, mm_ln] using h2
  subst e0
  obtain ⟨x, e1, hs⟩ := mm_ld_some hs
  cases hs
  exact lv_iload_n hx hb hd rfl (hL.2.2 _ _ e1 (by simp)).2 (K H locs L hP hS hL)
theorem mm_sd_iload (X : mm_cx p s m args meth c g D cy q) {i : Nat} (hd : decode (mm_b q) pc = .ok (.iload i, len)) (h2 : mm_ck2 (pc, .iload i, len, aux, val) = true) (hv : mm_vl ls st h) (hs : mm_st (pc, .iload i, len, aux, val) ls st h = some (.inr (.inl s'))) (K : mm_G p l e d s m args below meth c g D cy Q s'.1 s'.2.1 s'.2.2.1 s'.2.2.2) : mm_G p l e d s m args below meth c g D cy Q pc ls st h := by
  simp only [mm_st, mm_F] at hs
  obtain ⟨hx, hb, -⟩ := X
  intro H locs L hP hS hL
  have e0 : len = 2 := by simpa [mm_ck2, mm_ln] using h2
  subst e0
  obtain ⟨x, e1, hs⟩ := mm_ld_some hs
  cases hs
  exact lv_iload hx hb hd (hL.2.2 _ _ e1 (by simp)).2 (K H locs L hP hS hL)
theorem mm_sd_lload_n (X : mm_cx p s m args meth c g D cy q) {i : Fin 4} (hd : decode (mm_b q) pc = .ok (.lload_n i, len)) (h2 : mm_ck2 (pc, .lload_n i, len, aux, val) = true) (hv : mm_vl ls st h) (hs : mm_st (pc, .lload_n i, len, aux, val) ls st h = some (.inr (.inl s'))) (K : mm_G p l e d s m args below meth c g D cy Q s'.1 s'.2.1 s'.2.2.1 s'.2.2.2) : mm_G p l e d s m args below meth c g D cy Q pc ls st h := by
  simp only [mm_st, mm_F] at hs
  obtain ⟨hx, hb, -⟩ := X
  intro H locs L hP hS hL
  have e0 : len = 1 := by simpa [mm_ck2, mm_ln] using h2
  subst e0
  obtain ⟨x, e1, hs⟩ := mm_ld_some hs
  cases hs
  exact lv_lload_n hx hb hd rfl (hL.2.2 _ _ e1 (by simp)).2 (K H locs L hP hS hL)
theorem mm_sd_lload (X : mm_cx p s m args meth c g D cy q) {i : Nat} (hd : decode (mm_b q) pc = .ok (.lload i, len)) (h2 : mm_ck2 (pc, .lload i, len, aux, val) = true) (hv : mm_vl ls st h) (hs : mm_st (pc, .lload i, len, aux, val) ls st h = some (.inr (.inl s'))) (K : mm_G p l e d s m args below meth c g D cy Q s'.1 s'.2.1 s'.2.2.1 s'.2.2.2) : mm_G p l e d s m args below meth c g D cy Q pc ls st h := by
  simp only [mm_st, mm_F] at hs
  obtain ⟨hx, hb, -⟩ := X
  intro H locs L hP hS hL
  have e0 : len = 2 := by simpa [mm_ck2, mm_ln] using h2
  subst e0
  obtain ⟨x, e1, hs⟩ := mm_ld_some hs
  cases hs
  exact lv_lload hx hb hd (hL.2.2 _ _ e1 (by simp)).2 (K H locs L hP hS hL)
theorem mm_sd_aload_n (X : mm_cx p s m args meth c g D cy q) {i : Fin 4} (hd : decode (mm_b q) pc = .ok (.aload_n i, len)) (h2 : mm_ck2 (pc, .aload_n i, len, aux, val) = true) (hv : mm_vl ls st h) (hs : mm_st (pc, .aload_n i, len, aux, val) ls st h = some (.inr (.inl s'))) (K : mm_G p l e d s m args below meth c g D cy Q s'.1 s'.2.1 s'.2.2.1 s'.2.2.2) : mm_G p l e d s m args below meth c g D cy Q pc ls st h := by
  simp only [mm_st, mm_F] at hs
  obtain ⟨hx, hb, -⟩ := X
  intro H locs L hP hS hL
  have e0 : len = 1 := by simpa [mm_ck2, mm_ln] using h2
  subst e0
  obtain ⟨v, e1, n0, n1, n9, hs⟩ := mm_la_some hs
  cases hs
  have k := K H locs L hP hS hL
  have r := (hL.2.2 _ _ e1 n9).2
  simp only [List.map_cons] at k
  rcases mm_vref (g := g) n0 n1 with ⟨a, ea⟩ | ea
  · rw [ea] at k r
    exact lv_aload_n hx hb hd rfl r k
  · rw [ea] at k r
    exact lv_aload_nN hx hb hd rfl r k
theorem mm_sd_aload (X : mm_cx p s m args meth c g D cy q) {i : Nat} (hd : decode (mm_b q) pc = .ok (.aload i, len)) (h2 : mm_ck2 (pc, .aload i, len, aux, val) = true) (hv : mm_vl ls st h) (hs : mm_st (pc, .aload i, len, aux, val) ls st h = some (.inr (.inl s'))) (K : mm_G p l e d s m args below meth c g D cy Q s'.1 s'.2.1 s'.2.2.1 s'.2.2.2) : mm_G p l e d s m args below meth c g D cy Q pc ls st h := by
  simp only [mm_st, mm_F] at hs
  obtain ⟨hx, hb, -⟩ := X
  intro H locs L hP hS hL
  have e0 : len = 2 := by simpa [mm_ck2, mm_ln] using h2
  subst e0
  obtain ⟨v, e1, n0, n1, n9, hs⟩ := mm_la_some hs
  cases hs
  have k := K H locs L hP hS hL
  have r := (hL.2.2 _ _ e1 n9).2
  simp only [List.map_cons] at k
  rcases mm_vref (g := g) n0 n1 with ⟨a, ea⟩ | ea
  · rw [ea] at k r
    exact lv_aload hx hb hd r k
  · rw [ea] at k r
    exact lv_aloadN hx hb hd r k
theorem mm_sd_istore_n (X : mm_cx p s m args meth c g D cy q) {i : Fin 4} (hd : decode (mm_b q) pc = .ok (.istore_n i, len)) (h2 : mm_ck2 (pc, .istore_n i, len, aux, val) = true) (hv : mm_vl ls st h) (hs : mm_st (pc, .istore_n i, len, aux, val) ls st h = some (.inr (.inl s'))) (K : mm_G p l e d s m args below meth c g D cy Q s'.1 s'.2.1 s'.2.2.1 s'.2.2.2) : mm_G p l e d s m args below meth c g D cy Q pc ls st h := by
  simp only [mm_st, mm_F] at hs
  obtain ⟨hx, hb, -⟩ := X
  intro H locs L hP hS hL
  have e0 : len = 1 := by simpa [mm_ck2, mm_ln] using h2
  subst e0
  obtain ⟨x, r, rfl, ht⟩ := mm_t1_some hs; clear hs; have hs := ht; clear ht
  obtain ⟨b1, b2, hs⟩ := mm_s1_some hs
  cases hs
  exact lv_istore_n hx hb hd rfl (mm_lr_has hL) b1 rfl (fun L' hl => K H locs L' hP hS (mm_lr_set hL hv.pop.1 b2 hl))
theorem mm_sd_istore (X : mm_cx p s m args meth c g D cy q) {i : Nat} (hd : decode (mm_b q) pc = .ok (.istore i, len)) (h2 : mm_ck2 (pc, .istore i, len, aux, val) = true) (hv : mm_vl ls st h) (hs : mm_st (pc, .istore i, len, aux, val) ls st h = some (.inr (.inl s'))) (K : mm_G p l e d s m args below meth c g D cy Q s'.1 s'.2.1 s'.2.2.1 s'.2.2.2) : mm_G p l e d s m args below meth c g D cy Q pc ls st h := by
  simp only [mm_st, mm_F] at hs
  obtain ⟨hx, hb, -⟩ := X
  intro H locs L hP hS hL
  have e0 : len = 2 := by simpa [mm_ck2, mm_ln] using h2
  subst e0
  obtain ⟨x, r, rfl, ht⟩ := mm_t1_some hs; clear hs; have hs := ht; clear ht
  obtain ⟨b1, b2, hs⟩ := mm_s1_some hs
  cases hs
  exact lv_istore hx hb hd (mm_lr_has hL) b1 rfl (fun L' hl => K H locs L' hP hS (mm_lr_set hL hv.pop.1 b2 hl))
theorem mm_sd_lstore_n (X : mm_cx p s m args meth c g D cy q) {i : Fin 4} (hd : decode (mm_b q) pc = .ok (.lstore_n i, len)) (h2 : mm_ck2 (pc, .lstore_n i, len, aux, val) = true) (hv : mm_vl ls st h) (hs : mm_st (pc, .lstore_n i, len, aux, val) ls st h = some (.inr (.inl s'))) (K : mm_G p l e d s m args below meth c g D cy Q s'.1 s'.2.1 s'.2.2.1 s'.2.2.2) : mm_G p l e d s m args below meth c g D cy Q pc ls st h := by
  simp only [mm_st, mm_F] at hs
  obtain ⟨hx, hb, -⟩ := X
  intro H locs L hP hS hL
  have e0 : len = 1 := by simpa [mm_ck2, mm_ln] using h2
  subst e0
  obtain ⟨x, r, rfl, ht⟩ := mm_t1_some hs; clear hs; have hs := ht; clear ht
  obtain ⟨b1, b2, hs⟩ := mm_s2_some hs
  cases hs
  exact lv_lstore_n hx hb hd rfl (mm_lr_has hL) b1 rfl (fun L' hl => K H locs L' hP hS (mm_lr_set2 hL hv.pop.1 b2 b1 hl))
theorem mm_sd_lstore (X : mm_cx p s m args meth c g D cy q) {i : Nat} (hd : decode (mm_b q) pc = .ok (.lstore i, len)) (h2 : mm_ck2 (pc, .lstore i, len, aux, val) = true) (hv : mm_vl ls st h) (hs : mm_st (pc, .lstore i, len, aux, val) ls st h = some (.inr (.inl s'))) (K : mm_G p l e d s m args below meth c g D cy Q s'.1 s'.2.1 s'.2.2.1 s'.2.2.2) : mm_G p l e d s m args below meth c g D cy Q pc ls st h := by
  simp only [mm_st, mm_F] at hs
  obtain ⟨hx, hb, -⟩ := X
  intro H locs L hP hS hL
  have e0 : len = 2 := by simpa [mm_ck2, mm_ln] using h2
  subst e0
  obtain ⟨x, r, rfl, ht⟩ := mm_t1_some hs; clear hs; have hs := ht; clear ht
  obtain ⟨b1, b2, hs⟩ := mm_s2_some hs
  cases hs
  exact lv_lstore hx hb hd (mm_lr_has hL) b1 rfl (fun L' hl => K H locs L' hP hS (mm_lr_set2 hL hv.pop.1 b2 b1 hl))
theorem mm_sd_astore_n (X : mm_cx p s m args meth c g D cy q) {i : Fin 4} (hd : decode (mm_b q) pc = .ok (.astore_n i, len)) (h2 : mm_ck2 (pc, .astore_n i, len, aux, val) = true) (hv : mm_vl ls st h) (hs : mm_st (pc, .astore_n i, len, aux, val) ls st h = some (.inr (.inl s'))) (K : mm_G p l e d s m args below meth c g D cy Q s'.1 s'.2.1 s'.2.2.1 s'.2.2.2) : mm_G p l e d s m args below meth c g D cy Q pc ls st h := by
  simp only [mm_st, mm_F] at hs
  obtain ⟨hx, hb, -⟩ := X
  intro H locs L hP hS hL
  have e0 : len = 1 := by simpa [mm_ck2, mm_ln] using h2
  subst e0
  obtain ⟨v, r, rfl, n1, n9, ht⟩ := mm_an_some hs; clear hs; have hs := ht; clear ht
  rw [show (bif v.1 == 0 then (none : mm_S) else _) = bif !(v.1 == 0) then _ else none by cases v.1 == 0 <;> rfl] at hs
  obtain ⟨n0, hs⟩ := mm_bf_some hs
  have n0 : v.1 ≠ 0 := by simpa using n0
  obtain ⟨b1, b2, hs⟩ := mm_s1_some hs
  cases hs
  simp only [List.map_cons]
  rcases mm_vref (g := g) n0 n1 with ⟨a, ea⟩ | ea
  · rw [ea]
    exact lv_astore_n hx hb hd rfl (mm_lr_has hL) b1 rfl (fun L' hl => K H locs L' hP hS (mm_lr_set hL hv.pop.1 b2 (by rw [ea]; exact hl)))
  · rw [ea]
    exact lv_astore_nN hx hb hd rfl (mm_lr_has hL) b1 rfl (fun L' hl => K H locs L' hP hS (mm_lr_set hL hv.pop.1 b2 (by rw [ea]; exact hl)))
theorem mm_sd_astore (X : mm_cx p s m args meth c g D cy q) {i : Nat} (hd : decode (mm_b q) pc = .ok (.astore i, len)) (h2 : mm_ck2 (pc, .astore i, len, aux, val) = true) (hv : mm_vl ls st h) (hs : mm_st (pc, .astore i, len, aux, val) ls st h = some (.inr (.inl s'))) (K : mm_G p l e d s m args below meth c g D cy Q s'.1 s'.2.1 s'.2.2.1 s'.2.2.2) : mm_G p l e d s m args below meth c g D cy Q pc ls st h := by
  simp only [mm_st, mm_F] at hs
  obtain ⟨hx, hb, -⟩ := X
  intro H locs L hP hS hL
  have e0 : len = 2 := by simpa [mm_ck2, mm_ln] using h2
  subst e0
  obtain ⟨v, r, rfl, n1, n9, ht⟩ := mm_an_some hs; clear hs; have hs := ht; clear ht
  rw [show (bif v.1 == 0 then (none : mm_S) else _) = bif !(v.1 == 0) then _ else none by cases v.1 == 0 <;> rfl] at hs
  obtain ⟨n0, hs⟩ := mm_bf_some hs
  have n0 : v.1 ≠ 0 := by simpa using n0
  obtain ⟨b1, b2, hs⟩ := mm_s1_some hs
  cases hs
  simp only [List.map_cons]
  rcases mm_vref (g := g) n0 n1 with ⟨a, ea⟩ | ea
  · rw [ea]
    exact lv_astore hx hb hd (mm_lr_has hL) b1 rfl (fun L' hl => K H locs L' hP hS (mm_lr_set hL hv.pop.1 b2 (by rw [ea]; exact hl)))
  · rw [ea]
    exact lv_astoreN hx hb hd (mm_lr_has hL) b1 rfl (fun L' hl => K H locs L' hP hS (mm_lr_set hL hv.pop.1 b2 (by rw [ea]; exact hl)))
theorem mm_sd_iinc (X : mm_cx p s m args meth c g D cy q) {i : Nat} {n : Int} (hd : decode (mm_b q) pc = .ok (.iinc i n, len)) (h2 : mm_ck2 (pc, .iinc i n, len, aux, val) = true) (hv : mm_vl ls st h) (hs : mm_st (pc, .iinc i n, len, aux, val) ls st h = some (.inr (.inl s'))) (K : mm_G p l e d s m args below meth c g D cy Q s'.1 s'.2.1 s'.2.2.1 s'.2.2.2) : mm_G p l e d s m args below meth c g D cy Q pc ls st h := by
  simp only [mm_st, mm_F] at hs
  obtain ⟨hx, hb, -⟩ := X
  intro H locs L hP hS hL
  have e0 : len = 3 := by simpa [mm_ck2, mm_ln] using h2
  subst e0
  obtain ⟨x, e1, hs⟩ := mm_ld_some hs
  obtain ⟨b1, b2, hs⟩ := mm_s1_some hs
  cases hs
  obtain ⟨k, hk⟩ := List.getElem?_of_mem (mm_ll_mem (g := g) (q := (i, mm_val g (0, x))) |>.mpr ⟨_, e1, by simp, rfl⟩)
  refine lv_iinc hx hb hd (mm_lr_has hL) (k := k) (x := Int32.ofInt x) (v := Int32.ofInt (mm_w (x + n))) hk (by rw [mm_ofw, Int32.ofInt_add]) b1 rfl (fun L' hl => K H locs L' hP hS (mm_lr_set hL (v := (0, _)) (mm_w_ok _) b2 hl))
theorem mm_sd_iadd (X : mm_cx p s m args meth c g D cy q) (hd : decode (mm_b q) pc = .ok (.iadd, len)) (h2 : mm_ck2 (pc, .iadd, len, aux, val) = true) (hv : mm_vl ls st h) (hs : mm_st (pc, .iadd, len, aux, val) ls st h = some (.inr (.inl s'))) (K : mm_G p l e d s m args below meth c g D cy Q s'.1 s'.2.1 s'.2.2.1 s'.2.2.2) : mm_G p l e d s m args below meth c g D cy Q pc ls st h := by
  simp only [mm_st, mm_F] at hs
  obtain ⟨hx, hb, -⟩ := X
  intro H locs L hP hS hL
  have e0 : len = 1 := by simpa [mm_ck2, mm_ln] using h2
  subst e0
  obtain ⟨y, r, rfl, ht⟩ := mm_t1_some hs; clear hs; have hs := ht; clear ht
  obtain ⟨x, r, rfl, ht⟩ := mm_t1_some hs; clear hs; have hs := ht; clear ht
  cases hs
  refine lv_iadd hx hb hd ?_
  rw [← Int32.ofInt_add, ← mm_ofw]
  exact K H locs L hP hS hL
theorem mm_sd_isub (X : mm_cx p s m args meth c g D cy q) (hd : decode (mm_b q) pc = .ok (.isub, len)) (h2 : mm_ck2 (pc, .isub, len, aux, val) = true) (hv : mm_vl ls st h) (hs : mm_st (pc, .isub, len, aux, val) ls st h = some (.inr (.inl s'))) (K : mm_G p l e d s m args below meth c g D cy Q s'.1 s'.2.1 s'.2.2.1 s'.2.2.2) : mm_G p l e d s m args below meth c g D cy Q pc ls st h := by
  simp only [mm_st, mm_F] at hs
  obtain ⟨hx, hb, -⟩ := X
  intro H locs L hP hS hL
  have e0 : len = 1 := by simpa [mm_ck2, mm_ln] using h2
  subst e0
  obtain ⟨y, r, rfl, ht⟩ := mm_t1_some hs; clear hs; have hs := ht; clear ht
  obtain ⟨x, r, rfl, ht⟩ := mm_t1_some hs; clear hs; have hs := ht; clear ht
  cases hs
  refine lv_isub hx hb hd ?_
  rw [← Int32.ofInt_sub, ← mm_ofw]
  exact K H locs L hP hS hL
theorem mm_sd_imul (X : mm_cx p s m args meth c g D cy q) (hd : decode (mm_b q) pc = .ok (.imul, len)) (h2 : mm_ck2 (pc, .imul, len, aux, val) = true) (hv : mm_vl ls st h) (hs : mm_st (pc, .imul, len, aux, val) ls st h = some (.inr (.inl s'))) (K : mm_G p l e d s m args below meth c g D cy Q s'.1 s'.2.1 s'.2.2.1 s'.2.2.2) : mm_G p l e d s m args below meth c g D cy Q pc ls st h := by
  simp only [mm_st, mm_F] at hs
  obtain ⟨hx, hb, -⟩ := X
  intro H locs L hP hS hL
  have e0 : len = 1 := by simpa [mm_ck2, mm_ln] using h2
  subst e0
  obtain ⟨y, r, rfl, ht⟩ := mm_t1_some hs; clear hs; have hs := ht; clear ht
  obtain ⟨x, r, rfl, ht⟩ := mm_t1_some hs; clear hs; have hs := ht; clear ht
  cases hs
  refine lv_imul hx hb hd ?_
  rw [← Int32.ofInt_mul, ← mm_ofw]
  exact K H locs L hP hS hL
theorem mm_sd_idiv (X : mm_cx p s m args meth c g D cy q) (hd : decode (mm_b q) pc = .ok (.idiv, len)) (h2 : mm_ck2 (pc, .idiv, len, aux, val) = true) (hv : mm_vl ls st h) (hs : mm_st (pc, .idiv, len, aux, val) ls st h = some (.inr (.inl s'))) (K : mm_G p l e d s m args below meth c g D cy Q s'.1 s'.2.1 s'.2.2.1 s'.2.2.2) : mm_G p l e d s m args below meth c g D cy Q pc ls st h := by
  simp only [mm_st, mm_F] at hs
  obtain ⟨hx, hb, -⟩ := X
  intro H locs L hP hS hL
  have e0 : len = 1 := by simpa [mm_ck2, mm_ln] using h2
  subst e0
  obtain ⟨y, r, rfl, ht⟩ := mm_t1_some hs; clear hs; have hs := ht; clear ht
  obtain ⟨x, r, rfl, ht⟩ := mm_t1_some hs; clear hs; have hs := ht; clear ht
  obtain ⟨hy, hs⟩ := mm_ifn_some hs
  cases hs
  have k := K H locs L hP hS hL
  simp only [List.map_cons, mm_val, mm_div, Int32.ofInt_toInt] at k
  refine lv_idiv hx hb hd (fun w => hy ?_) k
  exact (mm_eq (show mm_i32 y from hv.pop.1) mm_z0).mp w
theorem mm_sd_irem (X : mm_cx p s m args meth c g D cy q) (hd : decode (mm_b q) pc = .ok (.irem, len)) (h2 : mm_ck2 (pc, .irem, len, aux, val) = true) (hv : mm_vl ls st h) (hs : mm_st (pc, .irem, len, aux, val) ls st h = some (.inr (.inl s'))) (K : mm_G p l e d s m args below meth c g D cy Q s'.1 s'.2.1 s'.2.2.1 s'.2.2.2) : mm_G p l e d s m args below meth c g D cy Q pc ls st h := by
  simp only [mm_st, mm_F] at hs
  obtain ⟨hx, hb, -⟩ := X
  intro H locs L hP hS hL
  have e0 : len = 1 := by simpa [mm_ck2, mm_ln] using h2
  subst e0
  obtain ⟨y, r, rfl, ht⟩ := mm_t1_some hs; clear hs; have hs := ht; clear ht
  obtain ⟨x, r, rfl, ht⟩ := mm_t1_some hs; clear hs; have hs := ht; clear ht
  obtain ⟨hy, hs⟩ := mm_ifn_some hs
  cases hs
  have k := K H locs L hP hS hL
  simp only [List.map_cons, mm_val, mm_rem, Int32.ofInt_toInt] at k
  refine lv_irem hx hb hd (fun w => hy ?_) k
  exact (mm_eq (show mm_i32 y from hv.pop.1) mm_z0).mp w
theorem mm_sd_ineg (X : mm_cx p s m args meth c g D cy q) (hd : decode (mm_b q) pc = .ok (.ineg, len)) (h2 : mm_ck2 (pc, .ineg, len, aux, val) = true) (hv : mm_vl ls st h) (hs : mm_st (pc, .ineg, len, aux, val) ls st h = some (.inr (.inl s'))) (K : mm_G p l e d s m args below meth c g D cy Q s'.1 s'.2.1 s'.2.2.1 s'.2.2.2) : mm_G p l e d s m args below meth c g D cy Q pc ls st h := by
  simp only [mm_st, mm_F] at hs
  obtain ⟨hx, hb, -⟩ := X
  intro H locs L hP hS hL
  have e0 : len = 1 := by simpa [mm_ck2, mm_ln] using h2
  subst e0
  obtain ⟨x, r, rfl, ht⟩ := mm_t1_some hs; clear hs; have hs := ht; clear ht
  cases hs
  refine lv_ineg hx hb hd ?_
  rw [← Int32.ofInt_neg, ← mm_ofw]
  exact K H locs L hP hS hL
theorem mm_sd_iand (X : mm_cx p s m args meth c g D cy q) (hd : decode (mm_b q) pc = .ok (.iand, len)) (h2 : mm_ck2 (pc, .iand, len, aux, val) = true) (hv : mm_vl ls st h) (hs : mm_st (pc, .iand, len, aux, val) ls st h = some (.inr (.inl s'))) (K : mm_G p l e d s m args below meth c g D cy Q s'.1 s'.2.1 s'.2.2.1 s'.2.2.2) : mm_G p l e d s m args below meth c g D cy Q pc ls st h := by
  simp only [mm_st, mm_F] at hs
  obtain ⟨hx, hb, -⟩ := X
  intro H locs L hP hS hL
  have e0 : len = 1 := by simpa [mm_ck2, mm_ln] using h2
  subst e0
  obtain ⟨y, r, rfl, ht⟩ := mm_t1_some hs; clear hs; have hs := ht; clear ht
  obtain ⟨x, r, rfl, ht⟩ := mm_t1_some hs; clear hs; have hs := ht; clear ht
  cases hs
  have k := K H locs L hP hS hL
  simp only [List.map_cons, mm_val, mm_and, Int32.ofInt_toInt] at k
  exact lv_iand hx hb hd k
theorem mm_sd_ior (X : mm_cx p s m args meth c g D cy q) (hd : decode (mm_b q) pc = .ok (.ior, len)) (h2 : mm_ck2 (pc, .ior, len, aux, val) = true) (hv : mm_vl ls st h) (hs : mm_st (pc, .ior, len, aux, val) ls st h = some (.inr (.inl s'))) (K : mm_G p l e d s m args below meth c g D cy Q s'.1 s'.2.1 s'.2.2.1 s'.2.2.2) : mm_G p l e d s m args below meth c g D cy Q pc ls st h := by
  simp only [mm_st, mm_F] at hs
  obtain ⟨hx, hb, -⟩ := X
  intro H locs L hP hS hL
  have e0 : len = 1 := by simpa [mm_ck2, mm_ln] using h2
  subst e0
  obtain ⟨y, r, rfl, ht⟩ := mm_t1_some hs; clear hs; have hs := ht; clear ht
  obtain ⟨x, r, rfl, ht⟩ := mm_t1_some hs; clear hs; have hs := ht; clear ht
  cases hs
  have k := K H locs L hP hS hL
  simp only [List.map_cons, mm_val, mm_or, Int32.ofInt_toInt] at k
  exact lv_ior hx hb hd k
theorem mm_sd_ixor (X : mm_cx p s m args meth c g D cy q) (hd : decode (mm_b q) pc = .ok (.ixor, len)) (h2 : mm_ck2 (pc, .ixor, len, aux, val) = true) (hv : mm_vl ls st h) (hs : mm_st (pc, .ixor, len, aux, val) ls st h = some (.inr (.inl s'))) (K : mm_G p l e d s m args below meth c g D cy Q s'.1 s'.2.1 s'.2.2.1 s'.2.2.2) : mm_G p l e d s m args below meth c g D cy Q pc ls st h := by
  simp only [mm_st, mm_F] at hs
  obtain ⟨hx, hb, -⟩ := X
  intro H locs L hP hS hL
  have e0 : len = 1 := by simpa [mm_ck2, mm_ln] using h2
  subst e0
  obtain ⟨y, r, rfl, ht⟩ := mm_t1_some hs; clear hs; have hs := ht; clear ht
  obtain ⟨x, r, rfl, ht⟩ := mm_t1_some hs; clear hs; have hs := ht; clear ht
  cases hs
  have k := K H locs L hP hS hL
  simp only [List.map_cons, mm_val, mm_xor, Int32.ofInt_toInt] at k
  exact lv_ixor hx hb hd k
theorem mm_sd_ishl (X : mm_cx p s m args meth c g D cy q) (hd : decode (mm_b q) pc = .ok (.ishl, len)) (h2 : mm_ck2 (pc, .ishl, len, aux, val) = true) (hv : mm_vl ls st h) (hs : mm_st (pc, .ishl, len, aux, val) ls st h = some (.inr (.inl s'))) (K : mm_G p l e d s m args below meth c g D cy Q s'.1 s'.2.1 s'.2.2.1 s'.2.2.2) : mm_G p l e d s m args below meth c g D cy Q pc ls st h := by
  simp only [mm_st, mm_F] at hs
  obtain ⟨hx, hb, -⟩ := X
  intro H locs L hP hS hL
  have e0 : len = 1 := by simpa [mm_ck2, mm_ln] using h2
  subst e0
  obtain ⟨y, r, rfl, ht⟩ := mm_t1_some hs; clear hs; have hs := ht; clear ht
  obtain ⟨x, r, rfl, ht⟩ := mm_t1_some hs; clear hs; have hs := ht; clear ht
  cases hs
  have k := K H locs L hP hS hL
  simp only [List.map_cons, mm_val, mm_shl, Int32.ofInt_toInt] at k
  exact lv_ishl hx hb hd k
theorem mm_sd_ishr (X : mm_cx p s m args meth c g D cy q) (hd : decode (mm_b q) pc = .ok (.ishr, len)) (h2 : mm_ck2 (pc, .ishr, len, aux, val) = true) (hv : mm_vl ls st h) (hs : mm_st (pc, .ishr, len, aux, val) ls st h = some (.inr (.inl s'))) (K : mm_G p l e d s m args below meth c g D cy Q s'.1 s'.2.1 s'.2.2.1 s'.2.2.2) : mm_G p l e d s m args below meth c g D cy Q pc ls st h := by
  simp only [mm_st, mm_F] at hs
  obtain ⟨hx, hb, -⟩ := X
  intro H locs L hP hS hL
  have e0 : len = 1 := by simpa [mm_ck2, mm_ln] using h2
  subst e0
  obtain ⟨y, r, rfl, ht⟩ := mm_t1_some hs; clear hs; have hs := ht; clear ht
  obtain ⟨x, r, rfl, ht⟩ := mm_t1_some hs; clear hs; have hs := ht; clear ht
  cases hs
  have k := K H locs L hP hS hL
  simp only [List.map_cons, mm_val, mm_shr, Int32.ofInt_toInt] at k
  exact lv_ishr hx hb hd k
theorem mm_sd_iushr (X : mm_cx p s m args meth c g D cy q) (hd : decode (mm_b q) pc = .ok (.iushr, len)) (h2 : mm_ck2 (pc, .iushr, len, aux, val) = true) (hv : mm_vl ls st h) (hs : mm_st (pc, .iushr, len, aux, val) ls st h = some (.inr (.inl s'))) (K : mm_G p l e d s m args below meth c g D cy Q s'.1 s'.2.1 s'.2.2.1 s'.2.2.2) : mm_G p l e d s m args below meth c g D cy Q pc ls st h := by
  simp only [mm_st, mm_F] at hs
  obtain ⟨hx, hb, -⟩ := X
  intro H locs L hP hS hL
  have e0 : len = 1 := by simpa [mm_ck2, mm_ln] using h2
  subst e0
  obtain ⟨y, r, rfl, ht⟩ := mm_t1_some hs; clear hs; have hs := ht; clear ht
  obtain ⟨x, r, rfl, ht⟩ := mm_t1_some hs; clear hs; have hs := ht; clear ht
  cases hs
  have k := K H locs L hP hS hL
  simp only [List.map_cons, mm_val, mm_ushr, Int32.ofInt_toInt] at k
  exact lv_iushr hx hb hd rfl k
theorem mm_sd_ladd (X : mm_cx p s m args meth c g D cy q) (hd : decode (mm_b q) pc = .ok (.ladd, len)) (h2 : mm_ck2 (pc, .ladd, len, aux, val) = true) (hv : mm_vl ls st h) (hs : mm_st (pc, .ladd, len, aux, val) ls st h = some (.inr (.inl s'))) (K : mm_G p l e d s m args below meth c g D cy Q s'.1 s'.2.1 s'.2.2.1 s'.2.2.2) : mm_G p l e d s m args below meth c g D cy Q pc ls st h := by
  simp only [mm_st, mm_F] at hs
  obtain ⟨hx, hb, -⟩ := X
  intro H locs L hP hS hL
  have e0 : len = 1 := by simpa [mm_ck2, mm_ln] using h2
  subst e0
  obtain ⟨y, r, rfl, ht⟩ := mm_t1_some hs; clear hs; have hs := ht; clear ht
  obtain ⟨x, r, rfl, ht⟩ := mm_t1_some hs; clear hs; have hs := ht; clear ht
  cases hs
  refine lv_ladd hx hb hd ?_
  rw [← Int64.ofInt_add, ← mm_ofwl]
  exact K H locs L hP hS hL
theorem mm_sd_lsub (X : mm_cx p s m args meth c g D cy q) (hd : decode (mm_b q) pc = .ok (.lsub, len)) (h2 : mm_ck2 (pc, .lsub, len, aux, val) = true) (hv : mm_vl ls st h) (hs : mm_st (pc, .lsub, len, aux, val) ls st h = some (.inr (.inl s'))) (K : mm_G p l e d s m args below meth c g D cy Q s'.1 s'.2.1 s'.2.2.1 s'.2.2.2) : mm_G p l e d s m args below meth c g D cy Q pc ls st h := by
  simp only [mm_st, mm_F] at hs
  obtain ⟨hx, hb, -⟩ := X
  intro H locs L hP hS hL
  have e0 : len = 1 := by simpa [mm_ck2, mm_ln] using h2
  subst e0
  obtain ⟨y, r, rfl, ht⟩ := mm_t1_some hs; clear hs; have hs := ht; clear ht
  obtain ⟨x, r, rfl, ht⟩ := mm_t1_some hs; clear hs; have hs := ht; clear ht
  cases hs
  refine lv_lsub hx hb hd ?_
  rw [← Int64.ofInt_sub, ← mm_ofwl]
  exact K H locs L hP hS hL
theorem mm_sd_lmul (X : mm_cx p s m args meth c g D cy q) (hd : decode (mm_b q) pc = .ok (.lmul, len)) (h2 : mm_ck2 (pc, .lmul, len, aux, val) = true) (hv : mm_vl ls st h) (hs : mm_st (pc, .lmul, len, aux, val) ls st h = some (.inr (.inl s'))) (K : mm_G p l e d s m args below meth c g D cy Q s'.1 s'.2.1 s'.2.2.1 s'.2.2.2) : mm_G p l e d s m args below meth c g D cy Q pc ls st h := by
  simp only [mm_st, mm_F] at hs
  obtain ⟨hx, hb, -⟩ := X
  intro H locs L hP hS hL
  have e0 : len = 1 := by simpa [mm_ck2, mm_ln] using h2
  subst e0
  obtain ⟨y, r, rfl, ht⟩ := mm_t1_some hs; clear hs; have hs := ht; clear ht
  obtain ⟨x, r, rfl, ht⟩ := mm_t1_some hs; clear hs; have hs := ht; clear ht
  cases hs
  refine lv_lmul hx hb hd ?_
  rw [← Int64.ofInt_mul, ← mm_ofwl]
  exact K H locs L hP hS hL
theorem mm_sd_ldiv (X : mm_cx p s m args meth c g D cy q) (hd : decode (mm_b q) pc = .ok (.ldiv, len)) (h2 : mm_ck2 (pc, .ldiv, len, aux, val) = true) (hv : mm_vl ls st h) (hs : mm_st (pc, .ldiv, len, aux, val) ls st h = some (.inr (.inl s'))) (K : mm_G p l e d s m args below meth c g D cy Q s'.1 s'.2.1 s'.2.2.1 s'.2.2.2) : mm_G p l e d s m args below meth c g D cy Q pc ls st h := by
  simp only [mm_st, mm_F] at hs
  obtain ⟨hx, hb, -⟩ := X
  intro H locs L hP hS hL
  have e0 : len = 1 := by simpa [mm_ck2, mm_ln] using h2
  subst e0
  obtain ⟨y, r, rfl, ht⟩ := mm_t1_some hs; clear hs; have hs := ht; clear ht
  obtain ⟨x, r, rfl, ht⟩ := mm_t1_some hs; clear hs; have hs := ht; clear ht
  obtain ⟨hy, hs⟩ := mm_ifn_some hs
  cases hs
  have k := K H locs L hP hS hL
  simp only [List.map_cons, mm_val, mm_ldiv, Int64.ofInt_toInt] at k
  refine lv_ldiv hx hb hd (fun w => hy ?_) k
  exact (mm_eqL (show mm_i64 y from hv.pop.1) (show mm_i64 0 from ⟨by decide, by decide⟩)).mp w
theorem mm_sd_lrem (X : mm_cx p s m args meth c g D cy q) (hd : decode (mm_b q) pc = .ok (.lrem, len)) (h2 : mm_ck2 (pc, .lrem, len, aux, val) = true) (hv : mm_vl ls st h) (hs : mm_st (pc, .lrem, len, aux, val) ls st h = some (.inr (.inl s'))) (K : mm_G p l e d s m args below meth c g D cy Q s'.1 s'.2.1 s'.2.2.1 s'.2.2.2) : mm_G p l e d s m args below meth c g D cy Q pc ls st h := by
  simp only [mm_st, mm_F] at hs
  obtain ⟨hx, hb, -⟩ := X
  intro H locs L hP hS hL
  have e0 : len = 1 := by simpa [mm_ck2, mm_ln] using h2
  subst e0
  obtain ⟨y, r, rfl, ht⟩ := mm_t1_some hs; clear hs; have hs := ht; clear ht
  obtain ⟨x, r, rfl, ht⟩ := mm_t1_some hs; clear hs; have hs := ht; clear ht
  obtain ⟨hy, hs⟩ := mm_ifn_some hs
  cases hs
  have k := K H locs L hP hS hL
  simp only [List.map_cons, mm_val, mm_lrem, Int64.ofInt_toInt] at k
  refine lv_lrem hx hb hd (fun w => hy ?_) k
  exact (mm_eqL (show mm_i64 y from hv.pop.1) (show mm_i64 0 from ⟨by decide, by decide⟩)).mp w
theorem mm_sd_lor (X : mm_cx p s m args meth c g D cy q) (hd : decode (mm_b q) pc = .ok (.lor, len)) (h2 : mm_ck2 (pc, .lor, len, aux, val) = true) (hv : mm_vl ls st h) (hs : mm_st (pc, .lor, len, aux, val) ls st h = some (.inr (.inl s'))) (K : mm_G p l e d s m args below meth c g D cy Q s'.1 s'.2.1 s'.2.2.1 s'.2.2.2) : mm_G p l e d s m args below meth c g D cy Q pc ls st h := by
  simp only [mm_st, mm_F] at hs
  obtain ⟨hx, hb, -⟩ := X
  intro H locs L hP hS hL
  have e0 : len = 1 := by simpa [mm_ck2, mm_ln] using h2
  subst e0
  obtain ⟨y, r, rfl, ht⟩ := mm_t1_some hs; clear hs; have hs := ht; clear ht
  obtain ⟨x, r, rfl, ht⟩ := mm_t1_some hs; clear hs; have hs := ht; clear ht
  cases hs
  have k := K H locs L hP hS hL
  simp only [List.map_cons, mm_val, mm_lor, Int64.ofInt_toInt] at k
  exact lv_lor hx hb hd k
theorem mm_sd_lshl (X : mm_cx p s m args meth c g D cy q) (hd : decode (mm_b q) pc = .ok (.lshl, len)) (h2 : mm_ck2 (pc, .lshl, len, aux, val) = true) (hv : mm_vl ls st h) (hs : mm_st (pc, .lshl, len, aux, val) ls st h = some (.inr (.inl s'))) (K : mm_G p l e d s m args below meth c g D cy Q s'.1 s'.2.1 s'.2.2.1 s'.2.2.2) : mm_G p l e d s m args below meth c g D cy Q pc ls st h := by
  simp only [mm_st, mm_F] at hs
  obtain ⟨hx, hb, -⟩ := X
  intro H locs L hP hS hL
  have e0 : len = 1 := by simpa [mm_ck2, mm_ln] using h2
  subst e0
  obtain ⟨y, r, rfl, ht⟩ := mm_t1_some hs; clear hs; have hs := ht; clear ht
  obtain ⟨x, r, rfl, ht⟩ := mm_t1_some hs; clear hs; have hs := ht; clear ht
  cases hs
  have k := K H locs L hP hS hL
  simp only [List.map_cons, mm_val, mm_lshl, Int64.ofInt_toInt] at k
  exact lv_lshl hx hb hd rfl k
theorem mm_sd_lushr (X : mm_cx p s m args meth c g D cy q) (hd : decode (mm_b q) pc = .ok (.lushr, len)) (h2 : mm_ck2 (pc, .lushr, len, aux, val) = true) (hv : mm_vl ls st h) (hs : mm_st (pc, .lushr, len, aux, val) ls st h = some (.inr (.inl s'))) (K : mm_G p l e d s m args below meth c g D cy Q s'.1 s'.2.1 s'.2.2.1 s'.2.2.2) : mm_G p l e d s m args below meth c g D cy Q pc ls st h := by
  simp only [mm_st, mm_F] at hs
  obtain ⟨hx, hb, -⟩ := X
  intro H locs L hP hS hL
  have e0 : len = 1 := by simpa [mm_ck2, mm_ln] using h2
  subst e0
  obtain ⟨y, r, rfl, ht⟩ := mm_t1_some hs; clear hs; have hs := ht; clear ht
  obtain ⟨x, r, rfl, ht⟩ := mm_t1_some hs; clear hs; have hs := ht; clear ht
  cases hs
  have k := K H locs L hP hS hL
  simp only [List.map_cons, mm_val, mm_lushr, Int64.ofInt_toInt] at k
  exact lv_lushr hx hb hd rfl k
theorem mm_sd_lcmp (X : mm_cx p s m args meth c g D cy q) (hd : decode (mm_b q) pc = .ok (.lcmp, len)) (h2 : mm_ck2 (pc, .lcmp, len, aux, val) = true) (hv : mm_vl ls st h) (hs : mm_st (pc, .lcmp, len, aux, val) ls st h = some (.inr (.inl s'))) (K : mm_G p l e d s m args below meth c g D cy Q s'.1 s'.2.1 s'.2.2.1 s'.2.2.2) : mm_G p l e d s m args below meth c g D cy Q pc ls st h := by
  simp only [mm_st, mm_F] at hs
  obtain ⟨hx, hb, -⟩ := X
  intro H locs L hP hS hL
  have e0 : len = 1 := by simpa [mm_ck2, mm_ln] using h2
  subst e0
  obtain ⟨y, r, rfl, ht⟩ := mm_t1_some hs; clear hs; have hs := ht; clear ht
  obtain ⟨x, r, rfl, ht⟩ := mm_t1_some hs; clear hs; have hs := ht; clear ht
  cases hs
  refine W.lcmp hx hb hd ?_
  have hy : mm_i64 y := hv.pop.1
  have hx' : mm_i64 x := hv.pop.2.pop.1
  have e1 : lg_cmp (Int64.ofInt x) (Int64.ofInt y) = Int32.ofInt (mm_lcmp x y) := by
    unfold lg_cmp mm_lcmp
    by_cases h1 : x < y
    · have a : ¬ Int64.ofInt x > Int64.ofInt y := fun w => by have := (mm_ltL hy hx').mp w; omega
      have b : ¬ Int64.ofInt x = Int64.ofInt y := fun w => by have := (mm_eqL hx' hy).mp w; omega
      rw [if_neg a, if_neg b, if_pos h1]
      rfl
    · by_cases h3 : x = y
      · have a : ¬ Int64.ofInt x > Int64.ofInt y := fun w => by have := (mm_ltL hy hx').mp w; omega
        rw [if_neg a, if_pos ((mm_eqL hx' hy).mpr h3), if_neg h1, if_pos h3]
        rfl
      · rw [if_pos ((mm_ltL hy hx').mpr (by omega)), if_neg h1, if_neg h3]
        rfl
  rw [e1]
  exact K H locs L hP hS hL
theorem mm_sd_i2l (X : mm_cx p s m args meth c g D cy q) (hd : decode (mm_b q) pc = .ok (.i2l, len)) (h2 : mm_ck2 (pc, .i2l, len, aux, val) = true) (hv : mm_vl ls st h) (hs : mm_st (pc, .i2l, len, aux, val) ls st h = some (.inr (.inl s'))) (K : mm_G p l e d s m args below meth c g D cy Q s'.1 s'.2.1 s'.2.2.1 s'.2.2.2) : mm_G p l e d s m args below meth c g D cy Q pc ls st h := by
  simp only [mm_st, mm_F] at hs
  obtain ⟨hx, hb, -⟩ := X
  intro H locs L hP hS hL
  have e0 : len = 1 := by simpa [mm_ck2, mm_ln] using h2
  subst e0
  obtain ⟨x, r, rfl, ht⟩ := mm_t1_some hs; clear hs; have hs := ht; clear ht
  cases hs
  refine lv_i2l hx hb hd (v := Int64.ofInt x) ?_ (K H locs L hP hS hL)
  apply Int64.toInt_inj.mp
  rw [Int32.toInt_toInt64, mm_toI (show mm_i32 x from hv.pop.1), mm_toL (mm_ofi hv.pop.1)]
theorem mm_sd_l2i (X : mm_cx p s m args meth c g D cy q) (hd : decode (mm_b q) pc = .ok (.l2i, len)) (h2 : mm_ck2 (pc, .l2i, len, aux, val) = true) (hv : mm_vl ls st h) (hs : mm_st (pc, .l2i, len, aux, val) ls st h = some (.inr (.inl s'))) (K : mm_G p l e d s m args below meth c g D cy Q s'.1 s'.2.1 s'.2.2.1 s'.2.2.2) : mm_G p l e d s m args below meth c g D cy Q pc ls st h := by
  simp only [mm_st, mm_F] at hs
  obtain ⟨hx, hb, -⟩ := X
  intro H locs L hP hS hL
  have e0 : len = 1 := by simpa [mm_ck2, mm_ln] using h2
  subst e0
  obtain ⟨x, r, rfl, ht⟩ := mm_t1_some hs; clear hs; have hs := ht; clear ht
  cases hs
  refine lv_l2i hx hb hd (v := Int32.ofInt (mm_w x)) ?_ (K H locs L hP hS hL)
  rw [mm_ofw]
  apply Int32.toInt_inj.mp
  rw [Int64.toInt_toInt32, mm_toL (show mm_i64 x from hv.pop.1), Int32.toInt_ofInt]
theorem mm_sd_i2b (X : mm_cx p s m args meth c g D cy q) (hd : decode (mm_b q) pc = .ok (.i2b, len)) (h2 : mm_ck2 (pc, .i2b, len, aux, val) = true) (hv : mm_vl ls st h) (hs : mm_st (pc, .i2b, len, aux, val) ls st h = some (.inr (.inl s'))) (K : mm_G p l e d s m args below meth c g D cy Q s'.1 s'.2.1 s'.2.2.1 s'.2.2.2) : mm_G p l e d s m args below meth c g D cy Q pc ls st h := by
  simp only [mm_st, mm_F] at hs
  obtain ⟨hx, hb, -⟩ := X
  intro H locs L hP hS hL
  have e0 : len = 1 := by simpa [mm_ck2, mm_ln] using h2
  subst e0
  obtain ⟨x, r, rfl, ht⟩ := mm_t1_some hs; clear hs; have hs := ht; clear ht
  cases hs
  refine lv_i2b hx hb hd (v := Int32.ofInt (mm_w8 x)) ?_ (K H locs L hP hS hL)
  apply Int32.toInt_inj.mp
  have w := mm_w8_ok x
  rw [Int8.toInt_toInt32, Int32.toInt_toInt8, mm_toI (show mm_i32 x from hv.pop.1), mm_toI (mm_sm w.1 w.2 (by decide) (by decide))]
  rfl
theorem mm_sd_dup (X : mm_cx p s m args meth c g D cy q) (hd : decode (mm_b q) pc = .ok (.dup, len)) (h2 : mm_ck2 (pc, .dup, len, aux, val) = true) (hv : mm_vl ls st h) (hs : mm_st (pc, .dup, len, aux, val) ls st h = some (.inr (.inl s'))) (K : mm_G p l e d s m args below meth c g D cy Q s'.1 s'.2.1 s'.2.2.1 s'.2.2.2) : mm_G p l e d s m args below meth c g D cy Q pc ls st h := by
  simp only [mm_st, mm_F] at hs
  obtain ⟨hx, hb, -⟩ := X
  intro H locs L hP hS hL
  have e0 : len = 1 := by simpa [mm_ck2, mm_ln] using h2
  subst e0
  obtain ⟨v, r, rfl, n1, n9, ht⟩ := mm_an_some hs; clear hs; have hs := ht; clear ht
  cases hs
  exact lv_dup hx hb hd (by rw [mm_cat, if_neg n1]) (K H locs L hP hS hL)
theorem mm_sd_dup2 (X : mm_cx p s m args meth c g D cy q) (hd : decode (mm_b q) pc = .ok (.dup2, len)) (h2 : mm_ck2 (pc, .dup2, len, aux, val) = true) (hv : mm_vl ls st h) (hs : mm_st (pc, .dup2, len, aux, val) ls st h = some (.inr (.inl s'))) (K : mm_G p l e d s m args below meth c g D cy Q s'.1 s'.2.1 s'.2.2.1 s'.2.2.2) : mm_G p l e d s m args below meth c g D cy Q pc ls st h := by
  simp only [mm_st, mm_F] at hs
  obtain ⟨hx, hb, -⟩ := X
  intro H locs L hP hS hL
  have e0 : len = 1 := by simpa [mm_ck2, mm_ln] using h2
  subst e0
  obtain ⟨v, r, rfl, n1, n9, ht⟩ := mm_an_some hs; clear hs; have hs := ht; clear ht
  obtain ⟨u, r, rfl, k1, k9, ht⟩ := mm_an_some hs; clear hs; have hs := ht; clear ht
  cases hs
  exact lv_dup2_11 hx hb hd (by rw [mm_cat, if_neg n1]) (by rw [mm_cat, if_neg k1]) (K H locs L hP hS hL)
theorem mm_sd_pop (X : mm_cx p s m args meth c g D cy q) (hd : decode (mm_b q) pc = .ok (.pop, len)) (h2 : mm_ck2 (pc, .pop, len, aux, val) = true) (hv : mm_vl ls st h) (hs : mm_st (pc, .pop, len, aux, val) ls st h = some (.inr (.inl s'))) (K : mm_G p l e d s m args below meth c g D cy Q s'.1 s'.2.1 s'.2.2.1 s'.2.2.2) : mm_G p l e d s m args below meth c g D cy Q pc ls st h := by
  simp only [mm_st, mm_F] at hs
  obtain ⟨hx, hb, -⟩ := X
  intro H locs L hP hS hL
  have e0 : len = 1 := by simpa [mm_ck2, mm_ln] using h2
  subst e0
  obtain ⟨v, r, rfl, n1, n9, ht⟩ := mm_an_some hs; clear hs; have hs := ht; clear ht
  cases hs
  exact lv_pop hx hb hd (by rw [mm_cat, if_neg n1]) (K H locs L hP hS hL)
theorem mm_sd_goto (X : mm_cx p s m args meth c g D cy q) {o : Int} (hd : decode (mm_b q) pc = .ok (.goto o, len)) (h2 : mm_ck2 (pc, .goto o, len, aux, val) = true) (hv : mm_vl ls st h) (hs : mm_st (pc, .goto o, len, aux, val) ls st h = some (.inr (.inl s'))) (K : mm_G p l e d s m args below meth c g D cy Q s'.1 s'.2.1 s'.2.2.1 s'.2.2.2) : mm_G p l e d s m args below meth c g D cy Q pc ls st h := by
  simp only [mm_st, mm_F] at hs
  obtain ⟨hx, hb, -⟩ := X
  intro H locs L hP hS hL
  simp only [mm_ck2, Bool.and_eq_true, beq_iff_eq, decide_eq_true_eq] at h2
  obtain ⟨rfl, hn⟩ := h2
  cases hs
  exact lv_goto hx hb hd (mm_tgt hn) (K H locs L hP hS hL)
theorem mm_sd_if_eq (X : mm_cx p s m args meth c g D cy q) {o : Int} (hd : decode (mm_b q) pc = .ok (.ifCond .eq o, len)) (h2 : mm_ck2 (pc, .ifCond .eq o, len, aux, val) = true) (hv : mm_vl ls st h) (hs : mm_st (pc, .ifCond .eq o, len, aux, val) ls st h = some (.inr (.inl s'))) (K : mm_G p l e d s m args below meth c g D cy Q s'.1 s'.2.1 s'.2.2.1 s'.2.2.2) : mm_G p l e d s m args below meth c g D cy Q pc ls st h := by
  simp only [mm_st, mm_F] at hs
  obtain ⟨hx, hb, -⟩ := X
  intro H locs L hP hS hL
  simp only [mm_ck2, Bool.and_eq_true, beq_iff_eq, decide_eq_true_eq] at h2
  obtain ⟨rfl, hn⟩ := h2
  obtain ⟨x, r, rfl, ht⟩ := mm_t1_some hs; clear hs; have hs := ht; clear ht
  have hx0 : mm_i32 x := hv.pop.1
  have cv := (mm_eq hx0 mm_z0)
  rw [mm_of0] at cv
  by_cases hc : x = 0
  · rw [if_pos hc] at hs
    cases hs
    have k := K H locs L hP hS hL
    exact lv_if_eq hx hb hd (mm_tgt hn) (fun w => by first | exact k | exact absurd (cv.mp w) (by omega) | exact absurd (cv.mpr (by omega)) w) (fun w => by first | exact k | exact absurd (cv.mpr (by omega)) w | exact absurd (cv.mpr (by omega)) w | exact absurd w (fun z => by have := cv.mp z; omega))
  · rw [if_neg hc] at hs
    cases hs
    have k := K H locs L hP hS hL
    exact lv_if_eq hx hb hd (mm_tgt hn) (fun w => by first | exact k | exact absurd (cv.mp w) (by omega) | exact absurd (cv.mpr (by omega)) w) (fun w => by first | exact k | exact absurd (cv.mpr (by omega)) w | exact absurd w (fun z => by have := cv.mp z; omega))
theorem mm_sd_if_ne (X : mm_cx p s m args meth c g D cy q) {o : Int} (hd : decode (mm_b q) pc = .ok (.ifCond .ne o, len)) (h2 : mm_ck2 (pc, .ifCond .ne o, len, aux, val) = true) (hv : mm_vl ls st h) (hs : mm_st (pc, .ifCond .ne o, len, aux, val) ls st h = some (.inr (.inl s'))) (K : mm_G p l e d s m args below meth c g D cy Q s'.1 s'.2.1 s'.2.2.1 s'.2.2.2) : mm_G p l e d s m args below meth c g D cy Q pc ls st h := by
  simp only [mm_st, mm_F] at hs
  obtain ⟨hx, hb, -⟩ := X
  intro H locs L hP hS hL
  simp only [mm_ck2, Bool.and_eq_true, beq_iff_eq, decide_eq_true_eq] at h2
  obtain ⟨rfl, hn⟩ := h2
  obtain ⟨x, r, rfl, ht⟩ := mm_t1_some hs; clear hs; have hs := ht; clear ht
  have hx0 : mm_i32 x := hv.pop.1
  have cv := (mm_eq hx0 mm_z0)
  rw [mm_of0] at cv
  by_cases hc : x = 0
  · rw [if_pos hc] at hs
    cases hs
    have k := K H locs L hP hS hL
    exact lv_if_ne hx hb hd (mm_tgt hn) (fun w => by first | exact k | exact absurd (cv.mp w) (by omega) | exact absurd (cv.mpr (by omega)) w) (fun w => by first | exact k | exact absurd (cv.mpr (by omega)) w | exact absurd (cv.mpr (by omega)) w | exact absurd w (fun z => by have := cv.mp z; omega))
  · rw [if_neg hc] at hs
    cases hs
    have k := K H locs L hP hS hL
    exact lv_if_ne hx hb hd (mm_tgt hn) (fun w => by first | exact k | exact absurd (cv.mp w) (by omega) | exact absurd (cv.mpr (by omega)) w) (fun w => by first | exact k | exact absurd (cv.mpr (by omega)) w | exact absurd w (fun z => by have := cv.mp z; omega))
theorem mm_sd_if_lt (X : mm_cx p s m args meth c g D cy q) {o : Int} (hd : decode (mm_b q) pc = .ok (.ifCond .lt o, len)) (h2 : mm_ck2 (pc, .ifCond .lt o, len, aux, val) = true) (hv : mm_vl ls st h) (hs : mm_st (pc, .ifCond .lt o, len, aux, val) ls st h = some (.inr (.inl s'))) (K : mm_G p l e d s m args below meth c g D cy Q s'.1 s'.2.1 s'.2.2.1 s'.2.2.2) : mm_G p l e d s m args below meth c g D cy Q pc ls st h := by
  simp only [mm_st, mm_F] at hs
  obtain ⟨hx, hb, -⟩ := X
  intro H locs L hP hS hL
  simp only [mm_ck2, Bool.and_eq_true, beq_iff_eq, decide_eq_true_eq] at h2
  obtain ⟨rfl, hn⟩ := h2
  obtain ⟨x, r, rfl, ht⟩ := mm_t1_some hs; clear hs; have hs := ht; clear ht
  have hx0 : mm_i32 x := hv.pop.1
  have cv := (mm_lt hx0 mm_z0)
  rw [mm_of0] at cv
  by_cases hc : x < 0
  · rw [if_pos hc] at hs
    cases hs
    have k := K H locs L hP hS hL
    exact lv_if_lt hx hb hd (mm_tgt hn) (fun w => by first | exact k | exact absurd (cv.mp w) (by omega) | exact absurd (cv.mpr (by omega)) w) (fun w => by first | exact k | exact absurd (cv.mpr (by omega)) w | exact absurd (cv.mpr (by omega)) w | exact absurd w (fun z => by have := cv.mp z; omega))
  · rw [if_neg hc] at hs
    cases hs
    have k := K H locs L hP hS hL
    exact lv_if_lt hx hb hd (mm_tgt hn) (fun w => by first | exact k | exact absurd (cv.mp w) (by omega) | exact absurd (cv.mpr (by omega)) w) (fun w => by first | exact k | exact absurd (cv.mpr (by omega)) w | exact absurd w (fun z => by have := cv.mp z; omega))
theorem mm_sd_if_ge (X : mm_cx p s m args meth c g D cy q) {o : Int} (hd : decode (mm_b q) pc = .ok (.ifCond .ge o, len)) (h2 : mm_ck2 (pc, .ifCond .ge o, len, aux, val) = true) (hv : mm_vl ls st h) (hs : mm_st (pc, .ifCond .ge o, len, aux, val) ls st h = some (.inr (.inl s'))) (K : mm_G p l e d s m args below meth c g D cy Q s'.1 s'.2.1 s'.2.2.1 s'.2.2.2) : mm_G p l e d s m args below meth c g D cy Q pc ls st h := by
  simp only [mm_st, mm_F] at hs
  obtain ⟨hx, hb, -⟩ := X
  intro H locs L hP hS hL
  simp only [mm_ck2, Bool.and_eq_true, beq_iff_eq, decide_eq_true_eq] at h2
  obtain ⟨rfl, hn⟩ := h2
  obtain ⟨x, r, rfl, ht⟩ := mm_t1_some hs; clear hs; have hs := ht; clear ht
  have hx0 : mm_i32 x := hv.pop.1
  have cv := (mm_le mm_z0 hx0)
  rw [mm_of0] at cv
  by_cases hc : x < 0
  · rw [if_pos hc] at hs
    cases hs
    have k := K H locs L hP hS hL
    exact lv_if_ge hx hb hd (mm_tgt hn) (fun w => by first | exact k | exact absurd (cv.mp w) (by omega) | exact absurd (cv.mpr (by omega)) w) (fun w => by first | exact k | exact absurd (cv.mpr (by omega)) w | exact absurd (cv.mpr (by omega)) w | exact absurd w (fun z => by have := cv.mp z; omega))
  · rw [if_neg hc] at hs
    cases hs
    have k := K H locs L hP hS hL
    exact lv_if_ge hx hb hd (mm_tgt hn) (fun w => by first | exact k | exact absurd (cv.mp w) (by omega) | exact absurd (cv.mpr (by omega)) w) (fun w => by first | exact k | exact absurd (cv.mpr (by omega)) w | exact absurd w (fun z => by have := cv.mp z; omega))
theorem mm_sd_if_gt (X : mm_cx p s m args meth c g D cy q) {o : Int} (hd : decode (mm_b q) pc = .ok (.ifCond .gt o, len)) (h2 : mm_ck2 (pc, .ifCond .gt o, len, aux, val) = true) (hv : mm_vl ls st h) (hs : mm_st (pc, .ifCond .gt o, len, aux, val) ls st h = some (.inr (.inl s'))) (K : mm_G p l e d s m args below meth c g D cy Q s'.1 s'.2.1 s'.2.2.1 s'.2.2.2) : mm_G p l e d s m args below meth c g D cy Q pc ls st h := by
  simp only [mm_st, mm_F] at hs
  obtain ⟨hx, hb, -⟩ := X
  intro H locs L hP hS hL
  simp only [mm_ck2, Bool.and_eq_true, beq_iff_eq, decide_eq_true_eq] at h2
  obtain ⟨rfl, hn⟩ := h2
  obtain ⟨x, r, rfl, ht⟩ := mm_t1_some hs; clear hs; have hs := ht; clear ht
  have hx0 : mm_i32 x := hv.pop.1
  have cv := (mm_lt mm_z0 hx0)
  rw [mm_of0] at cv
  by_cases hc : 0 < x
  · rw [if_pos hc] at hs
    cases hs
    have k := K H locs L hP hS hL
    exact lv_if_gt hx hb hd (mm_tgt hn) (fun w => by first | exact k | exact absurd (cv.mp w) (by omega) | exact absurd (cv.mpr (by omega)) w) (fun w => by first | exact k | exact absurd (cv.mpr (by omega)) w | exact absurd (cv.mpr (by omega)) w | exact absurd w (fun z => by have := cv.mp z; omega))
  · rw [if_neg hc] at hs
    cases hs
    have k := K H locs L hP hS hL
    exact lv_if_gt hx hb hd (mm_tgt hn) (fun w => by first | exact k | exact absurd (cv.mp w) (by omega) | exact absurd (cv.mpr (by omega)) w) (fun w => by first | exact k | exact absurd (cv.mpr (by omega)) w | exact absurd w (fun z => by have := cv.mp z; omega))
theorem mm_sd_if_le (X : mm_cx p s m args meth c g D cy q) {o : Int} (hd : decode (mm_b q) pc = .ok (.ifCond .le o, len)) (h2 : mm_ck2 (pc, .ifCond .le o, len, aux, val) = true) (hv : mm_vl ls st h) (hs : mm_st (pc, .ifCond .le o, len, aux, val) ls st h = some (.inr (.inl s'))) (K : mm_G p l e d s m args below meth c g D cy Q s'.1 s'.2.1 s'.2.2.1 s'.2.2.2) : mm_G p l e d s m args below meth c g D cy Q pc ls st h := by
  simp only [mm_st, mm_F] at hs
  obtain ⟨hx, hb, -⟩ := X
  intro H locs L hP hS hL
  simp only [mm_ck2, Bool.and_eq_true, beq_iff_eq, decide_eq_true_eq] at h2
  obtain ⟨rfl, hn⟩ := h2
  obtain ⟨x, r, rfl, ht⟩ := mm_t1_some hs; clear hs; have hs := ht; clear ht
  have hx0 : mm_i32 x := hv.pop.1
  have cv := (mm_le hx0 mm_z0)
  rw [mm_of0] at cv
  by_cases hc : 0 < x
  · rw [if_pos hc] at hs
    cases hs
    have k := K H locs L hP hS hL
    exact lv_if_le hx hb hd (mm_tgt hn) (fun w => by first | exact k | exact absurd (cv.mp w) (by omega) | exact absurd (cv.mpr (by omega)) w) (fun w => by first | exact k | exact absurd (cv.mpr (by omega)) w | exact absurd (cv.mpr (by omega)) w | exact absurd w (fun z => by have := cv.mp z; omega))
  · rw [if_neg hc] at hs
    cases hs
    have k := K H locs L hP hS hL
    exact lv_if_le hx hb hd (mm_tgt hn) (fun w => by first | exact k | exact absurd (cv.mp w) (by omega) | exact absurd (cv.mpr (by omega)) w) (fun w => by first | exact k | exact absurd (cv.mpr (by omega)) w | exact absurd w (fun z => by have := cv.mp z; omega))
theorem mm_sd_icmp_eq (X : mm_cx p s m args meth c g D cy q) {o : Int} (hd : decode (mm_b q) pc = .ok (.if_icmp .eq o, len)) (h2 : mm_ck2 (pc, .if_icmp .eq o, len, aux, val) = true) (hv : mm_vl ls st h) (hs : mm_st (pc, .if_icmp .eq o, len, aux, val) ls st h = some (.inr (.inl s'))) (K : mm_G p l e d s m args below meth c g D cy Q s'.1 s'.2.1 s'.2.2.1 s'.2.2.2) : mm_G p l e d s m args below meth c g D cy Q pc ls st h := by
  simp only [mm_st, mm_F] at hs
  obtain ⟨hx, hb, -⟩ := X
  intro H locs L hP hS hL
  simp only [mm_ck2, Bool.and_eq_true, beq_iff_eq, decide_eq_true_eq] at h2
  obtain ⟨rfl, hn⟩ := h2
  obtain ⟨y, r, rfl, ht⟩ := mm_t1_some hs; clear hs; have hs := ht; clear ht
  obtain ⟨x, r, rfl, ht⟩ := mm_t1_some hs; clear hs; have hs := ht; clear ht
  have hy0 : mm_i32 y := hv.pop.1
  have hx0 : mm_i32 x := hv.pop.2.pop.1
  have cv := (mm_eq hx0 hy0)
  by_cases hc : x = y
  · rw [if_pos hc] at hs
    cases hs
    have k := K H locs L hP hS hL
    exact lv_icmp_eq hx hb hd (mm_tgt hn) (fun w => by first | exact k | exact absurd (cv.mp w) (by omega) | exact absurd (cv.mpr (by omega)) w) (fun w => by first | exact k | exact absurd (cv.mpr (by omega)) w | exact absurd w (fun z => by have := cv.mp z; omega))
  · rw [if_neg hc] at hs
    cases hs
    have k := K H locs L hP hS hL
    exact lv_icmp_eq hx hb hd (mm_tgt hn) (fun w => by first | exact k | exact absurd (cv.mp w) (by omega) | exact absurd (cv.mpr (by omega)) w) (fun w => by first | exact k | exact absurd (cv.mpr (by omega)) w | exact absurd w (fun z => by have := cv.mp z; omega))
theorem mm_sd_icmp_ne (X : mm_cx p s m args meth c g D cy q) {o : Int} (hd : decode (mm_b q) pc = .ok (.if_icmp .ne o, len)) (h2 : mm_ck2 (pc, .if_icmp .ne o, len, aux, val) = true) (hv : mm_vl ls st h) (hs : mm_st (pc, .if_icmp .ne o, len, aux, val) ls st h = some (.inr (.inl s'))) (K : mm_G p l e d s m args below meth c g D cy Q s'.1 s'.2.1 s'.2.2.1 s'.2.2.2) : mm_G p l e d s m args below meth c g D cy Q pc ls st h := by
  simp only [mm_st, mm_F] at hs
  obtain ⟨hx, hb, -⟩ := X
  intro H locs L hP hS hL
  simp only [mm_ck2, Bool.and_eq_true, beq_iff_eq, decide_eq_true_eq] at h2
  obtain ⟨rfl, hn⟩ := h2
  obtain ⟨y, r, rfl, ht⟩ := mm_t1_some hs; clear hs; have hs := ht; clear ht
  obtain ⟨x, r, rfl, ht⟩ := mm_t1_some hs; clear hs; have hs := ht; clear ht
  have hy0 : mm_i32 y := hv.pop.1
  have hx0 : mm_i32 x := hv.pop.2.pop.1
  have cv := (mm_eq hx0 hy0)
  by_cases hc : x = y
  · rw [if_pos hc] at hs
    cases hs
    have k := K H locs L hP hS hL
    exact lv_icmp_ne hx hb hd (mm_tgt hn) (fun w => by first | exact k | exact absurd (cv.mp w) (by omega) | exact absurd (cv.mpr (by omega)) w) (fun w => by first | exact k | exact absurd (cv.mpr (by omega)) w | exact absurd w (fun z => by have := cv.mp z; omega))
  · rw [if_neg hc] at hs
    cases hs
    have k := K H locs L hP hS hL
    exact lv_icmp_ne hx hb hd (mm_tgt hn) (fun w => by first | exact k | exact absurd (cv.mp w) (by omega) | exact absurd (cv.mpr (by omega)) w) (fun w => by first | exact k | exact absurd (cv.mpr (by omega)) w | exact absurd w (fun z => by have := cv.mp z; omega))
theorem mm_sd_icmp_lt (X : mm_cx p s m args meth c g D cy q) {o : Int} (hd : decode (mm_b q) pc = .ok (.if_icmp .lt o, len)) (h2 : mm_ck2 (pc, .if_icmp .lt o, len, aux, val) = true) (hv : mm_vl ls st h) (hs : mm_st (pc, .if_icmp .lt o, len, aux, val) ls st h = some (.inr (.inl s'))) (K : mm_G p l e d s m args below meth c g D cy Q s'.1 s'.2.1 s'.2.2.1 s'.2.2.2) : mm_G p l e d s m args below meth c g D cy Q pc ls st h := by
  simp only [mm_st, mm_F] at hs
  obtain ⟨hx, hb, -⟩ := X
  intro H locs L hP hS hL
  simp only [mm_ck2, Bool.and_eq_true, beq_iff_eq, decide_eq_true_eq] at h2
  obtain ⟨rfl, hn⟩ := h2
  obtain ⟨y, r, rfl, ht⟩ := mm_t1_some hs; clear hs; have hs := ht; clear ht
  obtain ⟨x, r, rfl, ht⟩ := mm_t1_some hs; clear hs; have hs := ht; clear ht
  have hy0 : mm_i32 y := hv.pop.1
  have hx0 : mm_i32 x := hv.pop.2.pop.1
  have cv := (mm_lt hx0 hy0)
  by_cases hc : x < y
  · rw [if_pos hc] at hs
    cases hs
    have k := K H locs L hP hS hL
    exact lv_icmp_lt hx hb hd (mm_tgt hn) (fun w => by first | exact k | exact absurd (cv.mp w) (by omega) | exact absurd (cv.mpr (by omega)) w) (fun w => by first | exact k | exact absurd (cv.mpr (by omega)) w | exact absurd w (fun z => by have := cv.mp z; omega))
  · rw [if_neg hc] at hs
    cases hs
    have k := K H locs L hP hS hL
    exact lv_icmp_lt hx hb hd (mm_tgt hn) (fun w => by first | exact k | exact absurd (cv.mp w) (by omega) | exact absurd (cv.mpr (by omega)) w) (fun w => by first | exact k | exact absurd (cv.mpr (by omega)) w | exact absurd w (fun z => by have := cv.mp z; omega))
theorem mm_sd_icmp_ge (X : mm_cx p s m args meth c g D cy q) {o : Int} (hd : decode (mm_b q) pc = .ok (.if_icmp .ge o, len)) (h2 : mm_ck2 (pc, .if_icmp .ge o, len, aux, val) = true) (hv : mm_vl ls st h) (hs : mm_st (pc, .if_icmp .ge o, len, aux, val) ls st h = some (.inr (.inl s'))) (K : mm_G p l e d s m args below meth c g D cy Q s'.1 s'.2.1 s'.2.2.1 s'.2.2.2) : mm_G p l e d s m args below meth c g D cy Q pc ls st h := by
  simp only [mm_st, mm_F] at hs
  obtain ⟨hx, hb, -⟩ := X
  intro H locs L hP hS hL
  simp only [mm_ck2, Bool.and_eq_true, beq_iff_eq, decide_eq_true_eq] at h2
  obtain ⟨rfl, hn⟩ := h2
  obtain ⟨y, r, rfl, ht⟩ := mm_t1_some hs; clear hs; have hs := ht; clear ht
  obtain ⟨x, r, rfl, ht⟩ := mm_t1_some hs; clear hs; have hs := ht; clear ht
  have hy0 : mm_i32 y := hv.pop.1
  have hx0 : mm_i32 x := hv.pop.2.pop.1
  have cv := (mm_le hy0 hx0)
  by_cases hc : x < y
  · rw [if_pos hc] at hs
    cases hs
    have k := K H locs L hP hS hL
    exact lv_icmp_ge hx hb hd (mm_tgt hn) (fun w => by first | exact k | exact absurd (cv.mp w) (by omega) | exact absurd (cv.mpr (by omega)) w) (fun w => by first | exact k | exact absurd (cv.mpr (by omega)) w | exact absurd w (fun z => by have := cv.mp z; omega))
  · rw [if_neg hc] at hs
    cases hs
    have k := K H locs L hP hS hL
    exact lv_icmp_ge hx hb hd (mm_tgt hn) (fun w => by first | exact k | exact absurd (cv.mp w) (by omega) | exact absurd (cv.mpr (by omega)) w) (fun w => by first | exact k | exact absurd (cv.mpr (by omega)) w | exact absurd w (fun z => by have := cv.mp z; omega))
theorem mm_sd_icmp_gt (X : mm_cx p s m args meth c g D cy q) {o : Int} (hd : decode (mm_b q) pc = .ok (.if_icmp .gt o, len)) (h2 : mm_ck2 (pc, .if_icmp .gt o, len, aux, val) = true) (hv : mm_vl ls st h) (hs : mm_st (pc, .if_icmp .gt o, len, aux, val) ls st h = some (.inr (.inl s'))) (K : mm_G p l e d s m args below meth c g D cy Q s'.1 s'.2.1 s'.2.2.1 s'.2.2.2) : mm_G p l e d s m args below meth c g D cy Q pc ls st h := by
  simp only [mm_st, mm_F] at hs
  obtain ⟨hx, hb, -⟩ := X
  intro H locs L hP hS hL
  simp only [mm_ck2, Bool.and_eq_true, beq_iff_eq, decide_eq_true_eq] at h2
  obtain ⟨rfl, hn⟩ := h2
  obtain ⟨y, r, rfl, ht⟩ := mm_t1_some hs; clear hs; have hs := ht; clear ht
  obtain ⟨x, r, rfl, ht⟩ := mm_t1_some hs; clear hs; have hs := ht; clear ht
  have hy0 : mm_i32 y := hv.pop.1
  have hx0 : mm_i32 x := hv.pop.2.pop.1
  have cv := (mm_lt hy0 hx0)
  by_cases hc : y < x
  · rw [if_pos hc] at hs
    cases hs
    have k := K H locs L hP hS hL
    exact lv_icmp_gt hx hb hd (mm_tgt hn) (fun w => by first | exact k | exact absurd (cv.mp w) (by omega) | exact absurd (cv.mpr (by omega)) w) (fun w => by first | exact k | exact absurd (cv.mpr (by omega)) w | exact absurd w (fun z => by have := cv.mp z; omega))
  · rw [if_neg hc] at hs
    cases hs
    have k := K H locs L hP hS hL
    exact lv_icmp_gt hx hb hd (mm_tgt hn) (fun w => by first | exact k | exact absurd (cv.mp w) (by omega) | exact absurd (cv.mpr (by omega)) w) (fun w => by first | exact k | exact absurd (cv.mpr (by omega)) w | exact absurd w (fun z => by have := cv.mp z; omega))
theorem mm_sd_icmp_le (X : mm_cx p s m args meth c g D cy q) {o : Int} (hd : decode (mm_b q) pc = .ok (.if_icmp .le o, len)) (h2 : mm_ck2 (pc, .if_icmp .le o, len, aux, val) = true) (hv : mm_vl ls st h) (hs : mm_st (pc, .if_icmp .le o, len, aux, val) ls st h = some (.inr (.inl s'))) (K : mm_G p l e d s m args below meth c g D cy Q s'.1 s'.2.1 s'.2.2.1 s'.2.2.2) : mm_G p l e d s m args below meth c g D cy Q pc ls st h := by
  simp only [mm_st, mm_F] at hs
  obtain ⟨hx, hb, -⟩ := X
  intro H locs L hP hS hL
  simp only [mm_ck2, Bool.and_eq_true, beq_iff_eq, decide_eq_true_eq] at h2
  obtain ⟨rfl, hn⟩ := h2
  obtain ⟨y, r, rfl, ht⟩ := mm_t1_some hs; clear hs; have hs := ht; clear ht
  obtain ⟨x, r, rfl, ht⟩ := mm_t1_some hs; clear hs; have hs := ht; clear ht
  have hy0 : mm_i32 y := hv.pop.1
  have hx0 : mm_i32 x := hv.pop.2.pop.1
  have cv := (mm_le hx0 hy0)
  by_cases hc : y < x
  · rw [if_pos hc] at hs
    cases hs
    have k := K H locs L hP hS hL
    exact lv_icmp_le hx hb hd (mm_tgt hn) (fun w => by first | exact k | exact absurd (cv.mp w) (by omega) | exact absurd (cv.mpr (by omega)) w) (fun w => by first | exact k | exact absurd (cv.mpr (by omega)) w | exact absurd w (fun z => by have := cv.mp z; omega))
  · rw [if_neg hc] at hs
    cases hs
    have k := K H locs L hP hS hL
    exact lv_icmp_le hx hb hd (mm_tgt hn) (fun w => by first | exact k | exact absurd (cv.mp w) (by omega) | exact absurd (cv.mpr (by omega)) w) (fun w => by first | exact k | exact absurd (cv.mpr (by omega)) w | exact absurd w (fun z => by have := cv.mp z; omega))
theorem mm_sd_acmp_eq (X : mm_cx p s m args meth c g D cy q) {o : Int} (hd : decode (mm_b q) pc = .ok (.if_acmp .eq o, len)) (h2 : mm_ck2 (pc, .if_acmp .eq o, len, aux, val) = true) (hv : mm_vl ls st h) (hs : mm_st (pc, .if_acmp .eq o, len, aux, val) ls st h = some (.inr (.inl s'))) (K : mm_G p l e d s m args below meth c g D cy Q s'.1 s'.2.1 s'.2.2.1 s'.2.2.2) : mm_G p l e d s m args below meth c g D cy Q pc ls st h := by
  simp only [mm_st, mm_F] at hs
  obtain ⟨hx, hb, -, -, -, -, -, -, -, -, hg⟩ := X
  intro H locs L hP hS hL
  simp only [mm_ck2, Bool.and_eq_true, beq_iff_eq, decide_eq_true_eq] at h2
  obtain ⟨rfl, hn⟩ := h2
  obtain ⟨y, r, rfl, ht⟩ := mm_t1_some hs; clear hs; have hs := ht; clear ht
  obtain ⟨x, r, rfl, ht⟩ := mm_t1_some hs; clear hs; have hs := ht; clear ht
  obtain ⟨hw, hs⟩ := mm_bf_some hs
  have hw : 0 ≤ y ∧ y < 36 := by simpa [mm_wr] using hw
  have cv : mm_wv g x = mm_wv g y ↔ x = y := by
    constructor
    · intro w
      unfold mm_wv at w
      rw [if_pos hw] at w
      split at w
      · rename_i hxr
        have := hg.2 _ _ (by omega) (by omega) (Option.some.inj w)
        omega
      · cases w
    · rintro rfl
      rfl
  by_cases hc : x = y
  · rw [if_pos hc] at hs
    cases hs
    have k := K H locs L hP hS hL
    exact lv_acmp_eq hx hb hd (mm_tgt hn) (fun w => by first | exact k | exact absurd (cv.mpr hc) w) (fun w => by first | exact k | exact absurd (cv.mpr hc) w)
  · rw [if_neg hc] at hs
    cases hs
    have k := K H locs L hP hS hL
    exact lv_acmp_eq hx hb hd (mm_tgt hn) (fun w => by first | exact k | exact absurd (cv.mp w) hc) (fun w => by first | exact k | exact absurd (cv.mp w) hc)
theorem mm_sd_acmp_ne (X : mm_cx p s m args meth c g D cy q) {o : Int} (hd : decode (mm_b q) pc = .ok (.if_acmp .ne o, len)) (h2 : mm_ck2 (pc, .if_acmp .ne o, len, aux, val) = true) (hv : mm_vl ls st h) (hs : mm_st (pc, .if_acmp .ne o, len, aux, val) ls st h = some (.inr (.inl s'))) (K : mm_G p l e d s m args below meth c g D cy Q s'.1 s'.2.1 s'.2.2.1 s'.2.2.2) : mm_G p l e d s m args below meth c g D cy Q pc ls st h := by
  simp only [mm_st, mm_F] at hs
  obtain ⟨hx, hb, -, -, -, -, -, -, -, -, hg⟩ := X
  intro H locs L hP hS hL
  simp only [mm_ck2, Bool.and_eq_true, beq_iff_eq, decide_eq_true_eq] at h2
  obtain ⟨rfl, hn⟩ := h2
  obtain ⟨y, r, rfl, ht⟩ := mm_t1_some hs; clear hs; have hs := ht; clear ht
  obtain ⟨x, r, rfl, ht⟩ := mm_t1_some hs; clear hs; have hs := ht; clear ht
  obtain ⟨hw, hs⟩ := mm_bf_some hs
  have hw : 0 ≤ y ∧ y < 36 := by simpa [mm_wr] using hw
  have cv : mm_wv g x = mm_wv g y ↔ x = y := by
    constructor
    · intro w
      unfold mm_wv at w
      rw [if_pos hw] at w
      split at w
      · rename_i hxr
        have := hg.2 _ _ (by omega) (by omega) (Option.some.inj w)
        omega
      · cases w
    · rintro rfl
      rfl
  by_cases hc : x = y
  · rw [if_pos hc] at hs
    cases hs
    have k := K H locs L hP hS hL
    exact lv_acmp_ne hx hb hd (mm_tgt hn) (fun w => by first | exact k | exact absurd (cv.mpr hc) w) (fun w => by first | exact k | exact absurd (cv.mpr hc) w)
  · rw [if_neg hc] at hs
    cases hs
    have k := K H locs L hP hS hL
    exact lv_acmp_ne hx hb hd (mm_tgt hn) (fun w => by first | exact k | exact absurd (cv.mp w) hc) (fun w => by first | exact k | exact absurd (cv.mp w) hc)
theorem mm_sd_tableswitch (X : mm_cx p s m args meth c g D cy q) {df lo hi : Int} {os : Array Int} (hd : decode (mm_b q) pc = .ok (.tableswitch df lo hi os, len)) (h2 : mm_ck2 (pc, .tableswitch df lo hi os, len, aux, val) = true) (hv : mm_vl ls st h) (hs : mm_st (pc, .tableswitch df lo hi os, len, aux, val) ls st h = some (.inr (.inl s'))) (K : mm_G p l e d s m args below meth c g D cy Q s'.1 s'.2.1 s'.2.2.1 s'.2.2.2) : mm_G p l e d s m args below meth c g D cy Q pc ls st h := by
  simp only [mm_st, mm_F] at hs
  obtain ⟨hx, hb, -⟩ := X
  intro H locs L hP hS hL
  simp only [mm_ck2, Bool.and_eq_true, List.all_eq_true, decide_eq_true_eq] at h2
  obtain ⟨⟨k1, k2⟩, k3⟩ := h2
  obtain ⟨x, r, rfl, ht⟩ := mm_t1_some hs; clear hs; have hs := ht; clear ht
  have hx0 : mm_i32 x := hv.pop.1
  rcases mm_sw_some hs with ⟨j, o, ho, hj, hs⟩ | ⟨hj, hs⟩
  · cases hs
    have hlt : j < os.toList.length := (List.getElem?_eq_some_iff.mp ho).1
    have hlt : j < os.size := by simpa using hlt
    refine lv_tableIn hx hb hd (off := o) (tgt := mm_tg pc o) (x := Int32.ofInt x) (by rw [mm_toI hx0]; omega) (by rw [mm_toI hx0]; omega) ?_ (mm_tgt (k2 o (List.mem_of_getElem? ho))) (K H locs L hP hS hL)
    rw [mm_toI hx0, show (x - lo).toNat = j by omega, ← Array.getElem?_toList]
    exact ho
  · cases hs
    refine lv_tableOut hx hb hd (tgt := mm_tg pc df) (x := Int32.ofInt x) ?_ (mm_tgt k1) (K H locs L hP hS hL)
    rw [mm_toI hx0]
    by_cases w : x < lo
    · exact Or.inl w
    · right
      by_cases w2 : x - lo < os.size
      · exact absurd (show x = lo + ((x - lo).toNat : Nat) by omega) (hj (x - lo).toNat (by simp; omega))
      · omega
theorem mm_sd_lookupswitch (X : mm_cx p s m args meth c g D cy q) {df : Int} {ps : Array (Int × Int)} (hd : decode (mm_b q) pc = .ok (.lookupswitch df ps, len)) (h2 : mm_ck2 (pc, .lookupswitch df ps, len, aux, val) = true) (hv : mm_vl ls st h) (hs : mm_st (pc, .lookupswitch df ps, len, aux, val) ls st h = some (.inr (.inl s'))) (K : mm_G p l e d s m args below meth c g D cy Q s'.1 s'.2.1 s'.2.2.1 s'.2.2.2) : mm_G p l e d s m args below meth c g D cy Q pc ls st h := by
  simp only [mm_st, mm_F] at hs
  obtain ⟨hx, hb, -⟩ := X
  intro H locs L hP hS hL
  simp only [mm_ck2, Bool.and_eq_true, decide_eq_true_eq] at h2
  obtain ⟨⟨k1, k2⟩, k3⟩ := h2
  obtain ⟨x, r, rfl, ht⟩ := mm_t1_some hs; clear hs; have hs := ht; clear ht
  have hx0 : mm_i32 x := hv.pop.1
  obtain ⟨hs, hq⟩ := mm_lk_some hs
  cases hs
  refine lv_lookup hx hb hd k3 (by rw [mm_toI hx0]) (mm_tgt ?_) (K H locs L hP hS hL)
  rcases hq with w | ⟨p9, hp9, w⟩
  · rw [w]
    exact k1
  · rw [w]
    have := List.all_eq_true.mp k2 p9 hp9
    simpa using this
end MS
end
