/-! Lengths, constants and targets of the rows -/
def mm_ln (i : Instr) : Nat := match i with
  | .bipush _ => 2
  | .ldc _ => 2
  | .iload _ => 2
  | .lload _ => 2
  | .aload _ => 2
  | .istore _ => 2
  | .lstore _ => 2
  | .astore _ => 2
  | .sipush _ => 3
  | .ldc_w _ => 3
  | .ldc2_w _ => 3
  | .iinc _ _ => 3
  | .goto _ => 3
  | .ifCond _ _ => 3
  | .if_icmp _ _ => 3
  | .if_acmp _ _ => 3
  | .ifnull _ => 3
  | .ifnonnull _ => 3
  | .getfield _ => 3
  | .putfield _ => 3
  | .getstatic _ => 3
  | .invokevirtual _ => 3
  | .invokestatic _ => 3
  | _ => 1
def mm_ck2 (e : mm_E) : Bool := match e.2.1 with
  | .tableswitch d lo hi os => decide (0 ≤ (e.1 : Int) + d) && os.toList.all (fun o => decide (0 ≤ (e.1 : Int) + o)) && decide (hi = lo + (os.size : Int) - 1)
  | .lookupswitch d ps => decide (0 ≤ (e.1 : Int) + d) && ps.toList.all (fun o => decide (0 ≤ (e.1 : Int) + o.2)) && (ps.toList.zip (ps.toList.drop 1)).all (fun (a, next) => a.1 < next.1)
  | .iconst n => e.2.2.1 == 1 && decide (-1 ≤ n ∧ n ≤ 5)
  | .bipush n => e.2.2.1 == 2 && decide (-128 ≤ n ∧ n < 128)
  | .sipush n => e.2.2.1 == 3 && decide (-32768 ≤ n ∧ n < 32768)
  | .goto o => e.2.2.1 == 3 && decide (0 ≤ (e.1 : Int) + o)
  | .ifCond _ o => e.2.2.1 == 3 && decide (0 ≤ (e.1 : Int) + o)
  | .if_icmp _ o => e.2.2.1 == 3 && decide (0 ≤ (e.1 : Int) + o)
  | .if_acmp _ o => e.2.2.1 == 3 && decide (0 ≤ (e.1 : Int) + o)
  | .ifnull o => e.2.2.1 == 3 && decide (0 ≤ (e.1 : Int) + o)
  | .ifnonnull o => e.2.2.1 == 3 && decide (0 ≤ (e.1 : Int) + o)
  | i => e.2.2.1 == mm_ln i
set_option maxRecDepth 100000 in
theorem mm_c2_0 : (mm_prog 0).1.all mm_ck2 = true := by show T_X0_readBook.all mm_ck2 = true; decide +kernel
set_option maxRecDepth 100000 in
theorem mm_c2_1 : (mm_prog 1).1.all mm_ck2 = true := by show T_X0_readLine.all mm_ck2 = true; decide +kernel
set_option maxRecDepth 100000 in
theorem mm_c2_2 : (mm_prog 2).1.all mm_ck2 = true := by show T_X0_isAct.all mm_ck2 = true; decide +kernel
set_option maxRecDepth 100000 in
theorem mm_c2_3 : (mm_prog 3).1.all mm_ck2 = true := by show T_X0_actOf.all mm_ck2 = true; decide +kernel
set_option maxRecDepth 100000 in
theorem mm_c2_4 : (mm_prog 4).1.all mm_ck2 = true := by show T_X0_readRelieve.all mm_ck2 = true; decide +kernel
set_option maxRecDepth 100000 in
theorem mm_c2_5 : (mm_prog 5).1.all mm_ck2 = true := by show T_X0_readWalk.all mm_ck2 = true; decide +kernel
set_option maxRecDepth 100000 in
theorem mm_c2_6 : (mm_prog 6).1.all mm_ck2 = true := by show T_X0_add.all mm_ck2 = true; decide +kernel
set_option maxRecDepth 100000 in
theorem mm_c2_7 : (mm_prog 7).1.all mm_ck2 = true := by show T_X0_live.all mm_ck2 = true; decide +kernel
set_option maxRecDepth 100000 in
theorem mm_c2_8 : (mm_prog 8).1.all mm_ck2 = true := by show T_X0_tell.all mm_ck2 = true; decide +kernel
set_option maxRecDepth 100000 in
theorem mm_c2_9 : (mm_prog 9).1.all mm_ck2 = true := by show T_X1_judge.all mm_ck2 = true; decide +kernel
set_option maxRecDepth 100000 in
theorem mm_c2_10 : (mm_prog 10).1.all mm_ck2 = true := by show T_X1_arePairs.all mm_ck2 = true; decide +kernel
set_option maxRecDepth 100000 in
theorem mm_c2_11 : (mm_prog 11).1.all mm_ck2 = true := by show T_X1_leavesRests.all mm_ck2 = true; decide +kernel
set_option maxRecDepth 100000 in
theorem mm_c2_12 : (mm_prog 12).1.all mm_ck2 = true := by show T_X1_keepBounds.all mm_ck2 = true; decide +kernel
set_option maxRecDepth 100000 in
theorem mm_c2_13 : (mm_prog 13).1.all mm_ck2 = true := by show T_X1_thingToLookAt.all mm_ck2 = true; decide +kernel
set_option maxRecDepth 100000 in
theorem mm_c2_14 : (mm_prog 14).1.all mm_ck2 = true := by show T_X1_mostLeftBy.all mm_ck2 = true; decide +kernel
set_option maxRecDepth 100000 in
theorem mm_c2_15 : (mm_prog 15).1.all mm_ck2 = true := by show T_X2_begin.all mm_ck2 = true; decide +kernel
set_option maxRecDepth 100000 in
theorem mm_c2_16 : (mm_prog 16).1.all mm_ck2 = true := by show T_X2_copyFrom.all mm_ck2 = true; decide +kernel
set_option maxRecDepth 100000 in
theorem mm_c2_17 : (mm_prog 17).1.all mm_ck2 = true := by show T_X2_isOut.all mm_ck2 = true; decide +kernel
set_option maxRecDepth 100000 in
theorem mm_c2_18 : (mm_prog 18).1.all mm_ck2 = true := by show T_X2_isDone.all mm_ck2 = true; decide +kernel
set_option maxRecDepth 100000 in
theorem mm_c2_19 : (mm_prog 19).1.all mm_ck2 = true := by show T_X2_secondsLeft.all mm_ck2 = true; decide +kernel
set_option maxRecDepth 100000 in
theorem mm_c2_20 : (mm_prog 20).1.all mm_ck2 = true := by show T_X2_doneWorks.all mm_ck2 = true; decide +kernel
set_option maxRecDepth 100000 in
theorem mm_c2_21 : (mm_prog 21).1.all mm_ck2 = true := by show T_X2_openWorks.all mm_ck2 = true; decide +kernel
set_option maxRecDepth 100000 in
theorem mm_c2_22 : (mm_prog 22).1.all mm_ck2 = true := by show T_X2_howWorkIs.all mm_ck2 = true; decide +kernel
set_option maxRecDepth 100000 in
theorem mm_c2_23 : (mm_prog 23).1.all mm_ck2 = true := by show T_X2_isBusy.all mm_ck2 = true; decide +kernel
set_option maxRecDepth 100000 in
theorem mm_c2_24 : (mm_prog 24).1.all mm_ck2 = true := by show T_X2_placeBehind.all mm_ck2 = true; decide +kernel
set_option maxRecDepth 100000 in
theorem mm_c2_25 : (mm_prog 25).1.all mm_ck2 = true := by show T_X2_somebodyWalksAt.all mm_ck2 = true; decide +kernel
set_option maxRecDepth 100000 in
theorem mm_c2_26 : (mm_prog 26).1.all mm_ck2 = true := by show T_X2_act.all mm_ck2 = true; decide +kernel
set_option maxRecDepth 100000 in
theorem mm_c2_27 : (mm_prog 27).1.all mm_ck2 = true := by show T_X2_takeFright.all mm_ck2 = true; decide +kernel
set_option maxRecDepth 100000 in
theorem mm_c2_28 : (mm_prog 28).1.all mm_ck2 = true := by show T_X2_takeCure.all mm_ck2 = true; decide +kernel
set_option maxRecDepth 100000 in
theorem mm_c2_29 : (mm_prog 29).1.all mm_ck2 = true := by show T_X2_takeFly.all mm_ck2 = true; decide +kernel
set_option maxRecDepth 100000 in
theorem mm_c2_30 : (mm_prog 30).1.all mm_ck2 = true := by show T_X2_changeBeater.all mm_ck2 = true; decide +kernel
set_option maxRecDepth 100000 in
theorem mm_c2_31 : (mm_prog 31).1.all mm_ck2 = true := by show T_X2_goOut.all mm_ck2 = true; decide +kernel
set_option maxRecDepth 100000 in
theorem mm_c2_32 : (mm_prog 32).1.all mm_ck2 = true := by show T_X2_comeIn.all mm_ck2 = true; decide +kernel
set_option maxRecDepth 100000 in
theorem mm_c2_33 : (mm_prog 33).1.all mm_ck2 = true := by show T_X2_passAll.all mm_ck2 = true; decide +kernel
set_option maxRecDepth 100000 in
theorem mm_c2_34 : (mm_prog 34).1.all mm_ck2 = true := by show T_X2_passSecond.all mm_ck2 = true; decide +kernel
set_option maxRecDepth 100000 in
theorem mm_c2_35 : (mm_prog 35).1.all mm_ck2 = true := by show T_X2_beat.all mm_ck2 = true; decide +kernel
set_option maxRecDepth 100000 in
theorem mm_c2_36 : (mm_prog 36).1.all mm_ck2 = true := by show T_X2_secondsTillDone.all mm_ck2 = true; decide +kernel
set_option maxRecDepth 100000 in
theorem mm_c2_37 : (mm_prog 37).1.all mm_ck2 = true := by show T_X2_secondsTillFree.all mm_ck2 = true; decide +kernel
set_option maxRecDepth 100000 in
theorem mm_c2_38 : (mm_prog 38).1.all mm_ck2 = true := by show T_X2_passDrawn.all mm_ck2 = true; decide +kernel
set_option maxRecDepth 100000 in
theorem mm_c2_39 : (mm_prog 39).1.all mm_ck2 = true := by show T_X2_passDrawnSecond.all mm_ck2 = true; decide +kernel
set_option maxRecDepth 100000 in
theorem mm_c2_40 : (mm_prog 40).1.all mm_ck2 = true := by show T_X2_leaveOrJoin.all mm_ck2 = true; decide +kernel
set_option maxRecDepth 100000 in
theorem mm_c2_41 : (mm_prog 41).1.all mm_ck2 = true := by show T_X2_stir.all mm_ck2 = true; decide +kernel
set_option maxRecDepth 100000 in
theorem mm_c2_42 : (mm_prog 42).1.all mm_ck2 = true := by show T_X2_drawOf.all mm_ck2 = true; decide +kernel
set_option maxRecDepth 100000 in
theorem mm_c2_43 : (mm_prog 43).1.all mm_ck2 = true := by show T_X2_votesBehindRound.all mm_ck2 = true; decide +kernel
set_option maxRecDepth 100000 in
theorem mm_c2_44 : (mm_prog 44).1.all mm_ck2 = true := by show T_X2_votesBehind.all mm_ck2 = true; decide +kernel
set_option maxRecDepth 100000 in
theorem mm_c2_45 : (mm_prog 45).1.all mm_ck2 = true := by show T_X2_willBeNear.all mm_ck2 = true; decide +kernel
set_option maxRecDepth 100000 in
theorem mm_c2_46 : (mm_prog 46).1.all mm_ck2 = true := by show T_X3_forget.all mm_ck2 = true; decide +kernel
set_option maxRecDepth 100000 in
theorem mm_c2_47 : (mm_prog 47).1.all mm_ck2 = true := by show T_X3_keep.all mm_ck2 = true; decide +kernel
set_option maxRecDepth 100000 in
theorem mm_c2_48 : (mm_prog 48).1.all mm_ck2 = true := by show T_X3_takeBack.all mm_ck2 = true; decide +kernel
set_option maxRecDepth 100000 in
theorem mm_c2_49 : (mm_prog 49).1.all mm_ck2 = true := by show T_X4_clear.all mm_ck2 = true; decide +kernel
set_option maxRecDepth 100000 in
theorem mm_c2_50 : (mm_prog 50).1.all mm_ck2 = true := by show T_X4_copyFrom.all mm_ck2 = true; decide +kernel
set_option maxRecDepth 100000 in
theorem mm_c2_51 : (mm_prog 51).1.all mm_ck2 = true := by show T_X4_has.all mm_ck2 = true; decide +kernel
set_option maxRecDepth 100000 in
theorem mm_c2_52 : (mm_prog 52).1.all mm_ck2 = true := by show T_X4_isFull.all mm_ck2 = true; decide +kernel
set_option maxRecDepth 100000 in
theorem mm_c2_53 : (mm_prog 53).1.all mm_ck2 = true := by show T_X4_beaters.all mm_ck2 = true; decide +kernel
set_option maxRecDepth 100000 in
theorem mm_c2_54 : (mm_prog 54).1.all mm_ck2 = true := by show T_X4_mayBeat.all mm_ck2 = true; decide +kernel
set_option maxRecDepth 100000 in
theorem mm_c2_55 : (mm_prog 55).1.all mm_ck2 = true := by show T_X4_gapOf.all mm_ck2 = true; decide +kernel
set_option maxRecDepth 100000 in
theorem mm_c2_56 : (mm_prog 56).1.all mm_ck2 = true := by show T_X4_addName.all mm_ck2 = true; decide +kernel
set_option maxRecDepth 100000 in
theorem mm_c2_57 : (mm_prog 57).1.all mm_ck2 = true := by show T_X4_nameOf.all mm_ck2 = true; decide +kernel
set_option maxRecDepth 100000 in
theorem mm_c2_58 : (mm_prog 58).1.all mm_ck2 = true := by show T_X4_numberOf.all mm_ck2 = true; decide +kernel
set_option maxRecDepth 100000 in
theorem mm_c2_59 : (mm_prog 59).1.all mm_ck2 = true := by show T_X4_knows.all mm_ck2 = true; decide +kernel
set_option maxRecDepth 100000 in
theorem mm_c2_60 : (mm_prog 60).1.all mm_ck2 = true := by show T_X4_placeOn.all mm_ck2 = true; decide +kernel
set_option maxRecDepth 100000 in
theorem mm_c2_61 : (mm_prog 61).1.all mm_ck2 = true := by show T_X5_countFor.all mm_ck2 = true; decide +kernel
set_option maxRecDepth 100000 in
theorem mm_c2_62 : (mm_prog 62).1.all mm_ck2 = true := by show T_X5_waysWithOneMore.all mm_ck2 = true; decide +kernel
set_option maxRecDepth 100000 in
theorem mm_c2_63 : (mm_prog 63).1.all mm_ck2 = true := by show T_X5_keepFirst.all mm_ck2 = true; decide +kernel
set_option maxRecDepth 100000 in
theorem mm_c2_64 : (mm_prog 64).1.all mm_ck2 = true := by show T_X5_leastBeater.all mm_ck2 = true; decide +kernel
set_option maxRecDepth 100000 in
theorem mm_c2_65 : (mm_prog 65).1.all mm_ck2 = true := by show T_X6_begin.all mm_ck2 = true; decide +kernel
set_option maxRecDepth 100000 in
theorem mm_c2_66 : (mm_prog 66).1.all mm_ck2 = true := by show T_X6_copyFrom.all mm_ck2 = true; decide +kernel
set_option maxRecDepth 100000 in
theorem mm_c2_67 : (mm_prog 67).1.all mm_ck2 = true := by show T_X7_clear.all mm_ck2 = true; decide +kernel
set_option maxRecDepth 100000 in
theorem mm_c2_68 : (mm_prog 68).1.all mm_ck2 = true := by show T_X7_isTold.all mm_ck2 = true; decide +kernel
set_option maxRecDepth 100000 in
theorem mm_c2_69 : (mm_prog 69).1.all mm_ck2 = true := by show T_X7_copyFrom.all mm_ck2 = true; decide +kernel
set_option maxRecDepth 100000 in
theorem mm_c2_70 : (mm_prog 70).1.all mm_ck2 = true := by show T_X7_readSentence.all mm_ck2 = true; decide +kernel
set_option maxRecDepth 100000 in
theorem mm_c2_71 : (mm_prog 71).1.all mm_ck2 = true := by show T_X7_readCond.all mm_ck2 = true; decide +kernel
set_option maxRecDepth 100000 in
theorem mm_c2_72 : (mm_prog 72).1.all mm_ck2 = true := by show T_X7_readAll.all mm_ck2 = true; decide +kernel
set_option maxRecDepth 100000 in
theorem mm_c2_73 : (mm_prog 73).1.all mm_ck2 = true := by show T_X7_readOne.all mm_ck2 = true; decide +kernel
set_option maxRecDepth 100000 in
theorem mm_c2_74 : (mm_prog 74).1.all mm_ck2 = true := by show T_X7_beginsOne.all mm_ck2 = true; decide +kernel
set_option maxRecDepth 100000 in
theorem mm_c2_75 : (mm_prog 75).1.all mm_ck2 = true := by show T_X7_isSign.all mm_ck2 = true; decide +kernel
set_option maxRecDepth 100000 in
theorem mm_c2_76 : (mm_prog 76).1.all mm_ck2 = true := by show T_X7_add.all mm_ck2 = true; decide +kernel
set_option maxRecDepth 100000 in
theorem mm_c2_77 : (mm_prog 77).1.all mm_ck2 = true := by show T_X7_holds.all mm_ck2 = true; decide +kernel
set_option maxRecDepth 100000 in
theorem mm_c2_78 : (mm_prog 78).1.all mm_ck2 = true := by show T_X7_holdsAlone.all mm_ck2 = true; decide +kernel
set_option maxRecDepth 100000 in
theorem mm_c2_79 : (mm_prog 79).1.all mm_ck2 = true := by show T_X7_measure.all mm_ck2 = true; decide +kernel
set_option maxRecDepth 100000 in
theorem mm_c2_80 : (mm_prog 80).1.all mm_ck2 = true := by show T_X7_compares.all mm_ck2 = true; decide +kernel
set_option maxRecDepth 100000 in
theorem mm_c2_81 : (mm_prog 81).1.all mm_ck2 = true := by show T_X8_append.all mm_ck2 = true; decide +kernel
set_option maxRecDepth 100000 in
theorem mm_c2_82 : (mm_prog 82).1.all mm_ck2 = true := by show T_X8_get.all mm_ck2 = true; decide +kernel
set_option maxRecDepth 100000 in
theorem mm_c2_83 : (mm_prog 83).1.all mm_ck2 = true := by show T_X8_beginText.all mm_ck2 = true; decide +kernel
set_option maxRecDepth 100000 in
theorem mm_c2_84 : (mm_prog 84).1.all mm_ck2 = true := by show T_X8_advance.all mm_ck2 = true; decide +kernel
set_option maxRecDepth 100000 in
theorem mm_c2_85 : (mm_prog 85).1.all mm_ck2 = true := by show T_X8_skipBlanks.all mm_ck2 = true; decide +kernel
set_option maxRecDepth 100000 in
theorem mm_c2_86 : (mm_prog 86).1.all mm_ck2 = true := by show T_X8_readToken.all mm_ck2 = true; decide +kernel
set_option maxRecDepth 100000 in
theorem mm_c2_87 : (mm_prog 87).1.all mm_ck2 = true := by show T_X11_imageAt.all mm_ck2 = true; decide +kernel
set_option maxRecDepth 100000 in
theorem mm_c2_88 : (mm_prog 88).1.all mm_ck2 = true := by show T_X8_readToken.all mm_ck2 = true; decide +kernel
set_option maxRecDepth 100000 in
theorem mm_c2_89 : (mm_prog 89).1.all mm_ck2 = true := by show T_X8_failAt.all mm_ck2 = true; decide +kernel
set_option maxRecDepth 100000 in
theorem mm_c2_90 : (mm_prog 90).1.all mm_ck2 = true := by show T_X8_fail.all mm_ck2 = true; decide +kernel
set_option maxRecDepth 100000 in
theorem mm_c2_91 : (mm_prog 91).1.all mm_ck2 = true := by show T_X8_take.all mm_ck2 = true; decide +kernel
set_option maxRecDepth 100000 in
theorem mm_c2_92 : (mm_prog 92).1.all mm_ck2 = true := by show T_X8_takeNumber.all mm_ck2 = true; decide +kernel
set_option maxRecDepth 100000 in
theorem mm_c2_93 : (mm_prog 93).1.all mm_ck2 = true := by show T_X8_takeOneOf.all mm_ck2 = true; decide +kernel
set_option maxRecDepth 100000 in
theorem mm_c2_94 : (mm_prog 94).1.all mm_ck2 = true := by show T_X9_readTown.all mm_ck2 = true; decide +kernel
set_option maxRecDepth 100000 in
theorem mm_c2_95 : (mm_prog 95).1.all mm_ck2 = true := by show T_X9_readLine.all mm_ck2 = true; decide +kernel
set_option maxRecDepth 100000 in
theorem mm_c2_96 : (mm_prog 96).1.all mm_ck2 = true := by show T_X9_readRing.all mm_ck2 = true; decide +kernel
set_option maxRecDepth 100000 in
theorem mm_c2_97 : (mm_prog 97).1.all mm_ck2 = true := by show T_X9_readGap.all mm_ck2 = true; decide +kernel
set_option maxRecDepth 100000 in
theorem mm_c2_98 : (mm_prog 98).1.all mm_ck2 = true := by show T_X9_readNewOne.all mm_ck2 = true; decide +kernel
set_option maxRecDepth 100000 in
theorem mm_c2_99 : (mm_prog 99).1.all mm_ck2 = true := by show T_X9_readCousin.all mm_ck2 = true; decide +kernel
set_option maxRecDepth 100000 in
theorem mm_c2_100 : (mm_prog 100).1.all mm_ck2 = true := by show T_X9_readPerson.all mm_ck2 = true; decide +kernel
set_option maxRecDepth 100000 in
theorem mm_c2_101 : (mm_prog 101).1.all mm_ck2 = true := by show T_X9_readWork.all mm_ck2 = true; decide +kernel
set_option maxRecDepth 100000 in
theorem mm_c2_102 : (mm_prog 102).1.all mm_ck2 = true := by show T_X9_readAfter.all mm_ck2 = true; decide +kernel
set_option maxRecDepth 100000 in
theorem mm_c2_103 : (mm_prog 103).1.all mm_ck2 = true := by show T_X9_readThing.all mm_ck2 = true; decide +kernel
set_option maxRecDepth 100000 in
theorem mm_c2_104 : (mm_prog 104).1.all mm_ck2 = true := by show T_X10_find.all mm_ck2 = true; decide +kernel
set_option maxRecDepth 100000 in
theorem mm_c2_105 : (mm_prog 105).1.all mm_ck2 = true := by show T_X11_feed.all mm_ck2 = true; decide +kernel
set_option maxRecDepth 100000 in
theorem mm_c2_106 : (mm_prog 106).1.all mm_ck2 = true := by show T_X11_end.all mm_ck2 = true; decide +kernel
set_option maxRecDepth 100000 in
theorem mm_c2_107 : (mm_prog 107).1.all mm_ck2 = true := by show T_X11_town.all mm_ck2 = true; decide +kernel
set_option maxRecDepth 100000 in
theorem mm_c2_108 : (mm_prog 108).1.all mm_ck2 = true := by show T_X11_fault.all mm_ck2 = true; decide +kernel
set_option maxRecDepth 100000 in
theorem mm_c2_109 : (mm_prog 109).1.all mm_ck2 = true := by show T_X11_work.all mm_ck2 = true; decide +kernel
set_option maxRecDepth 100000 in
theorem mm_c2_110 : (mm_prog 110).1.all mm_ck2 = true := by show T_X11_gap.all mm_ck2 = true; decide +kernel
set_option maxRecDepth 100000 in
theorem mm_c2_111 : (mm_prog 111).1.all mm_ck2 = true := by show T_X11_now.all mm_ck2 = true; decide +kernel
set_option maxRecDepth 100000 in
theorem mm_c2_112 : (mm_prog 112).1.all mm_ck2 = true := by show T_X11_fright.all mm_ck2 = true; decide +kernel
set_option maxRecDepth 100000 in
theorem mm_c2_113 : (mm_prog 113).1.all mm_ck2 = true := by show T_X11_cure.all mm_ck2 = true; decide +kernel
set_option maxRecDepth 100000 in
theorem mm_c2_114 : (mm_prog 114).1.all mm_ck2 = true := by show T_X11_fly.all mm_ck2 = true; decide +kernel
set_option maxRecDepth 100000 in
theorem mm_c2_115 : (mm_prog 115).1.all mm_ck2 = true := by show T_X11_relieve.all mm_ck2 = true; decide +kernel
set_option maxRecDepth 100000 in
theorem mm_c2_116 : (mm_prog 116).1.all mm_ck2 = true := by show T_X11_leave.all mm_ck2 = true; decide +kernel
set_option maxRecDepth 100000 in
theorem mm_c2_117 : (mm_prog 117).1.all mm_ck2 = true := by show T_X11_join.all mm_ck2 = true; decide +kernel
set_option maxRecDepth 100000 in
theorem mm_c2_118 : (mm_prog 118).1.all mm_ck2 = true := by show T_X11_seconds.all mm_ck2 = true; decide +kernel
set_option maxRecDepth 100000 in
theorem mm_c2_119 : (mm_prog 119).1.all mm_ck2 = true := by show T_X11_undo.all mm_ck2 = true; decide +kernel
set_option maxRecDepth 100000 in
theorem mm_c2_120 : (mm_prog 120).1.all mm_ck2 = true := by show T_X11_at.all mm_ck2 = true; decide +kernel
set_option maxRecDepth 100000 in
theorem mm_c2_121 : (mm_prog 121).1.all mm_ck2 = true := by show T_X11_meet.all mm_ck2 = true; decide +kernel
set_option maxRecDepth 100000 in
theorem mm_c2_122 : (mm_prog 122).1.all mm_ck2 = true := by show T_X11_when.all mm_ck2 = true; decide +kernel
set_option maxRecDepth 100000 in
theorem mm_c2_123 : (mm_prog 123).1.all mm_ck2 = true := by show T_X11_once.all mm_ck2 = true; decide +kernel
set_option maxRecDepth 100000 in
theorem mm_c2_124 : (mm_prog 124).1.all mm_ck2 = true := by show T_X11_stood.all mm_ck2 = true; decide +kernel
set_option maxRecDepth 100000 in
theorem mm_c2_125 : (mm_prog 125).1.all mm_ck2 = true := by show T_X11_stoodLeast.all mm_ck2 = true; decide +kernel
set_option maxRecDepth 100000 in
theorem mm_c2_126 : (mm_prog 126).1.all mm_ck2 = true := by show T_X11_stoodMost.all mm_ck2 = true; decide +kernel
set_option maxRecDepth 100000 in
theorem mm_c2_127 : (mm_prog 127).1.all mm_ck2 = true := by show T_X11_next.all mm_ck2 = true; decide +kernel
set_option maxRecDepth 100000 in
theorem mm_c2_128 : (mm_prog 128).1.all mm_ck2 = true := by show T_X11_rows.all mm_ck2 = true; decide +kernel
set_option maxRecDepth 100000 in
theorem mm_c2_129 : (mm_prog 129).1.all mm_ck2 = true := by show T_X11_rowAt.all mm_ck2 = true; decide +kernel
set_option maxRecDepth 100000 in
theorem mm_c2_130 : (mm_prog 130).1.all mm_ck2 = true := by show T_X11_swift.all mm_ck2 = true; decide +kernel
set_option maxRecDepth 100000 in
theorem mm_c2_131 : (mm_prog 131).1.all mm_ck2 = true := by show T_X11_joins.all mm_ck2 = true; decide +kernel
set_option maxRecDepth 100000 in
theorem mm_c2_132 : (mm_prog 132).1.all mm_ck2 = true := by show T_X11_vote.all mm_ck2 = true; decide +kernel
set_option maxRecDepth 100000 in
theorem mm_c2_133 : (mm_prog 133).1.all mm_ck2 = true := by show T_X11_voted.all mm_ck2 = true; decide +kernel
set_option maxRecDepth 100000 in
theorem mm_c2_134 : (mm_prog 134).1.all mm_ck2 = true := by show T_X11_tag.all mm_ck2 = true; decide +kernel
set_option maxRecDepth 100000 in
theorem mm_c2_135 : (mm_prog 135).1.all mm_ck2 = true := by show T_X11_byteAt.all mm_ck2 = true; decide +kernel
set_option maxRecDepth 100000 in
theorem mm_c2_136 : (mm_prog 136).1.all mm_ck2 = true := by show T_X11_drawn.all mm_ck2 = true; decide +kernel
set_option maxRecDepth 100000 in
theorem mm_c2_137 : (mm_prog 137).1.all mm_ck2 = true := by show T_X11_odds.all mm_ck2 = true; decide +kernel
set_option maxRecDepth 100000 in
theorem mm_c2_138 : (mm_prog 138).1.all mm_ck2 = true := by show T_X11_book.all mm_ck2 = true; decide +kernel
set_option maxRecDepth 100000 in
theorem mm_c2_139 : (mm_prog 139).1.all mm_ck2 = true := by show T_X11_told.all mm_ck2 = true; decide +kernel
set_option maxRecDepth 100000 in
theorem mm_c2_140 : (mm_prog 140).1.all mm_ck2 = true := by show T_X11_sentence.all mm_ck2 = true; decide +kernel
set_option maxRecDepth 100000 in
theorem mm_c2_141 : (mm_prog 141).1.all mm_ck2 = true := by show T_X11_said.all mm_ck2 = true; decide +kernel
set_option maxRecDepth 100000 in
theorem mm_c2_142 : (mm_prog 142).1.all mm_ck2 = true := by show T_X11_image.all mm_ck2 = true; decide +kernel
set_option maxRecDepth 100000 in
theorem mm_c2_143 : (mm_prog 143).1.all mm_ck2 = true := by show T_X11_restore.all mm_ck2 = true; decide +kernel
set_option maxRecDepth 100000 in
theorem mm_c2_144 : (mm_prog 144).1.all mm_ck2 = true := by show T_X11_count.all mm_ck2 = true; decide +kernel
set_option maxRecDepth 100000 in
theorem mm_c2_145 : (mm_prog 145).1.all mm_ck2 = true := by show T_X11_endText.all mm_ck2 = true; decide +kernel
set_option maxRecDepth 100000 in
theorem mm_c2_146 : (mm_prog 146).1.all mm_ck2 = true := by show T_X11_actKept.all mm_ck2 = true; decide +kernel
set_option maxRecDepth 100000 in
theorem mm_c2_147 : (mm_prog 147).1.all mm_ck2 = true := by show T_X11_keepBefore.all mm_ck2 = true; decide +kernel
set_option maxRecDepth 100000 in
theorem mm_c2_148 : (mm_prog 148).1.all mm_ck2 = true := by show T_X11_tagByte.all mm_ck2 = true; decide +kernel
set_option maxRecDepth 100000 in
theorem mm_c2_149 : (mm_prog 149).1.all mm_ck2 = true := by show T_X11_tagName.all mm_ck2 = true; decide +kernel
set_option maxRecDepth 100000 in
theorem mm_c2_150 : (mm_prog 150).1.all mm_ck2 = true := by show T_X11_tagText.all mm_ck2 = true; decide +kernel
set_option maxRecDepth 100000 in
theorem mm_c2_151 : (mm_prog 151).1.all mm_ck2 = true := by show T_X11_tagNumber.all mm_ck2 = true; decide +kernel
set_option maxRecDepth 100000 in
theorem mm_c2_152 : (mm_prog 152).1.all mm_ck2 = true := by show T_X11_hasBit.all mm_ck2 = true; decide +kernel
set_option maxRecDepth 100000 in
theorem mm_c2_153 : (mm_prog 153).1.all mm_ck2 = true := by show T_X11_remainder.all mm_ck2 = true; decide +kernel
set_option maxRecDepth 100000 in
theorem mm_c2_154 : (mm_prog 154).1.all mm_ck2 = true := by show T_X12_thrown.all mm_ck2 = true; decide +kernel
set_option maxRecDepth 100000 in
theorem mm_c2_155 : (mm_prog 155).1.all mm_ck2 = true := by show T_X12_refuse.all mm_ck2 = true; decide +kernel
set_option maxRecDepth 100000 in
theorem mm_c2_156 : (mm_prog 156).1.all mm_ck2 = true := by show T_X12_come.all mm_ck2 = true; decide +kernel
set_option maxRecDepth 100000 in
theorem mm_c2_157 : (mm_prog 157).1.all mm_ck2 = true := by show T_X12_feed.all mm_ck2 = true; decide +kernel
set_option maxRecDepth 100000 in
theorem mm_c2_158 : (mm_prog 158).1.all mm_ck2 = true := by show T_X12_end.all mm_ck2 = true; decide +kernel
set_option maxRecDepth 100000 in
theorem mm_c2_159 : (mm_prog 159).1.all mm_ck2 = true := by show T_X12_take.all mm_ck2 = true; decide +kernel
set_option maxRecDepth 100000 in
theorem mm_c2_160 : (mm_prog 160).1.all mm_ck2 = true := by show T_X12_isIn.all mm_ck2 = true; decide +kernel
set_option maxRecDepth 100000 in
theorem mm_c2_161 : (mm_prog 161).1.all mm_ck2 = true := by show T_X12_has.all mm_ck2 = true; decide +kernel
set_option maxRecDepth 100000 in
theorem mm_c2_162 : (mm_prog 162).1.all mm_ck2 = true := by show T_X12_least.all mm_ck2 = true; decide +kernel
set_option maxRecDepth 100000 in
theorem mm_c2_163 : (mm_prog 163).1.all mm_ck2 = true := by show T_X12_size.all mm_ck2 = true; decide +kernel
set_option maxRecDepth 100000 in
theorem mm_c2_164 : (mm_prog 164).1.all mm_ck2 = true := by show T_X12_common.all mm_ck2 = true; decide +kernel
set_option maxRecDepth 100000 in
theorem mm_c2_165 : (mm_prog 165).1.all mm_ck2 = true := by show T_X12_tapeAt.all mm_ck2 = true; decide +kernel
set_option maxRecDepth 100000 in
theorem mm_c2_166 : (mm_prog 166).1.all mm_ck2 = true := by show T_X12_isDigit.all mm_ck2 = true; decide +kernel
set_option maxRecDepth 100000 in
theorem mm_c2_167 : (mm_prog 167).1.all mm_ck2 = true := by show T_X12_isLetter.all mm_ck2 = true; decide +kernel
set_option maxRecDepth 100000 in
theorem mm_c2_168 : (mm_prog 168).1.all mm_ck2 = true := by show T_X12_go.all mm_ck2 = true; decide +kernel
set_option maxRecDepth 100000 in
theorem mm_c2_169 : (mm_prog 169).1.all mm_ck2 = true := by show T_X12_spelt.all mm_ck2 = true; decide +kernel
set_option maxRecDepth 100000 in
theorem mm_c2_170 : (mm_prog 170).1.all mm_ck2 = true := by show T_X12_wordOf.all mm_ck2 = true; decide +kernel
set_option maxRecDepth 100000 in
theorem mm_c2_171 : (mm_prog 171).1.all mm_ck2 = true := by show T_X12_isWord.all mm_ck2 = true; decide +kernel
set_option maxRecDepth 100000 in
theorem mm_c2_172 : (mm_prog 172).1.all mm_ck2 = true := by show T_X12_isSign.all mm_ck2 = true; decide +kernel
set_option maxRecDepth 100000 in
theorem mm_c2_173 : (mm_prog 173).1.all mm_ck2 = true := by show T_X12_isName.all mm_ck2 = true; decide +kernel
set_option maxRecDepth 100000 in
theorem mm_c2_174 : (mm_prog 174).1.all mm_ck2 = true := by show T_X12_bad.all mm_ck2 = true; decide +kernel
set_option maxRecDepth 100000 in
theorem mm_c2_175 : (mm_prog 175).1.all mm_ck2 = true := by show T_X12_readNumber.all mm_ck2 = true; decide +kernel
set_option maxRecDepth 100000 in
theorem mm_c2_176 : (mm_prog 176).1.all mm_ck2 = true := by show T_X12_readEnd.all mm_ck2 = true; decide +kernel
set_option maxRecDepth 100000 in
theorem mm_c2_177 : (mm_prog 177).1.all mm_ck2 = true := by show T_X12_begin.all mm_ck2 = true; decide +kernel
set_option maxRecDepth 100000 in
theorem mm_c2_178 : (mm_prog 178).1.all mm_ck2 = true := by show T_X12_startRead.all mm_ck2 = true; decide +kernel
set_option maxRecDepth 100000 in
theorem mm_c2_179 : (mm_prog 179).1.all mm_ck2 = true := by show T_X12_startSo.all mm_ck2 = true; decide +kernel
set_option maxRecDepth 100000 in
theorem mm_c2_180 : (mm_prog 180).1.all mm_ck2 = true := by show T_X12_findIn.all mm_ck2 = true; decide +kernel
set_option maxRecDepth 100000 in
theorem mm_c2_181 : (mm_prog 181).1.all mm_ck2 = true := by show T_X12_isTaken.all mm_ck2 = true; decide +kernel
set_option maxRecDepth 100000 in
theorem mm_c2_182 : (mm_prog 182).1.all mm_ck2 = true := by show T_X12_readNew.all mm_ck2 = true; decide +kernel
set_option maxRecDepth 100000 in
theorem mm_c2_183 : (mm_prog 183).1.all mm_ck2 = true := by show T_X12_readFirst.all mm_ck2 = true; decide +kernel
set_option maxRecDepth 100000 in
theorem mm_c2_184 : (mm_prog 184).1.all mm_ck2 = true := by show T_X12_put.all mm_ck2 = true; decide +kernel
set_option maxRecDepth 100000 in
theorem mm_c2_185 : (mm_prog 185).1.all mm_ck2 = true := by show T_X12_isFresh.all mm_ck2 = true; decide +kernel
set_option maxRecDepth 100000 in
theorem mm_c2_186 : (mm_prog 186).1.all mm_ck2 = true := by show T_X12_readRing.all mm_ck2 = true; decide +kernel
set_option maxRecDepth 100000 in
theorem mm_c2_187 : (mm_prog 187).1.all mm_ck2 = true := by show T_X12_readCousin.all mm_ck2 = true; decide +kernel
set_option maxRecDepth 100000 in
theorem mm_c2_188 : (mm_prog 188).1.all mm_ck2 = true := by show T_X12_readPlace.all mm_ck2 = true; decide +kernel
set_option maxRecDepth 100000 in
theorem mm_c2_189 : (mm_prog 189).1.all mm_ck2 = true := by show T_X12_readPerson.all mm_ck2 = true; decide +kernel
set_option maxRecDepth 100000 in
theorem mm_c2_190 : (mm_prog 190).1.all mm_ck2 = true := by show T_X12_readWork.all mm_ck2 = true; decide +kernel
set_option maxRecDepth 100000 in
theorem mm_c2_191 : (mm_prog 191).1.all mm_ck2 = true := by show T_X12_isWorkHere.all mm_ck2 = true; decide +kernel
set_option maxRecDepth 100000 in
theorem mm_c2_192 : (mm_prog 192).1.all mm_ck2 = true := by show T_X12_readAfter.all mm_ck2 = true; decide +kernel
set_option maxRecDepth 100000 in
theorem mm_c2_193 : (mm_prog 193).1.all mm_ck2 = true := by show T_X12_readThing.all mm_ck2 = true; decide +kernel
set_option maxRecDepth 100000 in
theorem mm_c2_194 : (mm_prog 194).1.all mm_ck2 = true := by show T_X12_readLine.all mm_ck2 = true; decide +kernel
set_option maxRecDepth 100000 in
theorem mm_c2_195 : (mm_prog 195).1.all mm_ck2 = true := by show T_X12_town.all mm_ck2 = true; decide +kernel
set_option maxRecDepth 100000 in
theorem mm_c2_196 : (mm_prog 196).1.all mm_ck2 = true := by show T_X12_fault.all mm_ck2 = true; decide +kernel
set_option maxRecDepth 100000 in
theorem mm_c2_197 : (mm_prog 197).1.all mm_ck2 = true := by show T_X12_isBeater.all mm_ck2 = true; decide +kernel
set_option maxRecDepth 100000 in
theorem mm_c2_198 : (mm_prog 198).1.all mm_ck2 = true := by show T_X12_isPerson.all mm_ck2 = true; decide +kernel
set_option maxRecDepth 100000 in
theorem mm_c2_199 : (mm_prog 199).1.all mm_ck2 = true := by show T_X12_isWork.all mm_ck2 = true; decide +kernel
set_option maxRecDepth 100000 in
theorem mm_c2_200 : (mm_prog 200).1.all mm_ck2 = true := by show T_X12_isOut.all mm_ck2 = true; decide +kernel
set_option maxRecDepth 100000 in
theorem mm_c2_201 : (mm_prog 201).1.all mm_ck2 = true := by show T_X12_isStanding.all mm_ck2 = true; decide +kernel
set_option maxRecDepth 100000 in
theorem mm_c2_202 : (mm_prog 202).1.all mm_ck2 = true := by show T_X12_doneWorks.all mm_ck2 = true; decide +kernel
set_option maxRecDepth 100000 in
theorem mm_c2_203 : (mm_prog 203).1.all mm_ck2 = true := by show T_X12_openWorks.all mm_ck2 = true; decide +kernel
set_option maxRecDepth 100000 in
theorem mm_c2_204 : (mm_prog 204).1.all mm_ck2 = true := by show T_X12_isBusy.all mm_ck2 = true; decide +kernel
set_option maxRecDepth 100000 in
theorem mm_c2_205 : (mm_prog 205).1.all mm_ck2 = true := by show T_X12_person.all mm_ck2 = true; decide +kernel
set_option maxRecDepth 100000 in
theorem mm_c2_206 : (mm_prog 206).1.all mm_ck2 = true := by show T_X12_work.all mm_ck2 = true; decide +kernel
set_option maxRecDepth 100000 in
theorem mm_c2_207 : (mm_prog 207).1.all mm_ck2 = true := by show T_X12_gap.all mm_ck2 = true; decide +kernel
set_option maxRecDepth 100000 in
theorem mm_c2_208 : (mm_prog 208).1.all mm_ck2 = true := by show T_X12_now.all mm_ck2 = true; decide +kernel
set_option maxRecDepth 100000 in
theorem mm_c2_209 : (mm_prog 209).1.all mm_ck2 = true := by show T_X12_snap.all mm_ck2 = true; decide +kernel
set_option maxRecDepth 100000 in
theorem mm_c2_210 : (mm_prog 210).1.all mm_ck2 = true := by show T_X12_isCrowded.all mm_ck2 = true; decide +kernel
set_option maxRecDepth 100000 in
theorem mm_c2_211 : (mm_prog 211).1.all mm_ck2 = true := by show T_X12_why.all mm_ck2 = true; decide +kernel
set_option maxRecDepth 100000 in
theorem mm_c2_212 : (mm_prog 212).1.all mm_ck2 = true := by show T_X12_relieved.all mm_ck2 = true; decide +kernel
set_option maxRecDepth 100000 in
theorem mm_c2_213 : (mm_prog 213).1.all mm_ck2 = true := by show T_X12_live.all mm_ck2 = true; decide +kernel
set_option maxRecDepth 100000 in
theorem mm_c2_214 : (mm_prog 214).1.all mm_ck2 = true := by show T_X12_act.all mm_ck2 = true; decide +kernel
set_option maxRecDepth 100000 in
theorem mm_c2_215 : (mm_prog 215).1.all mm_ck2 = true := by show T_X12_fright.all mm_ck2 = true; decide +kernel
set_option maxRecDepth 100000 in
theorem mm_c2_216 : (mm_prog 216).1.all mm_ck2 = true := by show T_X12_cure.all mm_ck2 = true; decide +kernel
set_option maxRecDepth 100000 in
theorem mm_c2_217 : (mm_prog 217).1.all mm_ck2 = true := by show T_X12_fly.all mm_ck2 = true; decide +kernel
set_option maxRecDepth 100000 in
theorem mm_c2_218 : (mm_prog 218).1.all mm_ck2 = true := by show T_X12_relieve.all mm_ck2 = true; decide +kernel
set_option maxRecDepth 100000 in
theorem mm_c2_219 : (mm_prog 219).1.all mm_ck2 = true := by show T_X12_leave.all mm_ck2 = true; decide +kernel
set_option maxRecDepth 100000 in
theorem mm_c2_220 : (mm_prog 220).1.all mm_ck2 = true := by show T_X12_join.all mm_ck2 = true; decide +kernel
set_option maxRecDepth 100000 in
theorem mm_c2_221 : (mm_prog 221).1.all mm_ck2 = true := by show T_X12_undo.all mm_ck2 = true; decide +kernel
set_option maxRecDepth 100000 in
theorem mm_c2_222 : (mm_prog 222).1.all mm_ck2 = true := by show T_X12_beat.all mm_ck2 = true; decide +kernel
set_option maxRecDepth 100000 in
theorem mm_c2_223 : (mm_prog 223).1.all mm_ck2 = true := by show T_X12_oneSecond.all mm_ck2 = true; decide +kernel
set_option maxRecDepth 100000 in
theorem mm_c2_224 : (mm_prog 224).1.all mm_ck2 = true := by show T_X12_passSeconds.all mm_ck2 = true; decide +kernel
set_option maxRecDepth 100000 in
theorem mm_c2_225 : (mm_prog 225).1.all mm_ck2 = true := by show T_X12_seconds.all mm_ck2 = true; decide +kernel
set_option maxRecDepth 100000 in
theorem mm_c2_226 : (mm_prog 226).1.all mm_ck2 = true := by show T_X12_placeBehind.all mm_ck2 = true; decide +kernel
set_option maxRecDepth 100000 in
theorem mm_c2_227 : (mm_prog 227).1.all mm_ck2 = true := by show T_X12_at.all mm_ck2 = true; decide +kernel
set_option maxRecDepth 100000 in
theorem mm_c2_228 : (mm_prog 228).1.all mm_ck2 = true := by show T_X12_meet.all mm_ck2 = true; decide +kernel
set_option maxRecDepth 100000 in
theorem mm_c2_229 : (mm_prog 229).1.all mm_ck2 = true := by show T_X12_layAside.all mm_ck2 = true; decide +kernel
set_option maxRecDepth 100000 in
theorem mm_c2_230 : (mm_prog 230).1.all mm_ck2 = true := by show T_X12_takeBack.all mm_ck2 = true; decide +kernel
set_option maxRecDepth 100000 in
theorem mm_c2_231 : (mm_prog 231).1.all mm_ck2 = true := by show T_X12_doneBy.all mm_ck2 = true; decide +kernel
set_option maxRecDepth 100000 in
theorem mm_c2_232 : (mm_prog 232).1.all mm_ck2 = true := by show T_X12_when.all mm_ck2 = true; decide +kernel
set_option maxRecDepth 100000 in
theorem mm_c2_233 : (mm_prog 233).1.all mm_ck2 = true := by show T_X12_swift.all mm_ck2 = true; decide +kernel
set_option maxRecDepth 100000 in
theorem mm_c2_234 : (mm_prog 234).1.all mm_ck2 = true := by show T_X12_joins.all mm_ck2 = true; decide +kernel
set_option maxRecDepth 100000 in
theorem mm_c2_235 : (mm_prog 235).1.all mm_ck2 = true := by show T_X12_once.all mm_ck2 = true; decide +kernel
set_option maxRecDepth 100000 in
theorem mm_c2_236 : (mm_prog 236).1.all mm_ck2 = true := by show T_X12_hasStood.all mm_ck2 = true; decide +kernel
set_option maxRecDepth 100000 in
theorem mm_c2_237 : (mm_prog 237).1.all mm_ck2 = true := by show T_X12_leftBy.all mm_ck2 = true; decide +kernel
set_option maxRecDepth 100000 in
theorem mm_c2_238 : (mm_prog 238).1.all mm_ck2 = true := by show T_X12_stood.all mm_ck2 = true; decide +kernel
set_option maxRecDepth 100000 in
theorem mm_c2_239 : (mm_prog 239).1.all mm_ck2 = true := by show T_X12_stoodLeast.all mm_ck2 = true; decide +kernel
set_option maxRecDepth 100000 in
theorem mm_c2_240 : (mm_prog 240).1.all mm_ck2 = true := by show T_X12_stoodMost.all mm_ck2 = true; decide +kernel
set_option maxRecDepth 100000 in
theorem mm_c2_241 : (mm_prog 241).1.all mm_ck2 = true := by show T_X12_next.all mm_ck2 = true; decide +kernel
set_option maxRecDepth 100000 in
theorem mm_c2_242 : (mm_prog 242).1.all mm_ck2 = true := by show T_X12_rowsOf.all mm_ck2 = true; decide +kernel
set_option maxRecDepth 100000 in
theorem mm_c2_243 : (mm_prog 243).1.all mm_ck2 = true := by show T_X12_layRows.all mm_ck2 = true; decide +kernel
set_option maxRecDepth 100000 in
theorem mm_c2_244 : (mm_prog 244).1.all mm_ck2 = true := by show T_X12_rows.all mm_ck2 = true; decide +kernel
set_option maxRecDepth 100000 in
theorem mm_c2_245 : (mm_prog 245).1.all mm_ck2 = true := by show T_X12_rowAt.all mm_ck2 = true; decide +kernel
set_option maxRecDepth 100000 in
theorem mm_c2_246 : (mm_prog 246).1.all mm_ck2 = true := by show T_X12_areNear.all mm_ck2 = true; decide +kernel
set_option maxRecDepth 100000 in
theorem mm_c2_247 : (mm_prog 247).1.all mm_ck2 = true := by show T_X12_isFor.all mm_ck2 = true; decide +kernel
set_option maxRecDepth 100000 in
theorem mm_c2_248 : (mm_prog 248).1.all mm_ck2 = true := by show T_X12_vote.all mm_ck2 = true; decide +kernel
set_option maxRecDepth 100000 in
theorem mm_c2_249 : (mm_prog 249).1.all mm_ck2 = true := by show T_X12_voted.all mm_ck2 = true; decide +kernel
set_option maxRecDepth 100000 in
theorem mm_c2_250 : (mm_prog 250).1.all mm_ck2 = true := by show T_X12_write.all mm_ck2 = true; decide +kernel
set_option maxRecDepth 100000 in
theorem mm_c2_251 : (mm_prog 251).1.all mm_ck2 = true := by show T_X12_writeWord.all mm_ck2 = true; decide +kernel
set_option maxRecDepth 100000 in
theorem mm_c2_252 : (mm_prog 252).1.all mm_ck2 = true := by show T_X12_writeNumber.all mm_ck2 = true; decide +kernel
set_option maxRecDepth 100000 in
theorem mm_c2_253 : (mm_prog 253).1.all mm_ck2 = true := by show T_X12_writeNext.all mm_ck2 = true; decide +kernel
set_option maxRecDepth 100000 in
theorem mm_c2_254 : (mm_prog 254).1.all mm_ck2 = true := by show T_X12_tag.all mm_ck2 = true; decide +kernel
set_option maxRecDepth 100000 in
theorem mm_c2_255 : (mm_prog 255).1.all mm_ck2 = true := by show T_X12_byteAt.all mm_ck2 = true; decide +kernel
set_option maxRecDepth 100000 in
theorem mm_c2_256 : (mm_prog 256).1.all mm_ck2 = true := by show T_X12_draw.all mm_ck2 = true; decide +kernel
set_option maxRecDepth 100000 in
theorem mm_c2_257 : (mm_prog 257).1.all mm_ck2 = true := by show T_X12_drawsFor.all mm_ck2 = true; decide +kernel
set_option maxRecDepth 100000 in
theorem mm_c2_258 : (mm_prog 258).1.all mm_ck2 = true := by show T_X12_drawSeconds.all mm_ck2 = true; decide +kernel
set_option maxRecDepth 100000 in
theorem mm_c2_259 : (mm_prog 259).1.all mm_ck2 = true := by show T_X12_drawn.all mm_ck2 = true; decide +kernel
set_option maxRecDepth 100000 in
theorem mm_c2_260 : (mm_prog 260).1.all mm_ck2 = true := by show T_X12_odds.all mm_ck2 = true; decide +kernel
set_option maxRecDepth 100000 in
theorem mm_c2_261 : (mm_prog 261).1.all mm_ck2 = true := by show T_X12_keep.all mm_ck2 = true; decide +kernel
set_option maxRecDepth 100000 in
theorem mm_c2_262 : (mm_prog 262).1.all mm_ck2 = true := by show T_X12_readNamed.all mm_ck2 = true; decide +kernel
set_option maxRecDepth 100000 in
theorem mm_c2_263 : (mm_prog 263).1.all mm_ck2 = true := by show T_X12_readBeater.all mm_ck2 = true; decide +kernel
set_option maxRecDepth 100000 in
theorem mm_c2_264 : (mm_prog 264).1.all mm_ck2 = true := by show T_X12_readDoes.all mm_ck2 = true; decide +kernel
set_option maxRecDepth 100000 in
theorem mm_c2_265 : (mm_prog 265).1.all mm_ck2 = true := by show T_X12_readBookLine.all mm_ck2 = true; decide +kernel
set_option maxRecDepth 100000 in
theorem mm_c2_266 : (mm_prog 266).1.all mm_ck2 = true := by show T_X12_goBy.all mm_ck2 = true; decide +kernel
set_option maxRecDepth 100000 in
theorem mm_c2_267 : (mm_prog 267).1.all mm_ck2 = true := by show T_X12_book.all mm_ck2 = true; decide +kernel
set_option maxRecDepth 100000 in
theorem mm_c2_268 : (mm_prog 268).1.all mm_ck2 = true := by show T_X12_stay.all mm_ck2 = true; decide +kernel
set_option maxRecDepth 100000 in
theorem mm_c2_269 : (mm_prog 269).1.all mm_ck2 = true := by show T_X12_told.all mm_ck2 = true; decide +kernel
set_option maxRecDepth 100000 in
theorem mm_c2_270 : (mm_prog 270).1.all mm_ck2 = true := by show T_X12_saysOne.all mm_ck2 = true; decide +kernel
set_option maxRecDepth 100000 in
theorem mm_c2_271 : (mm_prog 271).1.all mm_ck2 = true := by show T_X12_readOr.all mm_ck2 = true; decide +kernel
set_option maxRecDepth 100000 in
theorem mm_c2_272 : (mm_prog 272).1.all mm_ck2 = true := by show T_X12_readAnd.all mm_ck2 = true; decide +kernel
set_option maxRecDepth 100000 in
theorem mm_c2_273 : (mm_prog 273).1.all mm_ck2 = true := by show T_X12_readSaid.all mm_ck2 = true; decide +kernel
set_option maxRecDepth 100000 in
theorem mm_c2_274 : (mm_prog 274).1.all mm_ck2 = true := by show T_X12_readNot.all mm_ck2 = true; decide +kernel
set_option maxRecDepth 100000 in
theorem mm_c2_275 : (mm_prog 275).1.all mm_ck2 = true := by show T_X12_readBracket.all mm_ck2 = true; decide +kernel
set_option maxRecDepth 100000 in
theorem mm_c2_276 : (mm_prog 276).1.all mm_ck2 = true := by show T_X12_readOf.all mm_ck2 = true; decide +kernel
set_option maxRecDepth 100000 in
theorem mm_c2_277 : (mm_prog 277).1.all mm_ck2 = true := by show T_X12_readCompare.all mm_ck2 = true; decide +kernel
set_option maxRecDepth 100000 in
theorem mm_c2_278 : (mm_prog 278).1.all mm_ck2 = true := by show T_X12_sentence.all mm_ck2 = true; decide +kernel
set_option maxRecDepth 100000 in
theorem mm_c2_279 : (mm_prog 279).1.all mm_ck2 = true := by show T_X12_holds.all mm_ck2 = true; decide +kernel
set_option maxRecDepth 100000 in
theorem mm_c2_280 : (mm_prog 280).1.all mm_ck2 = true := by show T_X12_said.all mm_ck2 = true; decide +kernel
set_option maxRecDepth 100000 in
theorem mm_c2_281 : (mm_prog 281).1.all mm_ck2 = true := by show T_X12_image.all mm_ck2 = true; decide +kernel
set_option maxRecDepth 100000 in
theorem mm_c2_282 : (mm_prog 282).1.all mm_ck2 = true := by show T_X12_restore.all mm_ck2 = true; decide +kernel
set_option maxRecDepth 100000 in
theorem mm_c2_283 : (mm_prog 283).1.all mm_ck2 = true := by show T_X12_count.all mm_ck2 = true; decide +kernel
set_option maxRecDepth 100000 in
theorem mm_c2_284 : (mm_prog 284).1.all mm_ck2 = true := by show T_X11_person.all mm_ck2 = true; decide +kernel
set_option maxRecDepth 100000 in
theorem mm_c2_285 : (mm_prog 285).1.all mm_ck2 = true := by show T_X12_init.all mm_ck2 = true; decide +kernel
set_option maxRecDepth 100000 in
theorem mm_c2_in : ∀ q ∈ [0, 1, 2, 3, 4, 5, 6, 7, 8, 9, 10, 11, 12, 13, 14, 15, 16, 17, 18, 19, 20, 21, 22, 23, 24, 25, 26, 27, 28, 29, 30, 31, 32, 33, 34, 35, 36, 37, 38, 39, 40, 41, 42, 43, 44, 45, 46, 47, 48, 49, 50, 51, 52, 53, 54, 55, 56, 57, 58, 59, 60, 61, 62, 63, 64, 65, 66, 67, 68, 69, 70, 71, 72, 73, 74, 75, 76, 77, 78, 79, 80, 81, 82, 83, 84, 85, 86, 87, 88, 89, 90, 91, 92, 93, 94, 95, 96, 97, 98, 99, 100, 101, 102, 103, 104, 105, 106, 107, 108, 109, 110, 111, 112, 113, 114, 115, 116, 117, 118, 119, 120, 121, 122, 123, 124, 125, 126, 127, 128, 129, 130, 131, 132, 133, 134, 135, 136, 137, 138, 139, 140, 141, 142, 143, 144, 145, 146, 147, 148, 149, 150, 151, 152, 153, 154, 155, 156, 157, 158, 159, 160, 161, 162, 163, 164, 165, 166, 167, 168, 169, 170, 171, 172, 173, 174, 175, 176, 177, 178, 179, 180, 181, 182, 183, 184, 185, 186, 187, 188, 189, 190, 191, 192, 193, 194, 195, 196, 197, 198, 199, 200, 201, 202, 203, 204, 205, 206, 207, 208, 209, 210, 211, 212, 213, 214, 215, 216, 217, 218, 219, 220, 221, 222, 223, 224, 225, 226, 227, 228, 229, 230, 231, 232, 233, 234, 235, 236, 237, 238, 239, 240, 241, 242, 243, 244, 245, 246, 247, 248, 249, 250, 251, 252, 253, 254, 255, 256, 257, 258, 259, 260, 261, 262, 263, 264, 265, 266, 267, 268, 269, 270, 271, 272, 273, 274, 275, 276, 277, 278, 279, 280, 281, 282, 283, 284, 285], (mm_prog q).1.all mm_ck2 = true := (List.forall_mem_cons.mpr ⟨mm_c2_0, (List.forall_mem_cons.mpr ⟨mm_c2_1, (List.forall_mem_cons.mpr ⟨mm_c2_2, (List.forall_mem_cons.mpr ⟨mm_c2_3, (List.forall_mem_cons.mpr ⟨mm_c2_4, (List.forall_mem_cons.mpr ⟨mm_c2_5, (List.forall_mem_cons.mpr ⟨mm_c2_6, (List.forall_mem_cons.mpr ⟨mm_c2_7, (List.forall_mem_cons.mpr ⟨mm_c2_8, (List.forall_mem_cons.mpr ⟨mm_c2_9, (List.forall_mem_cons.mpr ⟨mm_c2_10, (List.forall_mem_cons.mpr ⟨mm_c2_11, (List.forall_mem_cons.mpr ⟨mm_c2_12, (List.forall_mem_cons.mpr ⟨mm_c2_13, (List.forall_mem_cons.mpr ⟨mm_c2_14, (List.forall_mem_cons.mpr ⟨mm_c2_15, (List.forall_mem_cons.mpr ⟨mm_c2_16, (List.forall_mem_cons.mpr ⟨mm_c2_17, (List.forall_mem_cons.mpr ⟨mm_c2_18, (List.forall_mem_cons.mpr ⟨mm_c2_19, (List.forall_mem_cons.mpr ⟨mm_c2_20, (List.forall_mem_cons.mpr ⟨mm_c2_21, (List.forall_mem_cons.mpr ⟨mm_c2_22, (List.forall_mem_cons.mpr ⟨mm_c2_23, (List.forall_mem_cons.mpr ⟨mm_c2_24, (List.forall_mem_cons.mpr ⟨mm_c2_25, (List.forall_mem_cons.mpr ⟨mm_c2_26, (List.forall_mem_cons.mpr ⟨mm_c2_27, (List.forall_mem_cons.mpr ⟨mm_c2_28, (List.forall_mem_cons.mpr ⟨mm_c2_29, (List.forall_mem_cons.mpr ⟨mm_c2_30, (List.forall_mem_cons.mpr ⟨mm_c2_31, (List.forall_mem_cons.mpr ⟨mm_c2_32, (List.forall_mem_cons.mpr ⟨mm_c2_33, (List.forall_mem_cons.mpr ⟨mm_c2_34, (List.forall_mem_cons.mpr ⟨mm_c2_35, (List.forall_mem_cons.mpr ⟨mm_c2_36, (List.forall_mem_cons.mpr ⟨mm_c2_37, (List.forall_mem_cons.mpr ⟨mm_c2_38, (List.forall_mem_cons.mpr ⟨mm_c2_39, (List.forall_mem_cons.mpr ⟨mm_c2_40, (List.forall_mem_cons.mpr ⟨mm_c2_41, (List.forall_mem_cons.mpr ⟨mm_c2_42, (List.forall_mem_cons.mpr ⟨mm_c2_43, (List.forall_mem_cons.mpr ⟨mm_c2_44, (List.forall_mem_cons.mpr ⟨mm_c2_45, (List.forall_mem_cons.mpr ⟨mm_c2_46, (List.forall_mem_cons.mpr ⟨mm_c2_47, (List.forall_mem_cons.mpr ⟨mm_c2_48, (List.forall_mem_cons.mpr ⟨mm_c2_49, (List.forall_mem_cons.mpr ⟨mm_c2_50, (List.forall_mem_cons.mpr ⟨mm_c2_51, (List.forall_mem_cons.mpr ⟨mm_c2_52, (List.forall_mem_cons.mpr ⟨mm_c2_53, (List.forall_mem_cons.mpr ⟨mm_c2_54, (List.forall_mem_cons.mpr ⟨mm_c2_55, (List.forall_mem_cons.mpr ⟨mm_c2_56, (List.forall_mem_cons.mpr ⟨mm_c2_57, (List.forall_mem_cons.mpr ⟨mm_c2_58, (List.forall_mem_cons.mpr ⟨mm_c2_59, (List.forall_mem_cons.mpr ⟨mm_c2_60, (List.forall_mem_cons.mpr ⟨mm_c2_61, (List.forall_mem_cons.mpr ⟨mm_c2_62, (List.forall_mem_cons.mpr ⟨mm_c2_63, (List.forall_mem_cons.mpr ⟨mm_c2_64, (List.forall_mem_cons.mpr ⟨mm_c2_65, (List.forall_mem_cons.mpr ⟨mm_c2_66, (List.forall_mem_cons.mpr ⟨mm_c2_67, (List.forall_mem_cons.mpr ⟨mm_c2_68, (List.forall_mem_cons.mpr ⟨mm_c2_69, (List.forall_mem_cons.mpr ⟨mm_c2_70, (List.forall_mem_cons.mpr ⟨mm_c2_71, (List.forall_mem_cons.mpr ⟨mm_c2_72, (List.forall_mem_cons.mpr ⟨mm_c2_73, (List.forall_mem_cons.mpr ⟨mm_c2_74, (List.forall_mem_cons.mpr ⟨mm_c2_75, (List.forall_mem_cons.mpr ⟨mm_c2_76, (List.forall_mem_cons.mpr ⟨mm_c2_77, (List.forall_mem_cons.mpr ⟨mm_c2_78, (List.forall_mem_cons.mpr ⟨mm_c2_79, (List.forall_mem_cons.mpr ⟨mm_c2_80, (List.forall_mem_cons.mpr ⟨mm_c2_81, (List.forall_mem_cons.mpr ⟨mm_c2_82, (List.forall_mem_cons.mpr ⟨mm_c2_83, (List.forall_mem_cons.mpr ⟨mm_c2_84, (List.forall_mem_cons.mpr ⟨mm_c2_85, (List.forall_mem_cons.mpr ⟨mm_c2_86, (List.forall_mem_cons.mpr ⟨mm_c2_87, (List.forall_mem_cons.mpr ⟨mm_c2_88, (List.forall_mem_cons.mpr ⟨mm_c2_89, (List.forall_mem_cons.mpr ⟨mm_c2_90, (List.forall_mem_cons.mpr ⟨mm_c2_91, (List.forall_mem_cons.mpr ⟨mm_c2_92, (List.forall_mem_cons.mpr ⟨mm_c2_93, (List.forall_mem_cons.mpr ⟨mm_c2_94, (List.forall_mem_cons.mpr ⟨mm_c2_95, (List.forall_mem_cons.mpr ⟨mm_c2_96, (List.forall_mem_cons.mpr ⟨mm_c2_97, (List.forall_mem_cons.mpr ⟨mm_c2_98, (List.forall_mem_cons.mpr ⟨mm_c2_99, (List.forall_mem_cons.mpr ⟨mm_c2_100, (List.forall_mem_cons.mpr ⟨mm_c2_101, (List.forall_mem_cons.mpr ⟨mm_c2_102, (List.forall_mem_cons.mpr ⟨mm_c2_103, (List.forall_mem_cons.mpr ⟨mm_c2_104, (List.forall_mem_cons.mpr ⟨mm_c2_105, (List.forall_mem_cons.mpr ⟨mm_c2_106, (List.forall_mem_cons.mpr ⟨mm_c2_107, (List.forall_mem_cons.mpr ⟨mm_c2_108, (List.forall_mem_cons.mpr ⟨mm_c2_109, (List.forall_mem_cons.mpr ⟨mm_c2_110, (List.forall_mem_cons.mpr ⟨mm_c2_111, (List.forall_mem_cons.mpr ⟨mm_c2_112, (List.forall_mem_cons.mpr ⟨mm_c2_113, (List.forall_mem_cons.mpr ⟨mm_c2_114, (List.forall_mem_cons.mpr ⟨mm_c2_115, (List.forall_mem_cons.mpr ⟨mm_c2_116, (List.forall_mem_cons.mpr ⟨mm_c2_117, (List.forall_mem_cons.mpr ⟨mm_c2_118, (List.forall_mem_cons.mpr ⟨mm_c2_119, (List.forall_mem_cons.mpr ⟨mm_c2_120, (List.forall_mem_cons.mpr ⟨mm_c2_121, (List.forall_mem_cons.mpr ⟨mm_c2_122, (List.forall_mem_cons.mpr ⟨mm_c2_123, (List.forall_mem_cons.mpr ⟨mm_c2_124, (List.forall_mem_cons.mpr ⟨mm_c2_125, (List.forall_mem_cons.mpr ⟨mm_c2_126, (List.forall_mem_cons.mpr ⟨mm_c2_127, (List.forall_mem_cons.mpr ⟨mm_c2_128, (List.forall_mem_cons.mpr ⟨mm_c2_129, (List.forall_mem_cons.mpr ⟨mm_c2_130, (List.forall_mem_cons.mpr ⟨mm_c2_131, (List.forall_mem_cons.mpr ⟨mm_c2_132, (List.forall_mem_cons.mpr ⟨mm_c2_133, (List.forall_mem_cons.mpr ⟨mm_c2_134, (List.forall_mem_cons.mpr ⟨mm_c2_135, (List.forall_mem_cons.mpr ⟨mm_c2_136, (List.forall_mem_cons.mpr ⟨mm_c2_137, (List.forall_mem_cons.mpr ⟨mm_c2_138, (List.forall_mem_cons.mpr ⟨mm_c2_139, (List.forall_mem_cons.mpr ⟨mm_c2_140, (List.forall_mem_cons.mpr ⟨mm_c2_141, (List.forall_mem_cons.mpr ⟨mm_c2_142, (List.forall_mem_cons.mpr ⟨mm_c2_143, (List.forall_mem_cons.mpr ⟨mm_c2_144, (List.forall_mem_cons.mpr ⟨mm_c2_145, (List.forall_mem_cons.mpr ⟨mm_c2_146, (List.forall_mem_cons.mpr ⟨mm_c2_147, (List.forall_mem_cons.mpr ⟨mm_c2_148, (List.forall_mem_cons.mpr ⟨mm_c2_149, (List.forall_mem_cons.mpr ⟨mm_c2_150, (List.forall_mem_cons.mpr ⟨mm_c2_151, (List.forall_mem_cons.mpr ⟨mm_c2_152, (List.forall_mem_cons.mpr ⟨mm_c2_153, (List.forall_mem_cons.mpr ⟨mm_c2_154, (List.forall_mem_cons.mpr ⟨mm_c2_155, (List.forall_mem_cons.mpr ⟨mm_c2_156, (List.forall_mem_cons.mpr ⟨mm_c2_157, (List.forall_mem_cons.mpr ⟨mm_c2_158, (List.forall_mem_cons.mpr ⟨mm_c2_159, (List.forall_mem_cons.mpr ⟨mm_c2_160, (List.forall_mem_cons.mpr ⟨mm_c2_161, (List.forall_mem_cons.mpr ⟨mm_c2_162, (List.forall_mem_cons.mpr ⟨mm_c2_163, (List.forall_mem_cons.mpr ⟨mm_c2_164, (List.forall_mem_cons.mpr ⟨mm_c2_165, (List.forall_mem_cons.mpr ⟨mm_c2_166, (List.forall_mem_cons.mpr ⟨mm_c2_167, (List.forall_mem_cons.mpr ⟨mm_c2_168, (List.forall_mem_cons.mpr ⟨mm_c2_169, (List.forall_mem_cons.mpr ⟨mm_c2_170, (List.forall_mem_cons.mpr ⟨mm_c2_171, (List.forall_mem_cons.mpr ⟨mm_c2_172, (List.forall_mem_cons.mpr ⟨mm_c2_173, (List.forall_mem_cons.mpr ⟨mm_c2_174, (List.forall_mem_cons.mpr ⟨mm_c2_175, (List.forall_mem_cons.mpr ⟨mm_c2_176, (List.forall_mem_cons.mpr ⟨mm_c2_177, (List.forall_mem_cons.mpr ⟨mm_c2_178, (List.forall_mem_cons.mpr ⟨mm_c2_179, (List.forall_mem_cons.mpr ⟨mm_c2_180, (List.forall_mem_cons.mpr ⟨mm_c2_181, (List.forall_mem_cons.mpr ⟨mm_c2_182, (List.forall_mem_cons.mpr ⟨mm_c2_183, (List.forall_mem_cons.mpr ⟨mm_c2_184, (List.forall_mem_cons.mpr ⟨mm_c2_185, (List.forall_mem_cons.mpr ⟨mm_c2_186, (List.forall_mem_cons.mpr ⟨mm_c2_187, (List.forall_mem_cons.mpr ⟨mm_c2_188, (List.forall_mem_cons.mpr ⟨mm_c2_189, (List.forall_mem_cons.mpr ⟨mm_c2_190, (List.forall_mem_cons.mpr ⟨mm_c2_191, (List.forall_mem_cons.mpr ⟨mm_c2_192, (List.forall_mem_cons.mpr ⟨mm_c2_193, (List.forall_mem_cons.mpr ⟨mm_c2_194, (List.forall_mem_cons.mpr ⟨mm_c2_195, (List.forall_mem_cons.mpr ⟨mm_c2_196, (List.forall_mem_cons.mpr ⟨mm_c2_197, (List.forall_mem_cons.mpr ⟨mm_c2_198, (List.forall_mem_cons.mpr ⟨mm_c2_199, (List.forall_mem_cons.mpr ⟨mm_c2_200, (List.forall_mem_cons.mpr ⟨mm_c2_201, (List.forall_mem_cons.mpr ⟨mm_c2_202, (List.forall_mem_cons.mpr ⟨mm_c2_203, (List.forall_mem_cons.mpr ⟨mm_c2_204, (List.forall_mem_cons.mpr ⟨mm_c2_205, (List.forall_mem_cons.mpr ⟨mm_c2_206, (List.forall_mem_cons.mpr ⟨mm_c2_207, (List.forall_mem_cons.mpr ⟨mm_c2_208, (List.forall_mem_cons.mpr ⟨mm_c2_209, (List.forall_mem_cons.mpr ⟨mm_c2_210, (List.forall_mem_cons.mpr ⟨mm_c2_211, (List.forall_mem_cons.mpr ⟨mm_c2_212, (List.forall_mem_cons.mpr ⟨mm_c2_213, (List.forall_mem_cons.mpr ⟨mm_c2_214, (List.forall_mem_cons.mpr ⟨mm_c2_215, (List.forall_mem_cons.mpr ⟨mm_c2_216, (List.forall_mem_cons.mpr ⟨mm_c2_217, (List.forall_mem_cons.mpr ⟨mm_c2_218, (List.forall_mem_cons.mpr ⟨mm_c2_219, (List.forall_mem_cons.mpr ⟨mm_c2_220, (List.forall_mem_cons.mpr ⟨mm_c2_221, (List.forall_mem_cons.mpr ⟨mm_c2_222, (List.forall_mem_cons.mpr ⟨mm_c2_223, (List.forall_mem_cons.mpr ⟨mm_c2_224, (List.forall_mem_cons.mpr ⟨mm_c2_225, (List.forall_mem_cons.mpr ⟨mm_c2_226, (List.forall_mem_cons.mpr ⟨mm_c2_227, (List.forall_mem_cons.mpr ⟨mm_c2_228, (List.forall_mem_cons.mpr ⟨mm_c2_229, (List.forall_mem_cons.mpr ⟨mm_c2_230, (List.forall_mem_cons.mpr ⟨mm_c2_231, (List.forall_mem_cons.mpr ⟨mm_c2_232, (List.forall_mem_cons.mpr ⟨mm_c2_233, (List.forall_mem_cons.mpr ⟨mm_c2_234, (List.forall_mem_cons.mpr ⟨mm_c2_235, (List.forall_mem_cons.mpr ⟨mm_c2_236, (List.forall_mem_cons.mpr ⟨mm_c2_237, (List.forall_mem_cons.mpr ⟨mm_c2_238, (List.forall_mem_cons.mpr ⟨mm_c2_239, (List.forall_mem_cons.mpr ⟨mm_c2_240, (List.forall_mem_cons.mpr ⟨mm_c2_241, (List.forall_mem_cons.mpr ⟨mm_c2_242, (List.forall_mem_cons.mpr ⟨mm_c2_243, (List.forall_mem_cons.mpr ⟨mm_c2_244, (List.forall_mem_cons.mpr ⟨mm_c2_245, (List.forall_mem_cons.mpr ⟨mm_c2_246, (List.forall_mem_cons.mpr ⟨mm_c2_247, (List.forall_mem_cons.mpr ⟨mm_c2_248, (List.forall_mem_cons.mpr ⟨mm_c2_249, (List.forall_mem_cons.mpr ⟨mm_c2_250, (List.forall_mem_cons.mpr ⟨mm_c2_251, (List.forall_mem_cons.mpr ⟨mm_c2_252, (List.forall_mem_cons.mpr ⟨mm_c2_253, (List.forall_mem_cons.mpr ⟨mm_c2_254, (List.forall_mem_cons.mpr ⟨mm_c2_255, (List.forall_mem_cons.mpr ⟨mm_c2_256, (List.forall_mem_cons.mpr ⟨mm_c2_257, (List.forall_mem_cons.mpr ⟨mm_c2_258, (List.forall_mem_cons.mpr ⟨mm_c2_259, (List.forall_mem_cons.mpr ⟨mm_c2_260, (List.forall_mem_cons.mpr ⟨mm_c2_261, (List.forall_mem_cons.mpr ⟨mm_c2_262, (List.forall_mem_cons.mpr ⟨mm_c2_263, (List.forall_mem_cons.mpr ⟨mm_c2_264, (List.forall_mem_cons.mpr ⟨mm_c2_265, (List.forall_mem_cons.mpr ⟨mm_c2_266, (List.forall_mem_cons.mpr ⟨mm_c2_267, (List.forall_mem_cons.mpr ⟨mm_c2_268, (List.forall_mem_cons.mpr ⟨mm_c2_269, (List.forall_mem_cons.mpr ⟨mm_c2_270, (List.forall_mem_cons.mpr ⟨mm_c2_271, (List.forall_mem_cons.mpr ⟨mm_c2_272, (List.forall_mem_cons.mpr ⟨mm_c2_273, (List.forall_mem_cons.mpr ⟨mm_c2_274, (List.forall_mem_cons.mpr ⟨mm_c2_275, (List.forall_mem_cons.mpr ⟨mm_c2_276, (List.forall_mem_cons.mpr ⟨mm_c2_277, (List.forall_mem_cons.mpr ⟨mm_c2_278, (List.forall_mem_cons.mpr ⟨mm_c2_279, (List.forall_mem_cons.mpr ⟨mm_c2_280, (List.forall_mem_cons.mpr ⟨mm_c2_281, (List.forall_mem_cons.mpr ⟨mm_c2_282, (List.forall_mem_cons.mpr ⟨mm_c2_283, (List.forall_mem_cons.mpr ⟨mm_c2_284, (List.forall_mem_cons.mpr ⟨mm_c2_285, (fun _ h => absurd h List.not_mem_nil)⟩)⟩)⟩)⟩)⟩)⟩)⟩)⟩)⟩)⟩)⟩)⟩)⟩)⟩)⟩)⟩)⟩)⟩)⟩)⟩)⟩)⟩)⟩)⟩)⟩)⟩)⟩)⟩)⟩)⟩)⟩)⟩)⟩)⟩)⟩)⟩)⟩)⟩)⟩)⟩)⟩)⟩)⟩)⟩)⟩)⟩)⟩)⟩)⟩)⟩)⟩)⟩)⟩)⟩)⟩)⟩)⟩)⟩)⟩)⟩)⟩)⟩)⟩)⟩)⟩)⟩)⟩)⟩)⟩)⟩)⟩)⟩)⟩)⟩)⟩)⟩)⟩)⟩)⟩)⟩)⟩)⟩)⟩)⟩)⟩)⟩)⟩)⟩)⟩)⟩)⟩)⟩)⟩)⟩)⟩)⟩)⟩)⟩)⟩)⟩)⟩)⟩)⟩)⟩)⟩)⟩)⟩)⟩)⟩)⟩)⟩)⟩)⟩)⟩)⟩)⟩)⟩)⟩)⟩)⟩)⟩)⟩)⟩)⟩)⟩)⟩)⟩)⟩)⟩)⟩)⟩)⟩)⟩)⟩)⟩)⟩)⟩)⟩)⟩)⟩)⟩)⟩)⟩)⟩)⟩)⟩)⟩)⟩)⟩)⟩)⟩)⟩)⟩)⟩)⟩)⟩)⟩)⟩)⟩)⟩)⟩)⟩)⟩)⟩)⟩)⟩)⟩)⟩)⟩)⟩)⟩)⟩)⟩)⟩)⟩)⟩)⟩)⟩)⟩)⟩)⟩)⟩)⟩)⟩)⟩)⟩)⟩)⟩)⟩)⟩)⟩)⟩)⟩)⟩)⟩)⟩)⟩)⟩)⟩)⟩)⟩)⟩)⟩)⟩)⟩)⟩)⟩)⟩)⟩)⟩)⟩)⟩)⟩)⟩)⟩)⟩)⟩)⟩)⟩)⟩)⟩)⟩)⟩)⟩)⟩)⟩)⟩)⟩)⟩)⟩)⟩)⟩)⟩)⟩)⟩)⟩)⟩)⟩)⟩)⟩)⟩)⟩)⟩)⟩)⟩)⟩)⟩)⟩)⟩)⟩)⟩)⟩)⟩)⟩)⟩)⟩)⟩)⟩)⟩)⟩)⟩)⟩)⟩)⟩)⟩)⟩)⟩)⟩)⟩)⟩)⟩)⟩)⟩)⟩)⟩)⟩)⟩)⟩)⟩)⟩)⟩)⟩)⟩)⟩)⟩)⟩)
set_option maxRecDepth 100000 in
theorem mm_c2_ok {q : Nat} (h : q < 286) : (mm_prog q).1.all mm_ck2 = true := mm_c2_in q (by have := List.mem_range.mpr h; exact (show List.range 286 = [0, 1, 2, 3, 4, 5, 6, 7, 8, 9, 10, 11, 12, 13, 14, 15, 16, 17, 18, 19, 20, 21, 22, 23, 24, 25, 26, 27, 28, 29, 30, 31, 32, 33, 34, 35, 36, 37, 38, 39, 40, 41, 42, 43, 44, 45, 46, 47, 48, 49, 50, 51, 52, 53, 54, 55, 56, 57, 58, 59, 60, 61, 62, 63, 64, 65, 66, 67, 68, 69, 70, 71, 72, 73, 74, 75, 76, 77, 78, 79, 80, 81, 82, 83, 84, 85, 86, 87, 88, 89, 90, 91, 92, 93, 94, 95, 96, 97, 98, 99, 100, 101, 102, 103, 104, 105, 106, 107, 108, 109, 110, 111, 112, 113, 114, 115, 116, 117, 118, 119, 120, 121, 122, 123, 124, 125, 126, 127, 128, 129, 130, 131, 132, 133, 134, 135, 136, 137, 138, 139, 140, 141, 142, 143, 144, 145, 146, 147, 148, 149, 150, 151, 152, 153, 154, 155, 156, 157, 158, 159, 160, 161, 162, 163, 164, 165, 166, 167, 168, 169, 170, 171, 172, 173, 174, 175, 176, 177, 178, 179, 180, 181, 182, 183, 184, 185, 186, 187, 188, 189, 190, 191, 192, 193, 194, 195, 196, 197, 198, 199, 200, 201, 202, 203, 204, 205, 206, 207, 208, 209, 210, 211, 212, 213, 214, 215, 216, 217, 218, 219, 220, 221, 222, 223, 224, 225, 226, 227, 228, 229, 230, 231, 232, 233, 234, 235, 236, 237, 238, 239, 240, 241, 242, 243, 244, 245, 246, 247, 248, 249, 250, 251, 252, 253, 254, 255, 256, 257, 258, 259, 260, 261, 262, 263, 264, 265, 266, 267, 268, 269, 270, 271, 272, 273, 274, 275, 276, 277, 278, 279, 280, 281, 282, 283, 284, 285] from rfl) ▸ this)
/-- a row of a method, as the bytes have it -/
theorem mm_row {q pc : Nat} (hq : q < 286) {e : mm_E} (h : mm_at (mm_prog q).1 pc = some e) : e.1 = pc ∧ decode (mm_b q) pc = .ok (e.2.1, e.2.2.1) ∧ mm_chk (mm_xq q) q e = true ∧ mm_ck2 e = true := by
  have hm : e ∈ (mm_prog q).1 := List.mem_of_find?_eq_some h
  have hp : (e.1 == pc) = true := List.find?_some (p := fun e : mm_E => e.1 == pc) h
  have he : e.1 = pc := by simpa using hp
  have h1 := List.all_eq_true.mp (mm_q_ok hq).1 e hm
  simp only [Bool.and_eq_true, decide_eq_true_eq] at h1
  rw [he] at h1
  exact ⟨he, h1.1, h1.2, List.all_eq_true.mp (mm_c2_ok hq) e hm⟩
