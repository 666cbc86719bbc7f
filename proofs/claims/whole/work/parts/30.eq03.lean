set_option maxRecDepth 100000 in
set_option maxHeartbeats 4000000 in
theorem e_X3_forget (d : Nat) (h : mm_H) (a0 : Int) : mm_M mm_prog (d + 1) 46 [(13, a0)] h = some (0, mm_up h a0 2 0) := mm_go_R mm_prog [] d T_X3_forget 4 0 [(13, a0)] [] h
set_option maxRecDepth 100000 in
set_option maxHeartbeats 4000000 in
theorem e_X3_keep (d : Nat) (h : mm_H) (a0 a1 : Int) : mm_M mm_prog (d + 1) 47 [(13, a0), (12, a1)] h = if 0 ≤ (mm_up h a0 1 (mm_and (mm_w ((h a0 1) + 1)) 7)) a0 1 ∧ (mm_up h a0 1 (mm_and (mm_w ((h a0 1) + 1)) 7)) a0 1 < 8 then ((mm_M mm_prog d 16 [(12, (a0 + 1) + 1 + 4 * ((mm_up h a0 1 (mm_and (mm_w ((h a0 1) + 1)) 7)) a0 1)), (12, a1)] (mm_up h a0 1 (mm_and (mm_w ((h a0 1) + 1)) 7))).bind fun o1 => (some (0, mm_up o1.2 a0 2 (min 8 (mm_w ((o1.2 a0 2) + 1)))))) else none := mm_go_R mm_prog [] d T_X3_keep 28 0 [(13, a0), (12, a1), (9, 0)] [] h
set_option maxRecDepth 100000 in
set_option maxHeartbeats 4000000 in
theorem e_X3_takeBack (d : Nat) (h : mm_H) (a0 a1 : Int) : mm_M mm_prog (d + 1) 48 [(13, a0), (12, a1)] h = if 0 ≤ h a0 1 ∧ h a0 1 < 8 then (if h a0 2 = 0 then (some ((-1), h)) else ((mm_M mm_prog d 16 [(12, a1), (12, (a0 + 1) + 1 + 4 * (h a0 1))] h).bind fun o1 => (some ((mm_up (mm_up o1.2 a0 1 (mm_and (mm_w ((mm_w ((o1.2 a0 1) + 8)) - 1)) 7)) a0 2 (mm_w (((mm_up o1.2 a0 1 (mm_and (mm_w ((mm_w ((o1.2 a0 1) + 8)) - 1)) 7)) a0 2) - 1))) a0 2, mm_up (mm_up o1.2 a0 1 (mm_and (mm_w ((mm_w ((o1.2 a0 1) + 8)) - 1)) 7)) a0 2 (mm_w (((mm_up o1.2 a0 1 (mm_and (mm_w ((mm_w ((o1.2 a0 1) + 8)) - 1)) 7)) a0 2) - 1)))))) else none := mm_go_R mm_prog [] d T_X3_takeBack 33 0 [(13, a0), (12, a1), (9, 0)] [] h
