set_option maxRecDepth 100000 in
set_option maxHeartbeats 4000000 in
theorem e_X1_judge (d : Nat) (h : mm_H) (a0 a1 a2 : Int) : mm_M mm_prog (d + 1) 9 [(11, a0), (18, a1), (14, a2)] h = (mm_M mm_prog d 10 [(18, a1), (14, a2)] h).bind fun o1 => (if o1.1 = 0 then (some ((-1), o1.2)) else (mm_R mm_prog d T_X1_judge 15 [(11, a0), (18, a1), (14, a2), (0, 0), (0, 0)] [] o1.2)) := mm_go_R mm_prog [15] d T_X1_judge 9 0 [(11, a0), (18, a1), (14, a2), (9, 0), (9, 0)] [] h
set_option maxRecDepth 100000 in
set_option maxHeartbeats 4000000 in
theorem e_X1_judge_15 (d : Nat) (h : mm_H) (x0 x1 x2 x3 x4 : Int) : mm_R mm_prog d T_X1_judge 15 [(11, x0), (18, x1), (14, x2), (0, x3), (0, x4)] [] h = if x4 < 256 then ((mm_M mm_prog d 11 [(18, x1), (14, x2), (0, x4)] h).bind fun o1 => (if 0 ≤ x4 ∧ x4 < 256 then (if o1.1 = 0 ∨ o1.1 = 1 then (if 0 ≤ x4 ∧ x4 < 256 then (if (mm_up o1.2 (x0 + 1) x4 o1.1) (x0 + 1) x4 = 0 then (mm_R mm_prog d T_X1_judge 15 [(11, x0), (18, x1), (14, x2), (0, x3), (0, mm_w (x4 + 1))] [] (mm_up o1.2 (x0 + 1) x4 o1.1)) else (mm_R mm_prog d T_X1_judge 15 [(11, x0), (18, x1), (14, x2), (0, mm_w (x3 + 1)), (0, mm_w (x4 + 1))] [] (mm_up o1.2 (x0 + 1) x4 o1.1))) else none) else none) else none)) else (if 0 < x3 then ((mm_M mm_prog d 12 [(11, x0)] h).bind fun o1 => ((mm_M mm_prog d 13 [(11, x0), (14, x2)] o1.2).bind fun o2 => (some (x3, mm_up o2.2 x0 3 o2.1)))) else (some (x3, h))) := mm_go_R mm_prog [15] d T_X1_judge 20 15 [(11, x0), (18, x1), (14, x2), (0, x3), (0, x4)] [] h
set_option maxRecDepth 100000 in
set_option maxHeartbeats 4000000 in
theorem e_X1_arePairs (d : Nat) (h : mm_H) (a0 a1 : Int) : mm_M mm_prog (d + 1) 10 [(18, a0), (14, a1)] h = if h a0 1 < 2 then (some (0, h)) else (if 16 < h a0 1 then (some (0, h)) else (if 2 = 0 then none else (if mm_rem (h a0 1) 2 = 0 then (mm_R mm_prog d T_X1_arePairs 30 [(18, a0), (14, a1), (0, 0)] [] h) else (some (0, h))))) := mm_go_R mm_prog [30] d T_X1_arePairs 16 0 [(18, a0), (14, a1), (9, 0)] [] h
set_option maxRecDepth 100000 in
set_option maxHeartbeats 4000000 in
theorem e_X1_arePairs_30 (d : Nat) (h : mm_H) (x0 x1 x2 : Int) : mm_R mm_prog d T_X1_arePairs 30 [(18, x0), (14, x1), (0, x2)] [] h = if x2 < h x0 1 then ((mm_M mm_prog d 82 [(18, x0), (0, x2)] h).bind fun o1 => ((mm_M mm_prog d 51 [(14, x1), (0, 3), (0, o1.1)] o1.2).bind fun o2 => (if o2.1 = 0 then (some (0, o2.2)) else (mm_R mm_prog d T_X1_arePairs 30 [(18, x0), (14, x1), (0, mm_w (x2 + 2))] [] o2.2)))) else (some (1, h)) := mm_go_R mm_prog [30] d T_X1_arePairs 14 30 [(18, x0), (14, x1), (0, x2)] [] h
set_option maxRecDepth 100000 in
set_option maxHeartbeats 4000000 in
theorem e_X1_leavesRests (d : Nat) (h : mm_H) (a0 a1 a2 : Int) : mm_M mm_prog (d + 1) 11 [(18, a0), (14, a1), (0, a2)] h = mm_R mm_prog d T_X1_leavesRests 2 [(18, a0), (14, a1), (0, a2), (0, 0), (9, 0)] [] h := mm_go_R mm_prog [2] d T_X1_leavesRests 3 0 [(18, a0), (14, a1), (0, a2), (9, 0), (9, 0)] [] h
set_option maxRecDepth 100000 in
set_option maxHeartbeats 4000000 in
theorem e_X1_leavesRests_2 (d : Nat) (h : mm_H) (x0 x1 x2 x3 : Int) (u4 : mm_V) : mm_R mm_prog d T_X1_leavesRests 2 [(18, x0), (14, x1), (0, x2), (0, x3), u4] [] h = if mm_w (x3 + 1) < h x0 1 then ((mm_M mm_prog d 82 [(18, x0), (0, x3)] h).bind fun o1 => ((mm_M mm_prog d 51 [(14, x1), (0, 3), (0, o1.1)] o1.2).bind fun o2 => (if o2.1 = 0 then (mm_R mm_prog d T_X1_leavesRests 2 [(18, x0), (14, x1), (0, x2), (0, mm_w (x3 + 2)), (0, o1.1)] [] o2.2) else (if 0 ≤ o1.1 ∧ o1.1 < 5 then ((mm_M mm_prog d 153 [(0, x2), (0, o2.2 (x1 + 9) o1.1)] o2.2).bind fun o3 => ((mm_M mm_prog d 82 [(18, x0), (0, mm_w (x3 + 1))] o3.2).bind fun o4 => (if o3.1 = o4.1 then (mm_R mm_prog d T_X1_leavesRests 2 [(18, x0), (14, x1), (0, x2), (0, mm_w (x3 + 2)), (0, o1.1)] [] o4.2) else (some (0, o4.2))))) else none)))) else (some (1, h)) := mm_go_R mm_prog [2] d T_X1_leavesRests 30 2 [(18, x0), (14, x1), (0, x2), (0, x3), u4] [] h
set_option maxRecDepth 100000 in
set_option maxHeartbeats 4000000 in
theorem e_X1_keepBounds (d : Nat) (h : mm_H) (a0 : Int) : mm_M mm_prog (d + 1) 12 [(11, a0)] h = mm_R mm_prog d T_X1_keepBounds 7 [(11, a0), (0, 0)] [] (mm_up h a0 1 (-1)) := mm_go_R mm_prog [7] d T_X1_keepBounds 6 0 [(11, a0), (9, 0)] [] h
set_option maxRecDepth 100000 in
set_option maxHeartbeats 4000000 in
theorem e_X1_keepBounds_7 (d : Nat) (h : mm_H) (x0 x1 : Int) : mm_R mm_prog d T_X1_keepBounds 7 [(11, x0), (0, x1)] [] h = if x1 < 256 then (if 0 ≤ x1 ∧ x1 < 256 then (if h (x0 + 1) x1 = 0 then (mm_R mm_prog d T_X1_keepBounds 7 [(11, x0), (0, mm_w (x1 + 1))] [] h) else (if h x0 1 = (-1) then (mm_R mm_prog d T_X1_keepBounds 7 [(11, x0), (0, mm_w (x1 + 1))] [] (mm_up (mm_up h x0 1 x1) x0 2 x1)) else (mm_R mm_prog d T_X1_keepBounds 7 [(11, x0), (0, mm_w (x1 + 1))] [] (mm_up h x0 2 x1)))) else none) else (some (0, h)) := mm_go_R mm_prog [7] d T_X1_keepBounds 21 7 [(11, x0), (0, x1)] [] h
set_option maxRecDepth 100000 in
set_option maxHeartbeats 4000000 in
theorem e_X1_thingToLookAt (d : Nat) (h : mm_H) (a0 a1 : Int) : mm_M mm_prog (d + 1) 13 [(11, a0), (14, a1)] h = mm_R mm_prog d T_X1_thingToLookAt 9 [(11, a0), (14, a1), (0, (-1)), (0, 257), (0, 0), (9, 0)] [] h := mm_go_R mm_prog [9] d T_X1_thingToLookAt 7 0 [(11, a0), (14, a1), (9, 0), (9, 0), (9, 0), (9, 0)] [] h
set_option maxRecDepth 100000 in
set_option maxHeartbeats 4000000 in
theorem e_X1_thingToLookAt_9 (d : Nat) (h : mm_H) (x0 x1 x2 x3 x4 : Int) (u5 : mm_V) : mm_R mm_prog d T_X1_thingToLookAt 9 [(11, x0), (14, x1), (0, x2), (0, x3), (0, x4), u5] [] h = if x4 < h (x1 + 1) 3 then (if 0 ≤ x4 ∧ x4 < 5 then ((mm_M mm_prog d 14 [(11, x0), (0, h (x1 + 9) x4)] h).bind fun o1 => (if o1.1 < x3 then (mm_R mm_prog d T_X1_thingToLookAt 9 [(11, x0), (14, x1), (0, x4), (0, o1.1), (0, mm_w (x4 + 1)), (0, o1.1)] [] o1.2) else (mm_R mm_prog d T_X1_thingToLookAt 9 [(11, x0), (14, x1), (0, x2), (0, x3), (0, mm_w (x4 + 1)), (0, o1.1)] [] o1.2))) else none) else (some (x2, h)) := mm_go_R mm_prog [9] d T_X1_thingToLookAt 23 9 [(11, x0), (14, x1), (0, x2), (0, x3), (0, x4), u5] [] h
set_option maxRecDepth 100000 in
set_option maxHeartbeats 4000000 in
theorem e_X1_mostLeftBy (d : Nat) (h : mm_H) (a0 a1 : Int) : mm_M mm_prog (d + 1) 14 [(11, a0), (0, a1)] h = mm_R mm_prog d T_X1_mostLeftBy 4 [(11, a0), (0, a1), (0, 0), (0, 0), (9, 0), (9, 0)] [] h := mm_go_R mm_prog [4, 15] d T_X1_mostLeftBy 5 0 [(11, a0), (0, a1), (9, 0), (9, 0), (9, 0), (9, 0)] [] h
set_option maxRecDepth 100000 in
set_option maxHeartbeats 4000000 in
theorem e_X1_mostLeftBy_4 (d : Nat) (h : mm_H) (x0 x1 x2 x3 : Int) (u4 u5 : mm_V) : mm_R mm_prog d T_X1_mostLeftBy 4 [(11, x0), (0, x1), (0, x2), (0, x3), u4, u5] [] h = if x3 < x1 then (mm_R mm_prog d T_X1_mostLeftBy 15 [(11, x0), (0, x1), (0, x2), (0, x3), (0, 0), (0, x3)] [] h) else (some (x2, h)) := mm_go_R mm_prog [4, 15] d T_X1_mostLeftBy 8 4 [(11, x0), (0, x1), (0, x2), (0, x3), u4, u5] [] h
set_option maxRecDepth 100000 in
set_option maxHeartbeats 4000000 in
theorem e_X1_mostLeftBy_15 (d : Nat) (h : mm_H) (x0 x1 x2 x3 x4 x5 : Int) : mm_R mm_prog d T_X1_mostLeftBy 15 [(11, x0), (0, x1), (0, x2), (0, x3), (0, x4), (0, x5)] [] h = if x5 < 256 then (if 0 ≤ x5 ∧ x5 < 256 then (if h (x0 + 1) x5 = 0 then (mm_R mm_prog d T_X1_mostLeftBy 15 [(11, x0), (0, x1), (0, x2), (0, x3), (0, x4), (0, mm_w (x5 + x1))] [] h) else (mm_R mm_prog d T_X1_mostLeftBy 15 [(11, x0), (0, x1), (0, x2), (0, x3), (0, mm_w (x4 + 1)), (0, mm_w (x5 + x1))] [] h)) else none) else (mm_R mm_prog d T_X1_mostLeftBy 4 [(11, x0), (0, x1), (0, max x2 x4), (0, mm_w (x3 + 1)), (0, x4), (0, x5)] [] h) := mm_go_R mm_prog [4, 15] d T_X1_mostLeftBy 15 15 [(11, x0), (0, x1), (0, x2), (0, x3), (0, x4), (0, x5)] [] h
