set_option maxRecDepth 100000 in
set_option maxHeartbeats 4000000 in
theorem e_X4_clear (d : Nat) (h : mm_H) (a0 : Int) : mm_M mm_prog (d + 1) 49 [(14, a0)] h = mm_R mm_prog d T_X4_clear 20 [(14, a0), (0, 0)] [] (mm_up (mm_up (mm_up h a0 0 8) (a0 + 3) 0 4) a0 1 0) := mm_go_R mm_prog [20] d T_X4_clear 14 0 [(14, a0), (9, 0)] [] h
set_option maxRecDepth 100000 in
set_option maxHeartbeats 4000000 in
theorem e_X4_clear_20 (d : Nat) (h : mm_H) (x0 x1 : Int) : mm_R mm_prog d T_X4_clear 20 [(14, x0), (0, x1)] [] h = if x1 < 4 then (if 0 ≤ x1 ∧ x1 < 4 then (mm_R mm_prog d T_X4_clear 20 [(14, x0), (0, mm_w (x1 + 1))] [] (mm_up h (x0 + 1) x1 0)) else none) else (some (0, h)) := mm_go_R mm_prog [20] d T_X4_clear 11 20 [(14, x0), (0, x1)] [] h
set_option maxRecDepth 100000 in
set_option maxHeartbeats 4000000 in
theorem e_X4_copyFrom (d : Nat) (h : mm_H) (a0 a1 : Int) : mm_M mm_prog (d + 1) 50 [(14, a0), (14, a1)] h = some (0, mm_cp (mm_cp (mm_cp (mm_cp (mm_cp (mm_cp (mm_cp (mm_cp (mm_cp (mm_up (mm_up h a0 0 (h a1 0)) a0 1 ((mm_up h a0 0 (h a1 0)) a1 1)) (a1 + 1) 0 (a0 + 1) 0 4) (a1 + 2) 0 (a0 + 2) 0 28) (a1 + 3) 0 (a0 + 3) 0 5) (a1 + 4) 0 (a0 + 4) 0 7) (a1 + 5) 0 (a0 + 5) 0 7) (a1 + 6) 0 (a0 + 6) 0 6) (a1 + 7) 0 (a0 + 7) 0 6) (a1 + 8) 0 (a0 + 8) 0 6) (a1 + 9) 0 (a0 + 9) 0 5) := mm_go_R mm_prog [] d T_X4_copyFrom 81 0 [(14, a0), (14, a1)] [] h
set_option maxRecDepth 100000 in
set_option maxHeartbeats 4000000 in
theorem e_X4_has (d : Nat) (h : mm_H) (a0 a1 a2 : Int) : mm_M mm_prog (d + 1) 51 [(14, a0), (0, a1), (0, a2)] h = if a2 < 0 then (some (0, h)) else (if 0 ≤ a1 ∧ a1 < 4 then (if a2 < h (a0 + 1) a1 then (some (1, h)) else (some (0, h))) else none) := mm_go_R mm_prog [] d T_X4_has 11 0 [(14, a0), (0, a1), (0, a2)] [] h
set_option maxRecDepth 100000 in
set_option maxHeartbeats 4000000 in
theorem e_X4_isFull (d : Nat) (h : mm_H) (a0 a1 : Int) : mm_M mm_prog (d + 1) 52 [(14, a0), (0, a1)] h = if 0 ≤ a1 ∧ a1 < 4 then (if 0 ≤ a1 ∧ a1 < 4 then (if h (a0 + 1) a1 < mm_mos a1 then (some (0, h)) else (some (1, h))) else none) else none := mm_go_R mm_prog [] d T_X4_isFull 11 0 [(14, a0), (0, a1)] [] h
set_option maxRecDepth 100000 in
set_option maxHeartbeats 4000000 in
theorem e_X4_beaters (d : Nat) (h : mm_H) (a0 : Int) : mm_M mm_prog (d + 1) 53 [(14, a0)] h = some (mm_w (1 + (h (a0 + 1) 0)), h) := mm_go_R mm_prog [] d T_X4_beaters 7 0 [(14, a0)] [] h
set_option maxRecDepth 100000 in
set_option maxHeartbeats 4000000 in
theorem e_X4_mayBeat (d : Nat) (h : mm_H) (a0 a1 : Int) : mm_M mm_prog (d + 1) 54 [(14, a0), (0, a1)] h = if a1 < 0 then (some (0, h)) else (if h (a0 + 1) 0 < a1 then (some (0, h)) else (some (1, h))) := mm_go_R mm_prog [] d T_X4_mayBeat 11 0 [(14, a0), (0, a1)] [] h
set_option maxRecDepth 100000 in
set_option maxHeartbeats 4000000 in
theorem e_X4_gapOf (d : Nat) (h : mm_H) (a0 a1 : Int) : mm_M mm_prog (d + 1) 55 [(14, a0), (0, a1)] h = (mm_M mm_prog d 54 [(14, a0), (0, a1)] h).bind fun o1 => (if o1.1 = 0 then (some ((-1), o1.2)) else (if 0 ≤ a1 ∧ a1 < 5 then (some (o1.2 (a0 + 3) a1, o1.2)) else none)) := mm_go_R mm_prog [] d T_X4_gapOf 10 0 [(14, a0), (0, a1)] [] h
set_option maxRecDepth 100000 in
set_option maxHeartbeats 4000000 in
theorem e_X4_addName (d : Nat) (h : mm_H) (a0 a1 a2 : Int) : mm_M mm_prog (d + 1) 56 [(14, a0), (0, a1), (1, a2)] h = if 0 ≤ a1 ∧ a1 < 4 then (if 0 ≤ mm_w ((mm_w (a1 * 7)) + (h (a0 + 1) a1)) ∧ mm_w ((mm_w (a1 * 7)) + (h (a0 + 1) a1)) < 28 then (if 0 ≤ a1 ∧ a1 < 4 then (some (h (a0 + 1) a1, mm_up (mm_up h (a0 + 2) (mm_w ((mm_w (a1 * 7)) + (h (a0 + 1) a1))) a2) (a0 + 1) a1 (mm_w ((h (a0 + 1) a1) + 1)))) else none) else none) else none := mm_go_R mm_prog [] d T_X4_addName 23 0 [(14, a0), (0, a1), (1, a2), (9, 0), (9, 0)] [] h
set_option maxRecDepth 100000 in
set_option maxHeartbeats 4000000 in
theorem e_X4_nameOf (d : Nat) (h : mm_H) (a0 a1 a2 : Int) : mm_M mm_prog (d + 1) 57 [(14, a0), (0, a1), (0, a2)] h = (mm_M mm_prog d 51 [(14, a0), (0, a1), (0, a2)] h).bind fun o1 => (if o1.1 = 0 then (some (0, o1.2)) else (if 0 ≤ mm_w ((mm_w (a1 * 7)) + a2) ∧ mm_w ((mm_w (a1 * 7)) + a2) < 28 then (some (o1.2 (a0 + 2) (mm_w ((mm_w (a1 * 7)) + a2)), o1.2)) else none)) := mm_go_R mm_prog [] d T_X4_nameOf 15 0 [(14, a0), (0, a1), (0, a2)] [] h
set_option maxRecDepth 100000 in
set_option maxHeartbeats 4000000 in
theorem e_X4_numberOf (d : Nat) (h : mm_H) (a0 a1 a2 : Int) : mm_M mm_prog (d + 1) 58 [(14, a0), (0, a1), (1, a2)] h = mm_R mm_prog d T_X4_numberOf 3 [(14, a0), (0, a1), (1, a2), (9, 0), (0, 0)] [] h := mm_go_R mm_prog [3] d T_X4_numberOf 3 0 [(14, a0), (0, a1), (1, a2), (9, 0), (9, 0)] [] h
set_option maxRecDepth 100000 in
set_option maxHeartbeats 4000000 in
theorem e_X4_numberOf_3 (d : Nat) (h : mm_H) (x0 x1 x2 x4 : Int) : mm_R mm_prog d T_X4_numberOf 3 [(14, x0), (0, x1), (1, x2), (9, 0), (0, x4)] [] h = if 0 ≤ x1 ∧ x1 < 4 then (if x4 < h (x0 + 1) x1 then (if 0 ≤ mm_w ((mm_w (x1 * 7)) + x4) ∧ mm_w ((mm_w (x1 * 7)) + x4) < 28 then (if mm_lcmp (h (x0 + 2) (mm_w ((mm_w (x1 * 7)) + x4))) x2 = 0 then (some (x4, h)) else (mm_R mm_prog d T_X4_numberOf 3 [(14, x0), (0, x1), (1, x2), (9, 0), (0, mm_w (x4 + 1))] [] h)) else none) else (some ((-1), h))) else none := mm_go_R mm_prog [3] d T_X4_numberOf 20 3 [(14, x0), (0, x1), (1, x2), (9, 0), (0, x4)] [] h
set_option maxRecDepth 100000 in
set_option maxHeartbeats 4000000 in
theorem e_X4_knows (d : Nat) (h : mm_H) (a0 a1 : Int) : mm_M mm_prog (d + 1) 59 [(14, a0), (1, a1)] h = mm_R mm_prog d T_X4_knows 2 [(14, a0), (1, a1), (9, 0), (0, 0)] [] h := mm_go_R mm_prog [2] d T_X4_knows 3 0 [(14, a0), (1, a1), (9, 0), (9, 0)] [] h
set_option maxRecDepth 100000 in
set_option maxHeartbeats 4000000 in
theorem e_X4_knows_2 (d : Nat) (h : mm_H) (x0 x1 x3 : Int) : mm_R mm_prog d T_X4_knows 2 [(14, x0), (1, x1), (9, 0), (0, x3)] [] h = if x3 < 4 then ((mm_M mm_prog d 58 [(14, x0), (0, x3), (1, x1)] h).bind fun o1 => (if o1.1 = (-1) then (mm_R mm_prog d T_X4_knows 2 [(14, x0), (1, x1), (9, 0), (0, mm_w (x3 + 1))] [] o1.2) else (some (1, o1.2)))) else (some (0, h)) := mm_go_R mm_prog [2] d T_X4_knows 12 2 [(14, x0), (1, x1), (9, 0), (0, x3)] [] h
set_option maxRecDepth 100000 in
set_option maxHeartbeats 4000000 in
theorem e_X4_placeOn (d : Nat) (h : mm_H) (a0 a1 a2 : Int) : mm_M mm_prog (d + 1) 60 [(14, a0), (0, a1), (0, a2)] h = (mm_M mm_prog d 153 [(0, mm_w (a1 + a2)), (0, h a0 0)] h).bind fun o1 => (some (o1.1, o1.2)) := mm_go_R mm_prog [] d T_X4_placeOn 7 0 [(14, a0), (0, a1), (0, a2)] [] h
