set_option maxRecDepth 100000 in
set_option maxHeartbeats 4000000 in
theorem e_X10_find (d : Nat) (h : mm_H) (a0 a1 : Int) : mm_M mm_prog (d + 1) 104 [(1, a0), (2, a1)] h = mm_R mm_prog d T_X10_find 11 [(1, a0), (9, 0), (2, a1), (4, 0), (0, 36), (0, 0), (9, 0)] [] h := mm_go_R mm_prog [11] d T_X10_find 8 0 [(1, a0), (9, 0), (2, a1), (9, 0), (9, 0), (9, 0), (9, 0)] [] h
set_option maxRecDepth 100000 in
set_option maxHeartbeats 4000000 in
theorem e_X10_find_11 (d : Nat) (h : mm_H) (x0 x2 x3 x4 x5 : Int) (u6 : mm_V) : mm_R mm_prog d T_X10_find 11 [(1, x0), (9, 0), (2, x2), (4, x3), (0, x4), (0, x5), u6] [] h = if x5 < x4 then (if 0 ≤ x5 ∧ x5 < 36 then (bif mm_wr x5 then (if mm_lcmp (mm_key x5) x0 = 0 then (if mm_lcmp x0 0 = 0 then (mm_R mm_prog d T_X10_find 11 [(1, x0), (9, 0), (2, x2), (4, x3), (0, x4), (0, mm_w (x5 + 1)), (2, x5)] [] h) else (some (x5, h))) else (mm_R mm_prog d T_X10_find 11 [(1, x0), (9, 0), (2, x2), (4, x3), (0, x4), (0, mm_w (x5 + 1)), (2, x5)] [] h)) else none) else none) else (some (x2, h)) := mm_go_R mm_prog [11] d T_X10_find 19 11 [(1, x0), (9, 0), (2, x2), (4, x3), (0, x4), (0, x5), u6] [] h
