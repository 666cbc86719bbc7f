set_option maxRecDepth 100000 in
set_option maxHeartbeats 4000000 in
theorem e_X6_begin (d : Nat) (h : mm_H) (a0 a1 : Int) : mm_M mm_prog (d + 1) 65 [(16, a0), (14, a1)] h = (mm_M mm_prog d 50 [(14, a0 + 1), (14, a1)] h).bind fun o1 => ((mm_M mm_prog d 15 [(12, a0 + 11), (14, a0 + 1)] o1.2).bind fun o2 => ((mm_M mm_prog d 67 [(17, a0 + 15)] o2.2).bind fun o3 => (some (0, o3.2)))) := mm_go_R mm_prog [] d T_X6_begin 13 0 [(16, a0), (14, a1)] [] h
set_option maxRecDepth 100000 in
set_option maxHeartbeats 4000000 in
theorem e_X6_copyFrom (d : Nat) (h : mm_H) (a0 a1 : Int) : mm_M mm_prog (d + 1) 66 [(16, a0), (16, a1)] h = (mm_M mm_prog d 50 [(14, a0 + 1), (14, a1 + 1)] h).bind fun o1 => ((mm_M mm_prog d 16 [(12, a0 + 11), (12, a1 + 11)] o1.2).bind fun o2 => ((mm_M mm_prog d 69 [(17, a0 + 15), (17, a1 + 15)] o2.2).bind fun o3 => (some (0, o3.2)))) := mm_go_R mm_prog [] d T_X6_copyFrom 16 0 [(16, a0), (16, a1)] [] h
