set_option maxRecDepth 100000 in
set_option maxHeartbeats 4000000 in
theorem e_X11_imageAt (d : Nat) (h : mm_H) (a0 a1 : Int) : mm_M mm_prog (d + 1) 87 [(20, a0), (0, a1)] h = if a1 < 0 then (some (-1, h)) else (if a1 < 2 then (if 0 ≤ a1 ∧ a1 < 2 then (some ((a0 + 33) + 62 + 19 * a1, h)) else none) else (some (-1, h))) := mm_go_R mm_prog [] d T_X11_imageAt 10 0 [(20, a0), (0, a1)] [] h
set_option maxRecDepth 100000 in
set_option maxHeartbeats 4000000 in
theorem e_X11_feed (d : Nat) (h : mm_H) (a0 a1 a2 a3 a4 a5 : Int) : mm_M mm_prog (d + 1) 105 [(20, a0), (0, a1), (0, a2), (0, a3), (0, a4), (0, a5)] h = if 940 < mm_w ((h (a0 + 1) 1) + 20) then (some ((-1), h)) else ((mm_M mm_prog d 81 [(18, a0 + 1), (0, a1)] h).bind fun o1 => ((mm_M mm_prog d 81 [(18, a0 + 1), (0, a2)] o1.2).bind fun o2 => ((mm_M mm_prog d 81 [(18, a0 + 1), (0, a3)] o2.2).bind fun o3 => ((mm_M mm_prog d 81 [(18, a0 + 1), (0, a4)] o3.2).bind fun o4 => ((mm_M mm_prog d 81 [(18, a0 + 1), (0, a5)] o4.2).bind fun o5 => (some (o5.2 (a0 + 1) 1, o5.2))))))) := mm_go_R mm_prog [] d T_X11_feed 31 0 [(20, a0), (0, a1), (0, a2), (0, a3), (0, a4), (0, a5)] [] h
set_option maxRecDepth 100000 in
set_option maxHeartbeats 4000000 in
theorem e_X11_end (d : Nat) (h : mm_H) (a0 a1 : Int) : mm_M mm_prog (d + 1) 106 [(20, a0), (0, a1)] h = if a1 < 0 then (some (0, h)) else (if h (a0 + 1) 1 < a1 then (some (0, h)) else (some (1, mm_up h (a0 + 1) 1 a1))) := mm_go_R mm_prog [] d T_X11_end 13 0 [(20, a0), (0, a1)] [] h
set_option maxRecDepth 100000 in
set_option maxHeartbeats 4000000 in
theorem e_X11_town (d : Nat) (h : mm_H) (a0 : Int) : mm_M mm_prog (d + 1) 107 [(20, a0)] h = (mm_M mm_prog d 83 [(18, a0 + 1), (0, 900)] h).bind fun o1 => ((mm_M mm_prog d 94 [(19, a0 + 3), (18, a0 + 1)] o1.2).bind fun o2 => ((mm_M mm_prog d 145 [(20, a0)] o2.2).bind fun o3 => (if o3.1 = 0 then ((mm_M mm_prog d 65 [(16, a0 + 14), (14, (a0 + 3) + 1)] o3.2).bind fun o4 => ((mm_M mm_prog d 46 [(13, a0 + 34)] o4.2).bind fun o5 => (some (o2.1, o5.2)))) else (some (mm_w ((-1) - (o3.2 (a0 + 1) 9)), o3.2))))) := mm_go_R mm_prog [] d T_X11_town 24 0 [(20, a0), (9, 0)] [] h
set_option maxRecDepth 100000 in
set_option maxHeartbeats 4000000 in
theorem e_X11_fault (d : Nat) (h : mm_H) (a0 : Int) : mm_M mm_prog (d + 1) 108 [(20, a0)] h = some (h a0 13, h) := mm_go_R mm_prog [] d T_X11_fault 3 0 [(20, a0)] [] h
set_option maxRecDepth 100000 in
set_option maxHeartbeats 4000000 in
theorem e_X11_work (d : Nat) (h : mm_H) (a0 a1 a2 : Int) : mm_M mm_prog (d + 1) 109 [(20, a0), (0, a1), (0, a2)] h = (mm_M mm_prog d 51 [(14, (a0 + 14) + 1), (0, 2), (0, a1)] h).bind fun o1 => (if o1.1 = 0 then (some ((-1), o1.2)) else (if a2 = 0 then (if 0 ≤ a1 ∧ a1 < 6 then (some (o1.2 (((a0 + 14) + 1) + 6) a1, o1.2)) else none) else (if a2 = 1 then (if 0 ≤ a1 ∧ a1 < 6 then (some (o1.2 (((a0 + 14) + 1) + 7) a1, o1.2)) else none) else (if a2 = 2 then (if 0 ≤ a1 ∧ a1 < 6 then (some (o1.2 (((a0 + 14) + 11) + 3) a1, o1.2)) else none) else (if a2 = 3 then ((mm_M mm_prog d 22 [(12, (a0 + 14) + 11), (14, (a0 + 14) + 1), (0, a1)] o1.2).bind fun o2 => (some (o2.1, o2.2))) else (if a2 = 4 then (if 0 ≤ a1 ∧ a1 < 6 then (some (o1.2 (((a0 + 14) + 1) + 8) a1, o1.2)) else none) else (some ((-1), o1.2)))))))) := mm_go_R mm_prog [] d T_X11_work 18 0 [(20, a0), (0, a1), (0, a2)] [] h
set_option maxRecDepth 100000 in
set_option maxHeartbeats 4000000 in
theorem e_X11_gap (d : Nat) (h : mm_H) (a0 a1 : Int) : mm_M mm_prog (d + 1) 110 [(20, a0), (0, a1)] h = (mm_M mm_prog d 55 [(14, (a0 + 14) + 1), (0, a1)] h).bind fun o1 => (some (o1.1, o1.2)) := mm_go_R mm_prog [] d T_X11_gap 6 0 [(20, a0), (0, a1)] [] h
set_option maxRecDepth 100000 in
set_option maxHeartbeats 4000000 in
theorem e_X11_now (d : Nat) (h : mm_H) (a0 a1 : Int) : mm_M mm_prog (d + 1) 111 [(20, a0), (0, a1)] h = if a1 = 0 then (some (h ((a0 + 14) + 11) 0, h)) else (if a1 = 1 then (some (h ((a0 + 14) + 11) 1, h)) else (if a1 = 2 then (some (h ((a0 + 14) + 11) 2, h)) else (if a1 = 3 then (if h ((a0 + 14) + 11) 3 = 0 then (some (0, h)) else (some (1, h))) else (if a1 = 4 then (some (h ((a0 + 14) + 11) 4, h)) else (if a1 = 5 then (some (h ((a0 + 14) + 11) 5, h)) else (if a1 = 6 then ((mm_M mm_prog d 20 [(12, (a0 + 14) + 11), (14, (a0 + 14) + 1)] h).bind fun o1 => (some (o1.1, o1.2))) else (if a1 = 7 then ((mm_M mm_prog d 21 [(12, (a0 + 14) + 11), (14, (a0 + 14) + 1)] h).bind fun o1 => (some (o1.1, o1.2))) else (some ((-1), h))))))))) := mm_go_R mm_prog [] d T_X11_now 10 0 [(20, a0), (0, a1)] [] h
set_option maxRecDepth 100000 in
set_option maxHeartbeats 4000000 in
theorem e_X11_fright (d : Nat) (h : mm_H) (a0 : Int) : mm_M mm_prog (d + 1) 112 [(20, a0)] h = (mm_M mm_prog d 146 [(20, a0), (0, 0), (0, 0)] h).bind fun o1 => (some (o1.1, o1.2)) := mm_go_R mm_prog [] d T_X11_fright 5 0 [(20, a0)] [] h
set_option maxRecDepth 100000 in
set_option maxHeartbeats 4000000 in
theorem e_X11_cure (d : Nat) (h : mm_H) (a0 : Int) : mm_M mm_prog (d + 1) 113 [(20, a0)] h = (mm_M mm_prog d 146 [(20, a0), (0, 1), (0, 0)] h).bind fun o1 => (some (o1.1, o1.2)) := mm_go_R mm_prog [] d T_X11_cure 5 0 [(20, a0)] [] h
set_option maxRecDepth 100000 in
set_option maxHeartbeats 4000000 in
theorem e_X11_fly (d : Nat) (h : mm_H) (a0 : Int) : mm_M mm_prog (d + 1) 114 [(20, a0)] h = (mm_M mm_prog d 146 [(20, a0), (0, 2), (0, 0)] h).bind fun o1 => (some (o1.1, o1.2)) := mm_go_R mm_prog [] d T_X11_fly 5 0 [(20, a0)] [] h
set_option maxRecDepth 100000 in
set_option maxHeartbeats 4000000 in
theorem e_X11_relieve (d : Nat) (h : mm_H) (a0 a1 : Int) : mm_M mm_prog (d + 1) 115 [(20, a0), (0, a1)] h = (mm_M mm_prog d 54 [(14, (a0 + 14) + 1), (0, a1)] h).bind fun o1 => (if o1.1 = 0 then (some ((-1), o1.2)) else ((mm_M mm_prog d 146 [(20, a0), (0, 3), (0, a1)] o1.2).bind fun o2 => (some (o2.1, o2.2)))) := mm_go_R mm_prog [] d T_X11_relieve 12 0 [(20, a0), (0, a1)] [] h
set_option maxRecDepth 100000 in
set_option maxHeartbeats 4000000 in
theorem e_X11_leave (d : Nat) (h : mm_H) (a0 a1 : Int) : mm_M mm_prog (d + 1) 116 [(20, a0), (0, a1)] h = (mm_M mm_prog d 51 [(14, (a0 + 14) + 1), (0, 1), (0, a1)] h).bind fun o1 => (if o1.1 = 0 then (some ((-1), o1.2)) else ((mm_M mm_prog d 146 [(20, a0), (0, 4), (0, a1)] o1.2).bind fun o2 => (some (o2.1, o2.2)))) := mm_go_R mm_prog [] d T_X11_leave 13 0 [(20, a0), (0, a1)] [] h
set_option maxRecDepth 100000 in
set_option maxHeartbeats 4000000 in
theorem e_X11_join (d : Nat) (h : mm_H) (a0 a1 : Int) : mm_M mm_prog (d + 1) 117 [(20, a0), (0, a1)] h = (mm_M mm_prog d 51 [(14, (a0 + 14) + 1), (0, 1), (0, a1)] h).bind fun o1 => (if o1.1 = 0 then (some ((-1), o1.2)) else ((mm_M mm_prog d 146 [(20, a0), (0, 5), (0, a1)] o1.2).bind fun o2 => (some (o2.1, o2.2)))) := mm_go_R mm_prog [] d T_X11_join 13 0 [(20, a0), (0, a1)] [] h
set_option maxRecDepth 100000 in
set_option maxHeartbeats 4000000 in
theorem e_X11_seconds (d : Nat) (h : mm_H) (a0 a1 : Int) : mm_M mm_prog (d + 1) 118 [(20, a0), (0, a1)] h = if a1 < 1 then (some ((-1), h)) else (if 60 < a1 then (some ((-1), h)) else ((mm_M mm_prog d 16 [(12, a0 + 68), (12, (a0 + 14) + 11)] h).bind fun o1 => ((mm_M mm_prog d 19 [(12, (a0 + 14) + 11)] o1.2).bind fun o2 => ((mm_M mm_prog d 26 [(12, (a0 + 14) + 11), (14, (a0 + 14) + 1), (0, 6), (0, min a1 o2.1)] o2.2).bind fun o3 => (if 0 < min a1 o2.1 then ((mm_M mm_prog d 147 [(20, a0), (0, 1)] o3.2).bind fun o4 => (some (min a1 o2.1, o4.2))) else ((mm_M mm_prog d 147 [(20, a0), (0, 0)] o3.2).bind fun o4 => (some (min a1 o2.1, o4.2)))))))) := mm_go_R mm_prog [] d T_X11_seconds 37 0 [(20, a0), (0, a1), (9, 0)] [] h
set_option maxRecDepth 100000 in
set_option maxHeartbeats 4000000 in
theorem e_X11_undo (d : Nat) (h : mm_H) (a0 : Int) : mm_M mm_prog (d + 1) 119 [(20, a0)] h = (mm_M mm_prog d 48 [(13, a0 + 34), (12, (a0 + 14) + 11)] h).bind fun o1 => (some (o1.1, o1.2)) := mm_go_R mm_prog [] d T_X11_undo 7 0 [(20, a0)] [] h
set_option maxRecDepth 100000 in
set_option maxHeartbeats 4000000 in
theorem e_X11_at (d : Nat) (h : mm_H) (a0 a1 a2 : Int) : mm_M mm_prog (d + 1) 120 [(20, a0), (0, a1), (0, a2)] h = (mm_M mm_prog d 51 [(14, (a0 + 14) + 1), (0, 1), (0, a1)] h).bind fun o1 => (if o1.1 = 0 then (some ((-1), o1.2)) else (if a2 < 0 then (some ((-1), o1.2)) else (if 99 < a2 then (some ((-1), o1.2)) else ((mm_M mm_prog d 24 [(12, (a0 + 14) + 11), (14, (a0 + 14) + 1), (0, a1), (0, a2)] o1.2).bind fun o2 => (some (o2.1, o2.2)))))) := mm_go_R mm_prog [] d T_X11_at 22 0 [(20, a0), (0, a1), (0, a2)] [] h
set_option maxRecDepth 100000 in
set_option maxHeartbeats 4000000 in
theorem e_X11_meet (d : Nat) (h : mm_H) (a0 a1 a2 : Int) : mm_M mm_prog (d + 1) 121 [(20, a0), (0, a1), (0, a2)] h = (mm_M mm_prog d 51 [(14, (a0 + 14) + 1), (0, 1), (0, a1)] h).bind fun o1 => (if o1.1 = 0 then (some ((-1), o1.2)) else ((mm_M mm_prog d 51 [(14, (a0 + 14) + 1), (0, 1), (0, a2)] o1.2).bind fun o2 => (if o2.1 = 0 then (some ((-1), o2.2)) else (mm_R mm_prog d T_X11_meet 34 [(20, a0), (0, a1), (0, a2), (0, 0)] [] o2.2)))) := mm_go_R mm_prog [34] d T_X11_meet 17 0 [(20, a0), (0, a1), (0, a2), (9, 0)] [] h
set_option maxRecDepth 100000 in
set_option maxHeartbeats 4000000 in
theorem e_X11_meet_34 (d : Nat) (h : mm_H) (x0 x1 x2 x3 : Int) : mm_R mm_prog d T_X11_meet 34 [(20, x0), (0, x1), (0, x2), (0, x3)] [] h = if x3 < h ((x0 + 14) + 1) 0 then ((mm_M mm_prog d 24 [(12, (x0 + 14) + 11), (14, (x0 + 14) + 1), (0, x1), (0, x3)] h).bind fun o1 => ((mm_M mm_prog d 24 [(12, (x0 + 14) + 11), (14, (x0 + 14) + 1), (0, x2), (0, x3)] o1.2).bind fun o2 => (if o1.1 = o2.1 then (some (x3, o2.2)) else (mm_R mm_prog d T_X11_meet 34 [(20, x0), (0, x1), (0, x2), (0, mm_w (x3 + 1))] [] o2.2)))) else (some ((-1), h)) := mm_go_R mm_prog [34] d T_X11_meet 28 34 [(20, x0), (0, x1), (0, x2), (0, x3)] [] h
set_option maxRecDepth 100000 in
set_option maxHeartbeats 4000000 in
theorem e_X11_when (d : Nat) (h : mm_H) (a0 a1 : Int) : mm_M mm_prog (d + 1) 122 [(20, a0), (0, a1)] h = (mm_M mm_prog d 51 [(14, (a0 + 14) + 1), (0, 2), (0, a1)] h).bind fun o1 => (if o1.1 = 0 then (some ((-1), o1.2)) else ((mm_M mm_prog d 16 [(12, a0 + 72), (12, (a0 + 14) + 11)] o1.2).bind fun o2 => ((mm_M mm_prog d 36 [(12, a0 + 72), (14, (a0 + 14) + 1), (0, a1)] o2.2).bind fun o3 => (some (o3.1, o3.2))))) := mm_go_R mm_prog [] d T_X11_when 21 0 [(20, a0), (0, a1)] [] h
set_option maxRecDepth 100000 in
set_option maxHeartbeats 4000000 in
theorem e_X11_once (d : Nat) (h : mm_H) (a0 a1 a2 : Int) : mm_M mm_prog (d + 1) 123 [(20, a0), (0, a1), (0, a2)] h = (mm_M mm_prog d 54 [(14, (a0 + 14) + 1), (0, a1)] h).bind fun o1 => (if o1.1 = 0 then (some ((-1), o1.2)) else ((mm_M mm_prog d 54 [(14, (a0 + 14) + 1), (0, a2)] o1.2).bind fun o2 => (if o2.1 = 0 then (some ((-1), o2.2)) else ((mm_M mm_prog d 55 [(14, (a0 + 14) + 1), (0, a1)] o2.2).bind fun o3 => ((mm_M mm_prog d 55 [(14, (a0 + 14) + 1), (0, a2)] o3.2).bind fun o4 => (mm_R mm_prog d T_X11_once 58 [(20, a0), (0, a1), (0, a2), (0, o3.1), (0, o4.1), (0, 1)] [] o4.2)))))) := mm_go_R mm_prog [58] d T_X11_once 27 0 [(20, a0), (0, a1), (0, a2), (9, 0), (9, 0), (9, 0)] [] h
set_option maxRecDepth 100000 in
set_option maxHeartbeats 4000000 in
theorem e_X11_once_58 (d : Nat) (h : mm_H) (x0 x1 x2 x3 x4 x5 : Int) : mm_R mm_prog d T_X11_once 58 [(20, x0), (0, x1), (0, x2), (0, x3), (0, x4), (0, x5)] [] h = if x4 < x5 then (some ((-1), h)) else ((mm_M mm_prog d 153 [(0, mm_w (x3 * x5)), (0, x4)] h).bind fun o1 => (if o1.1 = 0 then (some (mm_w (x3 * x5), o1.2)) else (mm_R mm_prog d T_X11_once 58 [(20, x0), (0, x1), (0, x2), (0, x3), (0, x4), (0, mm_w (x5 + 1))] [] o1.2))) := mm_go_R mm_prog [58] d T_X11_once 13 58 [(20, x0), (0, x1), (0, x2), (0, x3), (0, x4), (0, x5)] [] h
set_option maxRecDepth 100000 in
set_option maxHeartbeats 4000000 in
theorem e_X11_stood (d : Nat) (h : mm_H) (a0 : Int) : mm_M mm_prog (d + 1) 124 [(20, a0)] h = (mm_M mm_prog d 9 [(11, a0 + 76), (18, a0 + 1), (14, (a0 + 14) + 1)] h).bind fun o1 => (some (o1.1, mm_up o1.2 (a0 + 1) 1 0)) := mm_go_R mm_prog [] d T_X11_stood 15 0 [(20, a0), (9, 0)] [] h
set_option maxRecDepth 100000 in
set_option maxHeartbeats 4000000 in
theorem e_X11_stoodLeast (d : Nat) (h : mm_H) (a0 : Int) : mm_M mm_prog (d + 1) 125 [(20, a0)] h = some (h (a0 + 76) 1, h) := mm_go_R mm_prog [] d T_X11_stoodLeast 4 0 [(20, a0)] [] h
set_option maxRecDepth 100000 in
set_option maxHeartbeats 4000000 in
theorem e_X11_stoodMost (d : Nat) (h : mm_H) (a0 : Int) : mm_M mm_prog (d + 1) 126 [(20, a0)] h = some (h (a0 + 76) 2, h) := mm_go_R mm_prog [] d T_X11_stoodMost 4 0 [(20, a0)] [] h
set_option maxRecDepth 100000 in
set_option maxHeartbeats 4000000 in
theorem e_X11_next (d : Nat) (h : mm_H) (a0 : Int) : mm_M mm_prog (d + 1) 127 [(20, a0)] h = some (h (a0 + 76) 3, h) := mm_go_R mm_prog [] d T_X11_next 4 0 [(20, a0)] [] h
set_option maxRecDepth 100000 in
set_option maxHeartbeats 4000000 in
theorem e_X11_rows (d : Nat) (h : mm_H) (a0 a1 a2 : Int) : mm_M mm_prog (d + 1) 128 [(20, a0), (0, a1), (0, a2)] h = if a1 < 1 then (some ((-1), h)) else (if 60 < a1 then (some ((-1), h)) else (if a2 < 1 then (some ((-1), h)) else (if 5 < a2 then (some ((-1), h)) else ((mm_M mm_prog d 61 [(15, a0 + 78), (14, (a0 + 14) + 1), (0, a1), (0, a2)] h).bind fun o1 => (some (o1.1, o1.2)))))) := mm_go_R mm_prog [] d T_X11_rows 21 0 [(20, a0), (0, a1), (0, a2)] [] h
set_option maxRecDepth 100000 in
set_option maxHeartbeats 4000000 in
theorem e_X11_rowAt (d : Nat) (h : mm_H) (a0 a1 : Int) : mm_M mm_prog (d + 1) 129 [(20, a0), (0, a1)] h = if a1 < 0 then (some ((-1), h)) else (if a1 < h (a0 + 78) 2 then (if 0 ≤ a1 ∧ a1 < 5 then (some (h ((a0 + 78) + 8) a1, h)) else none) else (some ((-1), h))) := mm_go_R mm_prog [] d T_X11_rowAt 13 0 [(20, a0), (0, a1)] [] h
set_option maxRecDepth 100000 in
set_option maxHeartbeats 4000000 in
theorem e_X11_swift (d : Nat) (h : mm_H) (a0 a1 : Int) : mm_M mm_prog (d + 1) 130 [(20, a0), (0, a1)] h = (mm_M mm_prog d 51 [(14, (a0 + 14) + 1), (0, 2), (0, a1)] h).bind fun o1 => (if o1.1 = 0 then (some ((-1), o1.2)) else ((mm_M mm_prog d 18 [(12, (a0 + 14) + 11), (0, a1)] o1.2).bind fun o2 => (if o2.1 = 0 then (mm_R mm_prog d T_X11_swift 40 [(20, a0), (0, a1), (0, (-1)), (0, 601), (0, 0), (9, 0)] [] o2.2) else (some ((-1), o2.2))))) := mm_go_R mm_prog [40] d T_X11_swift 20 0 [(20, a0), (0, a1), (9, 0), (9, 0), (9, 0), (9, 0)] [] h
set_option maxRecDepth 100000 in
set_option maxHeartbeats 4000000 in
theorem e_X11_swift_40 (d : Nat) (h : mm_H) (x0 x1 x2 x3 x4 : Int) (u5 : mm_V) : mm_R mm_prog d T_X11_swift 40 [(20, x0), (0, x1), (0, x2), (0, x3), (0, x4), u5] [] h = (mm_M mm_prog d 53 [(14, (x0 + 14) + 1)] h).bind fun o1 => (if x4 < o1.1 then ((mm_M mm_prog d 16 [(12, x0 + 72), (12, (x0 + 14) + 11)] o1.2).bind fun o2 => ((mm_M mm_prog d 26 [(12, x0 + 72), (14, (x0 + 14) + 1), (0, 3), (0, x4)] o2.2).bind fun o3 => ((mm_M mm_prog d 36 [(12, x0 + 72), (14, (x0 + 14) + 1), (0, x1)] o3.2).bind fun o4 => (if o4.1 = (-1) then (mm_R mm_prog d T_X11_swift 40 [(20, x0), (0, x1), (0, x2), (0, x3), (0, mm_w (x4 + 1)), (0, o4.1)] [] o4.2) else (if o4.1 < x3 then (mm_R mm_prog d T_X11_swift 40 [(20, x0), (0, x1), (0, x4), (0, o4.1), (0, mm_w (x4 + 1)), (0, o4.1)] [] o4.2) else (mm_R mm_prog d T_X11_swift 40 [(20, x0), (0, x1), (0, x2), (0, x3), (0, mm_w (x4 + 1)), (0, o4.1)] [] o4.2)))))) else (some (x2, o1.2))) := mm_go_R mm_prog [40] d T_X11_swift 42 40 [(20, x0), (0, x1), (0, x2), (0, x3), (0, x4), u5] [] h
set_option maxRecDepth 100000 in
set_option maxHeartbeats 4000000 in
theorem e_X11_joins (d : Nat) (h : mm_H) (a0 a1 : Int) : mm_M mm_prog (d + 1) 131 [(20, a0), (0, a1)] h = (mm_M mm_prog d 51 [(14, (a0 + 14) + 1), (0, 1), (0, a1)] h).bind fun o1 => (if o1.1 = 0 then (some ((-1), o1.2)) else ((mm_M mm_prog d 17 [(12, (a0 + 14) + 11), (0, a1)] o1.2).bind fun o2 => (if o2.1 = 0 then (some ((-1), o2.2)) else ((mm_M mm_prog d 16 [(12, a0 + 72), (12, (a0 + 14) + 11)] o2.2).bind fun o3 => ((mm_M mm_prog d 37 [(12, a0 + 72), (14, (a0 + 14) + 1), (0, a1)] o3.2).bind fun o4 => (some (o4.1, o4.2))))))) := mm_go_R mm_prog [] d T_X11_joins 27 0 [(20, a0), (0, a1)] [] h
set_option maxRecDepth 100000 in
set_option maxHeartbeats 4000000 in
theorem e_X11_vote (d : Nat) (h : mm_H) (a0 : Int) : mm_M mm_prog (d + 1) 132 [(20, a0)] h = mm_R mm_prog d T_X11_vote 16 [(20, a0), (0, 1), (9, 0)] [] (mm_up h a0 14 (h ((a0 + 14) + 11) 5)) := mm_go_R mm_prog [16] d T_X11_vote 9 0 [(20, a0), (9, 0), (9, 0)] [] h
set_option maxRecDepth 100000 in
set_option maxHeartbeats 4000000 in
theorem e_X11_vote_16 (d : Nat) (h : mm_H) (x0 x1 : Int) (u2 : mm_V) : mm_R mm_prog d T_X11_vote 16 [(20, x0), (0, x1), u2] [] h = if x1 < 10 then ((mm_M mm_prog d 43 [(12, (x0 + 14) + 11), (14, (x0 + 14) + 1), (0, h x0 14)] h).bind fun o1 => (if o1.1 = o1.2 x0 14 then (some (x1, o1.2)) else (mm_R mm_prog d T_X11_vote 16 [(20, x0), (0, mm_w (x1 + 1)), (0, o1.1)] [] (mm_up o1.2 x0 14 o1.1)))) else ((mm_M mm_prog d 43 [(12, (x0 + 14) + 11), (14, (x0 + 14) + 1), (0, h x0 14)] h).bind fun o1 => (some (10, mm_up o1.2 x0 14 o1.1))) := mm_go_R mm_prog [16] d T_X11_vote 23 16 [(20, x0), (0, x1), u2] [] h
set_option maxRecDepth 100000 in
set_option maxHeartbeats 4000000 in
theorem e_X11_voted (d : Nat) (h : mm_H) (a0 : Int) : mm_M mm_prog (d + 1) 133 [(20, a0)] h = some (h a0 14, h) := mm_go_R mm_prog [] d T_X11_voted 3 0 [(20, a0)] [] h
set_option maxRecDepth 100000 in
set_option maxHeartbeats 4000000 in
theorem e_X11_tag (d : Nat) (h : mm_H) (a0 a1 : Int) : mm_M mm_prog (d + 1) 134 [(20, a0), (0, a1)] h = (mm_M mm_prog d 51 [(14, (a0 + 14) + 1), (0, 1), (0, a1)] h).bind fun o1 => (if o1.1 = 0 then (some ((-1), o1.2)) else ((mm_M mm_prog d 57 [(14, (a0 + 14) + 1), (0, 1), (0, a1)] (mm_up o1.2 a0 12 0)).bind fun o2 => ((mm_M mm_prog d 149 [(20, a0), (1, o2.1)] o2.2).bind fun o3 => ((mm_M mm_prog d 150 [(20, a0), (3, 0)] o3.2).bind fun o4 => (if 0 ≤ a1 ∧ a1 < 7 then ((mm_M mm_prog d 151 [(20, a0), (0, o4.2 (((a0 + 14) + 11) + 1) a1)] o4.2).bind fun o5 => ((mm_M mm_prog d 17 [(12, (a0 + 14) + 11), (0, a1)] o5.2).bind fun o6 => (if o6.1 = 0 then (if o6.2 ((a0 + 14) + 11) 3 = 0 then ((mm_M mm_prog d 150 [(20, a0), (3, 3)] o6.2).bind fun o7 => (some (o7.2 a0 12, o7.2))) else ((mm_M mm_prog d 150 [(20, a0), (3, 2)] o6.2).bind fun o7 => (some (o7.2 a0 12, o7.2)))) else ((mm_M mm_prog d 150 [(20, a0), (3, 1)] o6.2).bind fun o7 => (some (o7.2 a0 12, o7.2)))))) else none))))) := mm_go_R mm_prog [] d T_X11_tag 47 0 [(20, a0), (0, a1)] [] h
set_option maxRecDepth 100000 in
set_option maxHeartbeats 4000000 in
theorem e_X11_byteAt (d : Nat) (h : mm_H) (a0 a1 : Int) : mm_M mm_prog (d + 1) 135 [(20, a0), (0, a1)] h = if a1 < 0 then (some ((-1), h)) else (if a1 < h a0 12 then (if 0 ≤ a1 ∧ a1 < 21 then (some (h (a0 + 94) a1, h)) else none) else (some ((-1), h))) := mm_go_R mm_prog [] d T_X11_byteAt 11 0 [(20, a0), (0, a1)] [] h
set_option maxRecDepth 100000 in
set_option maxHeartbeats 4000000 in
theorem e_X11_drawn (d : Nat) (h : mm_H) (a0 a1 a2 : Int) : mm_M mm_prog (d + 1) 136 [(20, a0), (0, a1), (0, a2)] h = if a1 < 1 then (some ((-1), h)) else (if 60 < a1 then (some ((-1), h)) else ((mm_M mm_prog d 16 [(12, a0 + 68), (12, (a0 + 14) + 11)] h).bind fun o1 => ((mm_M mm_prog d 38 [(12, (a0 + 14) + 11), (14, (a0 + 14) + 1), (0, a1), (0, a2)] o1.2).bind fun o2 => (if 0 < o2.1 then ((mm_M mm_prog d 147 [(20, a0), (0, 1)] o2.2).bind fun o3 => (some (o2.1, o3.2))) else ((mm_M mm_prog d 147 [(20, a0), (0, 0)] o2.2).bind fun o3 => (some (o2.1, o3.2))))))) := mm_go_R mm_prog [] d T_X11_drawn 30 0 [(20, a0), (0, a1), (0, a2), (9, 0)] [] h
set_option maxRecDepth 100000 in
set_option maxHeartbeats 4000000 in
theorem e_X11_odds (d : Nat) (h : mm_H) (a0 a1 a2 a3 : Int) : mm_M mm_prog (d + 1) 137 [(20, a0), (0, a1), (0, a2), (0, a3)] h = (mm_M mm_prog d 51 [(14, (a0 + 14) + 1), (0, 2), (0, a1)] h).bind fun o1 => (if o1.1 = 0 then (some ((-1), o1.2)) else (if a2 < 1 then (some ((-1), o1.2)) else (if 30 < a2 then (some ((-1), o1.2)) else (mm_R mm_prog d T_X11_odds 34 [(20, a0), (0, a1), (0, a2), (0, a3), (0, 0), (0, 0)] [] o1.2)))) := mm_go_R mm_prog [34] d T_X11_odds 18 0 [(20, a0), (0, a1), (0, a2), (0, a3), (9, 0), (9, 0)] [] h
set_option maxRecDepth 100000 in
set_option maxHeartbeats 4000000 in
theorem e_X11_odds_34 (d : Nat) (h : mm_H) (x0 x1 x2 x3 x4 x5 : Int) : mm_R mm_prog d T_X11_odds 34 [(20, x0), (0, x1), (0, x2), (0, x3), (0, x4), (0, x5)] [] h = if x5 < x2 then ((mm_M mm_prog d 16 [(12, x0 + 72), (12, (x0 + 14) + 11)] h).bind fun o1 => ((mm_M mm_prog d 38 [(12, x0 + 72), (14, (x0 + 14) + 1), (0, 60), (0, mm_w (x3 + x5))] o1.2).bind fun o2 => ((mm_M mm_prog d 18 [(12, x0 + 72), (0, x1)] o2.2).bind fun o3 => (if o3.1 = 0 then (mm_R mm_prog d T_X11_odds 34 [(20, x0), (0, x1), (0, x2), (0, x3), (0, x4), (0, mm_w (x5 + 1))] [] o3.2) else (mm_R mm_prog d T_X11_odds 34 [(20, x0), (0, x1), (0, x2), (0, x3), (0, mm_w (x4 + 1)), (0, mm_w (x5 + 1))] [] o3.2))))) else (some (x4, h)) := mm_go_R mm_prog [34] d T_X11_odds 29 34 [(20, x0), (0, x1), (0, x2), (0, x3), (0, x4), (0, x5)] [] h
set_option maxRecDepth 100000 in
set_option maxHeartbeats 4000000 in
theorem e_X11_book (d : Nat) (h : mm_H) (a0 a1 : Int) : mm_M mm_prog (d + 1) 138 [(20, a0), (0, a1)] h = if a1 = 0 then ((mm_M mm_prog d 83 [(18, a0 + 1), (0, 400)] h).bind fun o1 => ((mm_M mm_prog d 0 [(10, a0 + 87), (18, a0 + 1), (14, (a0 + 14) + 1)] o1.2).bind fun o2 => ((mm_M mm_prog d 145 [(20, a0)] o2.2).bind fun o3 => (if o3.1 = 0 then ((mm_M mm_prog d 16 [(12, a0 + 68), (12, (a0 + 14) + 11)] o3.2).bind fun o4 => ((mm_M mm_prog d 7 [(10, a0 + 87), (14, (a0 + 14) + 1), (12, (a0 + 14) + 11)] o4.2).bind fun o5 => (if a1 = 0 then ((mm_M mm_prog d 16 [(12, (a0 + 14) + 11), (12, a0 + 68)] o5.2).bind fun o6 => (some (o5.1, o6.2))) else (if 0 < o5.2 (a0 + 87) 5 then ((mm_M mm_prog d 147 [(20, a0), (0, 1)] o5.2).bind fun o6 => (some (o5.1, o6.2))) else ((mm_M mm_prog d 147 [(20, a0), (0, 0)] o5.2).bind fun o6 => (some (o5.1, o6.2))))))) else (some (mm_w ((-2) - (o3.2 (a0 + 1) 9)), o3.2)))))) else (if a1 = 1 then ((mm_M mm_prog d 83 [(18, a0 + 1), (0, 400)] h).bind fun o1 => ((mm_M mm_prog d 0 [(10, a0 + 87), (18, a0 + 1), (14, (a0 + 14) + 1)] o1.2).bind fun o2 => ((mm_M mm_prog d 145 [(20, a0)] o2.2).bind fun o3 => (if o3.1 = 0 then ((mm_M mm_prog d 16 [(12, a0 + 68), (12, (a0 + 14) + 11)] o3.2).bind fun o4 => ((mm_M mm_prog d 7 [(10, a0 + 87), (14, (a0 + 14) + 1), (12, (a0 + 14) + 11)] o4.2).bind fun o5 => (if a1 = 0 then ((mm_M mm_prog d 16 [(12, (a0 + 14) + 11), (12, a0 + 68)] o5.2).bind fun o6 => (some (o5.1, o6.2))) else (if 0 < o5.2 (a0 + 87) 5 then ((mm_M mm_prog d 147 [(20, a0), (0, 1)] o5.2).bind fun o6 => (some (o5.1, o6.2))) else ((mm_M mm_prog d 147 [(20, a0), (0, 0)] o5.2).bind fun o6 => (some (o5.1, o6.2))))))) else (some (mm_w ((-2) - (o3.2 (a0 + 1) 9)), o3.2)))))) else (some ((-1000), h))) := mm_go_R mm_prog [] d T_X11_book 49 0 [(20, a0), (0, a1), (9, 0)] [] h
set_option maxRecDepth 100000 in
set_option maxHeartbeats 4000000 in
theorem e_X11_told (d : Nat) (h : mm_H) (a0 a1 : Int) : mm_M mm_prog (d + 1) 139 [(20, a0), (0, a1)] h = (mm_M mm_prog d 8 [(10, a0 + 87), (0, a1)] h).bind fun o1 => (some (o1.1, o1.2)) := mm_go_R mm_prog [] d T_X11_told 5 0 [(20, a0), (0, a1)] [] h
set_option maxRecDepth 100000 in
set_option maxHeartbeats 4000000 in
theorem e_X11_sentence (d : Nat) (h : mm_H) (a0 : Int) : mm_M mm_prog (d + 1) 140 [(20, a0)] h = (mm_M mm_prog d 83 [(18, a0 + 1), (0, 200)] h).bind fun o1 => ((mm_M mm_prog d 70 [(17, a0 + 90), (18, a0 + 1), (14, (a0 + 14) + 1)] o1.2).bind fun o2 => ((mm_M mm_prog d 145 [(20, a0)] o2.2).bind fun o3 => (if o3.1 = 0 then ((mm_M mm_prog d 69 [(17, (a0 + 14) + 15), (17, a0 + 90)] o3.2).bind fun o4 => (some (o4.2 ((a0 + 14) + 15) 4, o4.2))) else (some (mm_w ((-1) - (o3.2 (a0 + 1) 9)), o3.2))))) := mm_go_R mm_prog [] d T_X11_sentence 27 0 [(20, a0)] [] h
set_option maxRecDepth 100000 in
set_option maxHeartbeats 4000000 in
theorem e_X11_said (d : Nat) (h : mm_H) (a0 a1 : Int) : mm_M mm_prog (d + 1) 141 [(20, a0), (0, a1)] h = (mm_M mm_prog d 68 [(17, (a0 + 14) + 15)] h).bind fun o1 => (if o1.1 = 0 then (some ((-1), o1.2)) else (mm_R mm_prog d T_X11_said 19 [(20, a0), (0, a1), (0, 0), (0, 0)] [] o1.2)) := mm_go_R mm_prog [19] d T_X11_said 10 0 [(20, a0), (0, a1), (9, 0), (9, 0)] [] h
set_option maxRecDepth 100000 in
set_option maxHeartbeats 4000000 in
theorem e_X11_said_19 (d : Nat) (h : mm_H) (x0 x1 x2 x3 : Int) : mm_R mm_prog d T_X11_said 19 [(20, x0), (0, x1), (0, x2), (0, x3)] [] h = if x3 < h (((x0 + 14) + 1) + 1) 1 then ((mm_M mm_prog d 77 [(17, (x0 + 14) + 15), (14, (x0 + 14) + 1), (12, (x0 + 14) + 11), (0, x3)] h).bind fun o1 => (if o1.1 = 0 then (mm_R mm_prog d T_X11_said 19 [(20, x0), (0, x1), (0, x2), (0, mm_w (x3 + 1))] [] o1.2) else (if x2 = x1 then (some (x3, o1.2)) else (mm_R mm_prog d T_X11_said 19 [(20, x0), (0, x1), (0, mm_w (x2 + 1)), (0, mm_w (x3 + 1))] [] o1.2)))) else (if x1 = (-1) then (some (x2, h)) else (some ((-1), h))) := mm_go_R mm_prog [19] d T_X11_said 27 19 [(20, x0), (0, x1), (0, x2), (0, x3)] [] h
set_option maxRecDepth 100000 in
set_option maxHeartbeats 4000000 in
theorem e_X11_image (d : Nat) (h : mm_H) (a0 a1 : Int) : mm_M mm_prog (d + 1) 142 [(20, a0), (0, a1)] h = (mm_M mm_prog d 87 [(20, a0), (0, a1)] h).bind fun o1 => (mm_R mm_prog d T_X11_image 5 [(20, a0), (0, a1), (9, 0)] [mm_tv 6 o1.1] o1.2) := mm_go_R mm_prog [5] d T_X11_image 4 0 [(20, a0), (0, a1), (9, 0)] [] h
set_option maxRecDepth 100000 in
set_option maxHeartbeats 4000000 in
theorem e_X11_image_5 (d : Nat) (h : mm_H) (x0 x1 s0 : Int) : mm_R mm_prog d T_X11_image 5 [(20, x0), (0, x1), (9, 0)] [(16, s0)] h = (mm_M mm_prog d 66 [(16, s0), (16, x0 + 14)] h).bind fun o1 => (some (1, mm_up o1.2 s0 3 1)) := mm_go_R mm_prog [5] d T_X11_image 12 5 [(20, x0), (0, x1), (9, 0)] [(16, s0)] h
set_option maxRecDepth 100000 in
set_option maxHeartbeats 4000000 in
theorem e_X11_image_5n (d : Nat) (h : mm_H) (x0 x1 : Int) : mm_R mm_prog d T_X11_image 5 [(20, x0), (0, x1), (9, 0)] [(6, 0)] h = some (0, h) := mm_go_R mm_prog [5] d T_X11_image 5 5 [(20, x0), (0, x1), (9, 0)] [(6, 0)] h
set_option maxRecDepth 100000 in
set_option maxHeartbeats 4000000 in
theorem e_X11_restore (d : Nat) (h : mm_H) (a0 a1 : Int) : mm_M mm_prog (d + 1) 143 [(20, a0), (0, a1)] h = (mm_M mm_prog d 87 [(20, a0), (0, a1)] h).bind fun o1 => (mm_R mm_prog d T_X11_restore 5 [(20, a0), (0, a1), (9, 0)] [mm_tv 6 o1.1] o1.2) := mm_go_R mm_prog [5] d T_X11_restore 4 0 [(20, a0), (0, a1), (9, 0)] [] h
set_option maxRecDepth 100000 in
set_option maxHeartbeats 4000000 in
theorem e_X11_restore_5 (d : Nat) (h : mm_H) (x0 x1 s0 : Int) : mm_R mm_prog d T_X11_restore 5 [(20, x0), (0, x1), (9, 0)] [(16, s0)] h = if h s0 3 = 0 then (some (0, h)) else ((mm_M mm_prog d 66 [(16, x0 + 14), (16, s0)] h).bind fun o1 => ((mm_M mm_prog d 46 [(13, x0 + 34)] o1.2).bind fun o2 => (some (1, o2.2)))) := mm_go_R mm_prog [5] d T_X11_restore 15 5 [(20, x0), (0, x1), (9, 0)] [(16, s0)] h
set_option maxRecDepth 100000 in
set_option maxHeartbeats 4000000 in
theorem e_X11_restore_5n (d : Nat) (h : mm_H) (x0 x1 : Int) : mm_R mm_prog d T_X11_restore 5 [(20, x0), (0, x1), (9, 0)] [(6, 0)] h = some (0, h) := mm_go_R mm_prog [5] d T_X11_restore 5 5 [(20, x0), (0, x1), (9, 0)] [(6, 0)] h
set_option maxRecDepth 100000 in
set_option maxHeartbeats 4000000 in
theorem e_X11_count (d : Nat) (h : mm_H) (a0 a1 : Int) : mm_M mm_prog (d + 1) 144 [(20, a0), (0, a1)] h = if a1 = 0 then (some (h ((a0 + 14) + 1) 0, h)) else (if a1 = 1 then (some (h (((a0 + 14) + 1) + 1) 0, h)) else (if a1 = 2 then (some (h (((a0 + 14) + 1) + 1) 1, h)) else (if a1 = 3 then (some (h (((a0 + 14) + 1) + 1) 2, h)) else (if a1 = 4 then (some (h (((a0 + 14) + 1) + 1) 3, h)) else (if a1 = 5 then (some (h (a0 + 1) 1, h)) else (some ((-1), h))))))) := mm_go_R mm_prog [] d T_X11_count 9 0 [(20, a0), (0, a1)] [] h
set_option maxRecDepth 100000 in
set_option maxHeartbeats 4000000 in
theorem e_X11_endText (d : Nat) (h : mm_H) (a0 : Int) : mm_M mm_prog (d + 1) 145 [(20, a0)] h = if (mm_up (mm_up h (a0 + 1) 1 0) a0 13 ((mm_up h (a0 + 1) 1 0) (a0 + 1) 8)) (a0 + 1) 8 = 0 then (some (0, mm_up (mm_up h (a0 + 1) 1 0) a0 13 ((mm_up h (a0 + 1) 1 0) (a0 + 1) 8))) else (some (1, mm_up (mm_up h (a0 + 1) 1 0) a0 13 ((mm_up h (a0 + 1) 1 0) (a0 + 1) 8))) := mm_go_R mm_prog [] d T_X11_endText 16 0 [(20, a0)] [] h
set_option maxRecDepth 100000 in
set_option maxHeartbeats 4000000 in
theorem e_X11_actKept (d : Nat) (h : mm_H) (a0 a1 a2 : Int) : mm_M mm_prog (d + 1) 146 [(20, a0), (0, a1), (0, a2)] h = (mm_M mm_prog d 16 [(12, a0 + 68), (12, (a0 + 14) + 11)] h).bind fun o1 => ((mm_M mm_prog d 26 [(12, (a0 + 14) + 11), (14, (a0 + 14) + 1), (0, a1), (0, a2)] o1.2).bind fun o2 => (if o2.1 = 0 then ((mm_M mm_prog d 147 [(20, a0), (0, 1)] o2.2).bind fun o3 => (some (o2.1, o3.2))) else ((mm_M mm_prog d 147 [(20, a0), (0, 0)] o2.2).bind fun o3 => (some (o2.1, o3.2))))) := mm_go_R mm_prog [] d T_X11_actKept 24 0 [(20, a0), (0, a1), (0, a2), (9, 0)] [] h
set_option maxRecDepth 100000 in
set_option maxHeartbeats 4000000 in
theorem e_X11_keepBefore (d : Nat) (h : mm_H) (a0 a1 : Int) : mm_M mm_prog (d + 1) 147 [(20, a0), (0, a1)] h = if a1 = 0 then (some (0, h)) else ((mm_M mm_prog d 47 [(13, a0 + 34), (12, a0 + 68)] h).bind fun o1 => (some (0, o1.2))) := mm_go_R mm_prog [] d T_X11_keepBefore 8 0 [(20, a0), (0, a1)] [] h
set_option maxRecDepth 100000 in
set_option maxHeartbeats 4000000 in
theorem e_X11_tagByte (d : Nat) (h : mm_H) (a0 a1 : Int) : mm_M mm_prog (d + 1) 148 [(20, a0), (0, a1)] h = if h a0 12 < 21 then (if 0 ≤ h a0 12 ∧ h a0 12 < 21 then (some (0, mm_up (mm_up h (a0 + 94) (h a0 12) (mm_w8 (mm_w8 a1))) a0 12 (mm_w (((mm_up h (a0 + 94) (h a0 12) (mm_w8 (mm_w8 a1))) a0 12) + 1)))) else none) else (some (0, h)) := mm_go_R mm_prog [] d T_X11_tagByte 18 0 [(20, a0), (0, a1)] [] h
set_option maxRecDepth 100000 in
set_option maxHeartbeats 4000000 in
theorem e_X11_tagName (d : Nat) (h : mm_H) (a0 a1 : Int) : mm_M mm_prog (d + 1) 149 [(20, a0), (1, a1)] h = mm_R mm_prog d T_X11_tagName 3 [(20, a0), (1, a1), (9, 0), (0, 48), (9, 0)] [] h := mm_go_R mm_prog [3] d T_X11_tagName 3 0 [(20, a0), (1, a1), (9, 0), (9, 0), (9, 0)] [] h
set_option maxRecDepth 100000 in
set_option maxHeartbeats 4000000 in
theorem e_X11_tagName_3 (d : Nat) (h : mm_H) (x0 x1 x3 : Int) (u4 : mm_V) : mm_R mm_prog d T_X11_tagName 3 [(20, x0), (1, x1), (9, 0), (0, x3), u4] [] h = if x3 < 0 then (some (0, h)) else (if mm_and (mm_w (mm_lushr x1 x3)) 255 = 0 then (mm_R mm_prog d T_X11_tagName 3 [(20, x0), (1, x1), (9, 0), (0, mm_w (x3 + (-8))), (0, mm_and (mm_w (mm_lushr x1 x3)) 255)] [] h) else ((mm_M mm_prog d 148 [(20, x0), (0, mm_and (mm_w (mm_lushr x1 x3)) 255)] h).bind fun o1 => (mm_R mm_prog d T_X11_tagName 3 [(20, x0), (1, x1), (9, 0), (0, mm_w (x3 + (-8))), (0, mm_and (mm_w (mm_lushr x1 x3)) 255)] [] o1.2))) := mm_go_R mm_prog [3] d T_X11_tagName 17 3 [(20, x0), (1, x1), (9, 0), (0, x3), u4] [] h
set_option maxRecDepth 100000 in
set_option maxHeartbeats 4000000 in
theorem e_X11_tagText (d : Nat) (h : mm_H) (a0 a1 : Int) : mm_M mm_prog (d + 1) 150 [(20, a0), (3, a1)] h = mm_R mm_prog d T_X11_tagText 2 [(20, a0), (3, a1), (0, 0)] [] h := mm_go_R mm_prog [2] d T_X11_tagText 3 0 [(20, a0), (3, a1), (9, 0)] [] h
set_option maxRecDepth 100000 in
set_option maxHeartbeats 4000000 in
theorem e_X11_tagText_2 (d : Nat) (h : mm_H) (x0 x1 x2 : Int) : mm_R mm_prog d T_X11_tagText 2 [(20, x0), (3, x1), (0, x2)] [] h = if x2 < ((mm_txt x1).length : Nat) then (if 0 ≤ x2 ∧ x2 < ((mm_txt x1).length : Nat) then ((mm_M mm_prog d 148 [(20, x0), (0, (mm_txt x1).getD x2.toNat 0)] h).bind fun o1 => (mm_R mm_prog d T_X11_tagText 2 [(20, x0), (3, x1), (0, mm_w (x2 + 1))] [] o1.2)) else none) else (some (0, h)) := mm_go_R mm_prog [2] d T_X11_tagText 12 2 [(20, x0), (3, x1), (0, x2)] [] h
set_option maxRecDepth 100000 in
set_option maxHeartbeats 4000000 in
theorem e_X11_tagNumber (d : Nat) (h : mm_H) (a0 a1 : Int) : mm_M mm_prog (d + 1) 151 [(20, a0), (0, a1)] h = if a1 < 10 then (if 10 = 0 then none else ((mm_M mm_prog d 148 [(20, a0), (0, mm_w (48 + (mm_rem a1 10)))] h).bind fun o1 => (some (0, o1.2)))) else (if 10 = 0 then none else ((mm_M mm_prog d 148 [(20, a0), (0, mm_w (48 + (mm_div a1 10)))] h).bind fun o1 => (if 10 = 0 then none else ((mm_M mm_prog d 148 [(20, a0), (0, mm_w (48 + (mm_rem a1 10)))] o1.2).bind fun o2 => (some (0, o2.2)))))) := mm_go_R mm_prog [] d T_X11_tagNumber 18 0 [(20, a0), (0, a1)] [] h
set_option maxRecDepth 100000 in
set_option maxHeartbeats 4000000 in
theorem e_X11_hasBit (d : Nat) (h : mm_H) (a0 a1 : Int) : mm_M mm_prog (d + 1) 152 [(0, a0), (0, a1)] h = if mm_and (mm_ushr a0 a1) 1 = 1 then (some (1, h)) else (some (0, h)) := mm_go_R mm_prog [] d T_X11_hasBit 10 0 [(0, a0), (0, a1)] [] h
set_option maxRecDepth 100000 in
set_option maxHeartbeats 4000000 in
theorem e_X11_remainder (d : Nat) (h : mm_H) (a0 a1 : Int) : mm_M mm_prog (d + 1) 153 [(0, a0), (0, a1)] h = if 0 < a1 then (if a1 = 0 then none else (some (mm_rem a0 a1, h))) else (some (a0, h)) := mm_go_R mm_prog [] d T_X11_remainder 6 0 [(0, a0), (0, a1)] [] h
set_option maxRecDepth 100000 in
set_option maxHeartbeats 4000000 in
theorem e_X11_person (d : Nat) (h : mm_H) (a0 a1 a2 : Int) : mm_M mm_prog (d + 1) 284 [(20, a0), (0, a1), (0, a2)] h = (mm_M mm_prog d 51 [(14, (a0 + 14) + 1), (0, 1), (0, a1)] h).bind fun o1 => (if o1.1 = 0 then (none) else (if a2 = 0 then (if 0 ≤ a1 ∧ a1 < 7 then (some (o1.2 (((a0 + 14) + 11) + 1) a1, o1.2)) else none) else (if a2 = 1 then (if 0 ≤ a1 ∧ a1 < 7 then (some (o1.2 (((a0 + 14) + 1) + 5) a1, o1.2)) else none) else (if a2 = 2 then ((mm_M mm_prog d 17 [(12, (a0 + 14) + 11), (0, a1)] o1.2).bind fun o2 => (if o2.1 = 0 then (some (0, o2.2)) else (some (1, o2.2)))) else (if a2 = 3 then (if 0 ≤ a1 ∧ a1 < 7 then (some (o1.2 (((a0 + 14) + 11) + 2) a1, o1.2)) else none) else (if a2 = 4 then ((mm_M mm_prog d 23 [(12, (a0 + 14) + 11), (14, (a0 + 14) + 1), (0, a1)] o1.2).bind fun o2 => (if o2.1 = 0 then (some (0, o2.2)) else (some (1, o2.2)))) else (none))))))) := mm_go_R mm_prog [] d T_X11_person 21 0 [(20, a0), (0, a1), (0, a2)] [] h
