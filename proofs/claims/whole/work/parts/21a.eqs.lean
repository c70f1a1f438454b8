set_option maxRecDepth 100000 in
set_option maxHeartbeats 400000 in
/-- IllLight$Course.begin(LIllLight$Coast;)V -/
theorem E_X1_begin (h : PH) (a : Nat) : pm_ev (29, 0, [vr 1 0, vr 0 a], [], h) = (pm_bV (pm_ev (1, 0, [vr 0 9, vr 0 a], [], h)) fun h1 => some (none, (pm_sI (pm_sI (pm_sI (pm_sI h1 1 0 1 0) 1 0 2 0) 1 0 3 0) 1 0 4 0))) := (ev_rc [] 120 _).trans rfl
set_option maxRecDepth 100000 in
set_option maxHeartbeats 400000 in
/-- IllLight$Course.follow(LIllLight$Coast;LIllLight$Night;I)I -/
theorem E_X1_follow (h : PH) (a : Nat) (b : Nat) (c : Int32) : pm_ev (30, 0, [vr 1 0, vr 0 a, vr 3 b, vi c, none, none, none, none], [], h) = (pm_bV (pm_ev (29, 0, [vr 1 0, vr 0 a], [], h)) fun h1 => pm_ev (30, 8, [vr 1 0, none, vr 3 b, vi c, vi 0, none, none, none], [], h1)) := (ev_rc [8, 30, 45, 77, 86, 95, 101] 120 _).trans rfl
set_option maxRecDepth 100000 in
set_option maxHeartbeats 400000 in
/-- IllLight$Course.follow(LIllLight$Coast;LIllLight$Night;I)I -/
theorem E_X1_follow_8 (h : PH) (q2 : Nat) (x3 : Int32) (x4 : Int32) : pm_ev (30, 8, [vr 1 0, none, vr 3 q2, vi x3, vi x4, none, none, none], [], h) = (if x4 < x3 then (if x4 < h.1 3 q2 0 then (if pm_inb x4 40 = true then pm_ev (30, 30, [vr 1 0, none, vr 3 q2, vi x3, vi x4, none, none, none], [vi (h.1 22 q2 x4.toNatClampNeg)], h) else none) else pm_ev (30, 101, [none, none, none, none, vi x4, none, none, none], [], h)) else pm_ev (30, 101, [none, none, none, none, vi x4, none, none, none], [], h)) := (ev_rc [8, 30, 45, 77, 86, 95, 101] 120 _).trans rfl
set_option maxRecDepth 100000 in
set_option maxHeartbeats 400000 in
/-- IllLight$Course.follow(LIllLight$Coast;LIllLight$Night;I)I -/
theorem E_X1_follow_30 (h : PH) (q2 : Nat) (x3 : Int32) (x4 : Int32) (s0 : Int32) : pm_ev (30, 30, [vr 1 0, none, vr 3 q2, vi x3, vi x4, none, none, none], [vi s0], h) = (if pm_inb (3 * x4) 120 = true then pm_ev (30, 45, [vr 1 0, none, vr 3 q2, vi x3, vi x4, vi s0, vi (3 * x4), none], [vi (h.1 23 q2 ((3 * x4).toNatClampNeg))], h) else none) := (ev_rc [8, 30, 45, 77, 86, 95, 101] 120 _).trans rfl
set_option maxRecDepth 100000 in
set_option maxHeartbeats 400000 in
/-- IllLight$Course.follow(LIllLight$Coast;LIllLight$Night;I)I -/
theorem E_X1_follow_101 (h : PH) (x4 : Int32) : pm_ev (30, 101, [none, none, none, none, vi x4, none, none, none], [], h) = some (some (vi x4), h) := (ev_rc [8, 30, 45, 77, 86, 95, 101] 120 _).trans rfl
set_option maxRecDepth 100000 in
set_option maxHeartbeats 400000 in
/-- IllLight$Course.follow(LIllLight$Coast;LIllLight$Night;I)I -/
theorem E_X1_follow_45 (h : PH) (q2 : Nat) (x3 : Int32) (x4 : Int32) (x5 : Int32) (x6 : Int32) (s0 : Int32) : pm_ev (30, 45, [vr 1 0, none, vr 3 q2, vi x3, vi x4, vi x5, vi x6, none], [vi s0], h) = (if x5 = 3 then (pm_bI (pm_ev (37, 0, [vr 1 0, none, none, none, none, none, none, none], [], h)) fun r3 h2 => (if r3 = 0 then pm_ev (30, 101, [none, none, none, none, vi x4, none, none, none], [], h2) else pm_ev (30, 95, [vr 1 0, none, vr 3 q2, vi x3, vi x4, none, none, none], [], h2))) else (if pm_inb (x6 + 1) 120 = true then pm_ev (30, 77, [vr 1 0, none, vr 3 q2, vi x3, vi x4, vi x5, vi x6, vi s0], [vi (h.1 23 q2 ((x6 + 1).toNatClampNeg)), vi s0, vi x5, vr 1 0], h) else none)) := (ev_rc [8, 30, 45, 77, 86, 95, 101] 120 _).trans rfl
set_option maxRecDepth 100000 in
set_option maxHeartbeats 400000 in
/-- IllLight$Course.follow(LIllLight$Coast;LIllLight$Night;I)I -/
theorem E_X1_follow_95 (h : PH) (q2 : Nat) (x3 : Int32) (x4 : Int32) : pm_ev (30, 95, [vr 1 0, none, vr 3 q2, vi x3, vi x4, none, none, none], [], h) = pm_ev (30, 8, [vr 1 0, none, vr 3 q2, vi x3, vi (x4 + 1), none, none, none], [], h) := (ev_rc [8, 30, 45, 77, 86, 95, 101] 120 _).trans rfl
set_option maxRecDepth 100000 in
set_option maxHeartbeats 400000 in
/-- IllLight$Course.follow(LIllLight$Coast;LIllLight$Night;I)I -/
theorem E_X1_follow_77 (h : PH) (q2 : Nat) (x3 : Int32) (x4 : Int32) (x5 : Int32) (x6 : Int32) (x7 : Int32) (s0 : Int32) (s1 : Int32) (s2 : Int32) (s3 : Nat) : pm_ev (30, 77, [vr 1 0, none, vr 3 q2, vi x3, vi x4, vi x5, vi x6, vi x7], [vi s0, vi s1, vi s2, vr 1 s3], h) = (if pm_inb (x6 + 2) 120 = true then pm_ev (30, 86, [vr 1 0, none, vr 3 q2, vi x3, vi x4, vi x5, vi x6, vi x7], [vi (h.1 23 q2 ((x6 + 2).toNatClampNeg)), vi s0, vi s1, vi s2, vr 1 s3], h) else none) := (ev_rc [8, 30, 45, 77, 86, 95, 101] 120 _).trans rfl
set_option maxRecDepth 100000 in
set_option maxHeartbeats 400000 in
/-- IllLight$Course.follow(LIllLight$Coast;LIllLight$Night;I)I -/
theorem E_X1_follow_86 (h : PH) (q2 : Nat) (x3 : Int32) (x4 : Int32) (x5 : Int32) (x6 : Int32) (x7 : Int32) (s0 : Int32) (s1 : Int32) (s2 : Int32) (s3 : Int32) (s4 : Nat) : pm_ev (30, 86, [vr 1 0, none, vr 3 q2, vi x3, vi x4, vi x5, vi x6, vi x7], [vi s0, vi s1, vi s2, vi s3, vr 1 s4], h) = (pm_bI (pm_ev (33, 0, [vr 1 s4, vi s3, vi s2, vi s1, vi s0], [], h)) fun r5 h4 => (if r5 = 0 then pm_ev (30, 101, [none, none, none, none, vi x4, none, none, none], [], h4) else pm_ev (30, 95, [vr 1 0, none, vr 3 q2, vi x3, vi x4, none, none, none], [], h4))) := (ev_rc [8, 30, 45, 77, 86, 95, 101] 120 _).trans rfl
set_option maxRecDepth 100000 in
set_option maxHeartbeats 400000 in
/-- IllLight$Course.draw(LIllLight$Coast;II)V -/
theorem E_X1_draw (h : PH) (a : Nat) (b : Int32) (c : Int32) : pm_ev (31, 0, [vr 1 0, vr 0 a, vi b, vi c, none, none, none, none, none], [], h) = (pm_bV (pm_ev (29, 0, [vr 1 0, vr 0 a], [], h)) fun h1 => pm_ev (31, 13, [vr 1 0, none, none, vi c, vi 0, none, none, none, none], [], (pm_sI h1 1 0 5 b))) := (ev_rc [13, 60, 96, 115, 120, 126] 120 _).trans rfl
set_option maxRecDepth 100000 in
set_option maxHeartbeats 400000 in
/-- IllLight$Course.draw(LIllLight$Coast;II)V -/
theorem E_X1_draw_13 (h : PH) (x3 : Int32) (x4 : Int32) : pm_ev (31, 13, [vr 1 0, none, none, vi x3, vi x4, none, none, none, none], [], h) = (if x4 < x3 then (pm_bI (pm_ev (32, 0, [vr 1 0, vi (h.1 0 9 8)], [], h)) fun r3 h2 => (pm_bI (pm_ev (32, 0, [vr 1 0, vi 8], [], h2)) fun r5 h4 => (if r5 < 4 then (pm_bI (pm_ev (33, 0, [vr 1 0, vi 0, vi r3, vi r5, vi (-1)], [], h4)) fun r7 h6 => pm_ev (31, 120, [vr 1 0, none, none, vi x3, vi x4, none, none, none, none], [], h6)) else pm_ev (31, 60, [vr 1 0, none, none, vi x3, vi x4, vi r3, vi r5, none, none], [], h4)))) else pm_ev (31, 126, [none, none, none, none, none, none, none, none, none], [], h)) := (ev_rc [13, 60, 96, 115, 120, 126] 120 _).trans rfl
set_option maxRecDepth 100000 in
set_option maxHeartbeats 400000 in
/-- IllLight$Course.draw(LIllLight$Coast;II)V -/
theorem E_X1_draw_120 (h : PH) (x3 : Int32) (x4 : Int32) : pm_ev (31, 120, [vr 1 0, none, none, vi x3, vi x4, none, none, none, none], [], h) = pm_ev (31, 13, [vr 1 0, none, none, vi x3, vi (x4 + 1), none, none, none, none], [], h) := (ev_rc [13, 60, 96, 115, 120, 126] 120 _).trans rfl
set_option maxRecDepth 100000 in
set_option maxHeartbeats 400000 in
/-- IllLight$Course.draw(LIllLight$Coast;II)V -/
theorem E_X1_draw_60 (h : PH) (x3 : Int32) (x4 : Int32) (x5 : Int32) (x6 : Int32) : pm_ev (31, 60, [vr 1 0, none, none, vi x3, vi x4, vi x5, vi x6, none, none], [], h) = (if x6 = 4 then (pm_bI (pm_ev (32, 0, [vr 1 0, vi 4], [], h)) fun r9 h8 => (pm_bI (pm_ev (32, 0, [vr 1 0, vi 10], [], h8)) fun r11 h10 => (pm_bI (pm_ev (33, 0, [vr 1 0, vi 1, vi x5, vi r9, vi r11], [], h10)) fun r13 h12 => pm_ev (31, 120, [vr 1 0, none, none, vi x3, vi x4, none, none, none, none], [], h12)))) else pm_ev (31, 96, [vr 1 0, none, none, vi x3, vi x4, vi x5, vi x6, none, none], [], h)) := (ev_rc [13, 60, 96, 115, 120, 126] 120 _).trans rfl
set_option maxRecDepth 100000 in
set_option maxHeartbeats 400000 in
/-- IllLight$Course.draw(LIllLight$Coast;II)V -/
theorem E_X1_draw_126 (h : PH)  : pm_ev (31, 126, [none, none, none, none, none, none, none, none, none], [], h) = some (none, h) := (ev_rc [13, 60, 96, 115, 120, 126] 120 _).trans rfl
set_option maxRecDepth 100000 in
set_option maxHeartbeats 400000 in
/-- IllLight$Course.draw(LIllLight$Coast;II)V -/
theorem E_X1_draw_96 (h : PH) (x3 : Int32) (x4 : Int32) (x5 : Int32) (x6 : Int32) : pm_ev (31, 96, [vr 1 0, none, none, vi x3, vi x4, vi x5, vi x6, none, none], [], h) = (if x6 = 5 then (pm_bI (pm_ev (33, 0, [vr 1 0, vi 2, vi x5, vi (-1), vi (-1)], [], h)) fun r15 h14 => pm_ev (31, 120, [vr 1 0, none, none, vi x3, vi x4, none, none, none, none], [], h14)) else pm_ev (31, 115, [vr 1 0, none, none, vi x3, vi x4, none, none, none, none], [], h)) := (ev_rc [13, 60, 96, 115, 120, 126] 120 _).trans rfl
set_option maxRecDepth 100000 in
set_option maxHeartbeats 400000 in
/-- IllLight$Course.draw(LIllLight$Coast;II)V -/
theorem E_X1_draw_115 (h : PH) (x3 : Int32) (x4 : Int32) : pm_ev (31, 115, [vr 1 0, none, none, vi x3, vi x4, none, none, none, none], [], h) = (pm_bI (pm_ev (37, 0, [vr 1 0, none, none, none, none, none, none, none], [], h)) fun r17 h16 => pm_ev (31, 120, [vr 1 0, none, none, vi x3, vi x4, none, none, none, none], [], h16)) := (ev_rc [13, 60, 96, 115, 120, 126] 120 _).trans rfl
set_option maxRecDepth 100000 in
set_option maxHeartbeats 400000 in
/-- IllLight$Course.below(I)I -/
theorem E_X1_below (h : PH) (a : Int32) : pm_ev (32, 0, [vr 1 0, vi a], [], h) = (if a < 1 then some (some (vi 0), (pm_sI h 1 0 5 (((h.1 1 0 5) * 1103515245) + 12345))) else (if a = 0 then none else some (some (vi (((((pm_sI h 1 0 5 (((h.1 1 0 5) * 1103515245) + 12345)).1 1 0 5).toUInt32 >>> ((16 : Int32).toUInt32 &&& Int32.toUInt32 31)).toInt32) - ((((pm_sI h 1 0 5 (((h.1 1 0 5) * 1103515245) + 12345)).1 1 0 5).toUInt32 >>> ((16 : Int32).toUInt32 &&& Int32.toUInt32 31)).toInt32) / a * a)), (pm_sI h 1 0 5 (((h.1 1 0 5) * 1103515245) + 12345))))) := (ev_rc [] 120 _).trans rfl
set_option maxRecDepth 100000 in
set_option maxHeartbeats 400000 in
/-- IllLight$Course.act(IIII)Z -/
theorem E_X1_act (h : PH) (a : Int32) (b : Int32) (c : Int32) (d : Int32) : pm_ev (33, 0, [vr 1 0, vi a, vi b, vi c, vi d], [], h) = (pm_bI (pm_ev (5, 0, [vr 0 9, vi b], [], h)) fun r2 h1 => (if r2 = 0 then some (some (vi 0), h1) else (pm_bI (pm_ev (34, 0, [vr 1 0, vi b], [], h1)) fun r4 h3 => (if r4 = 0 then (if a = 0 then (pm_bI (pm_ev (35, 0, [vr 1 0, vi b, vi c, none, none], [], h3)) fun r11 h10 => (if r11 &&& 1 = r11 then some (some (vi r11), h10) else none)) else (if a = 1 then (pm_bV (pm_ev (27, 0, [vr 0 9, vi b, vi c, vi d], [], h3)) fun h7 => (pm_bI (pm_ev (6, 0, [vr 0 9, vi b, vi c], [], h7)) fun r9 h8 => (if r9 &&& 1 = r9 then some (some (vi r9), h8) else none))) else (if a = 2 then (pm_bI (pm_ev (36, 0, [vr 1 0, vi b], [], h3)) fun r6 h5 => (if r6 &&& 1 = r6 then some (some (vi r6), h5) else none)) else some (some (vi 0), h3)))) else some (some (vi 0), h3))))) := (ev_rc [] 120 _).trans rfl
set_option maxRecDepth 100000 in
set_option maxHeartbeats 400000 in
/-- IllLight$Course.isLost(I)Z -/
theorem E_X1_isLost (h : PH) (a : Int32) : pm_ev (34, 0, [vr 1 0, vi a], [], h) = (if (((h.1 1 0 3) ||| (h.1 1 0 4)) >>> (a &&& 31)) &&& 1 = 0 then some (some (vi 0), h) else some (some (vi 1), h)) := (ev_rc [] 120 _).trans rfl
set_option maxRecDepth 100000 in
set_option maxHeartbeats 400000 in
/-- IllLight$Course.sail(II)Z -/
theorem E_X1_sail (h : PH) (a : Int32) (b : Int32) : pm_ev (35, 0, [vr 1 0, vi a, vi b, none, none], [], h) = (if pm_inb a 4 = true then (if pm_inb a 4 = true then (if b = 0 then pm_ev (35, 46, [vr 1 0, vi a, vi b, vi ((h.1 12 9 a.toNatClampNeg) &&& 7), none], [vi (-1), vi ((h.1 12 9 a.toNatClampNeg) >>> ((3 : Int32) &&& 31))], h) else (if b = 2 then pm_ev (35, 46, [vr 1 0, vi a, vi b, vi ((h.1 12 9 a.toNatClampNeg) &&& 7), none], [vi 1, vi ((h.1 12 9 a.toNatClampNeg) >>> ((3 : Int32) &&& 31))], h) else pm_ev (35, 46, [vr 1 0, vi a, vi b, vi ((h.1 12 9 a.toNatClampNeg) &&& 7), none], [vi 0, vi ((h.1 12 9 a.toNatClampNeg) >>> ((3 : Int32) &&& 31))], h))) else none) else none) := (ev_rc [46, 69, 114, 132] 120 _).trans rfl
set_option maxRecDepth 100000 in
set_option maxHeartbeats 400000 in
/-- IllLight$Course.sail(II)Z -/
theorem E_X1_sail_46 (h : PH) (x1 : Int32) (x2 : Int32) (x3 : Int32) (s0 : Int32) (s1 : Int32) : pm_ev (35, 46, [vr 1 0, vi x1, vi x2, vi x3, none], [vi s0, vi s1], h) = (if x2 = 3 then pm_ev (35, 69, [vr 1 0, vi x1, none, none, vi (s1 + s0)], [vi (-1), vi x3], h) else (if x2 = 1 then pm_ev (35, 69, [vr 1 0, vi x1, none, none, vi (s1 + s0)], [vi 1, vi x3], h) else pm_ev (35, 69, [vr 1 0, vi x1, none, none, vi (s1 + s0)], [vi 0, vi x3], h))) := (ev_rc [46, 69, 114, 132] 120 _).trans rfl
set_option maxRecDepth 100000 in
set_option maxHeartbeats 400000 in
/-- IllLight$Course.sail(II)Z -/
theorem E_X1_sail_69 (h : PH) (x1 : Int32) (x4 : Int32) (s0 : Int32) (s1 : Int32) : pm_ev (35, 69, [vr 1 0, vi x1, none, none, vi x4], [vi s0, vi s1], h) = (if ((h.1 1 0 2) >>> (x1 &&& 31)) &&& 1 = 0 then (if x4 < 0 then pm_ev (35, 114, [none, none, none, none, none], [], h) else (if x4 < h.1 0 9 1 then (if s1 + s0 < 0 then pm_ev (35, 114, [none, none, none, none, none], [], h) else (if s1 + s0 < h.1 0 9 0 then (if pm_inb x1 4 = true then pm_ev (35, 132, [vr 1 0, vi x1, none, vi (s1 + s0), vi x4], [], (pm_sI h 12 9 x1.toNatClampNeg ((8 * x4) + (s1 + s0)))) else none) else pm_ev (35, 114, [none, none, none, none, none], [], h))) else pm_ev (35, 114, [none, none, none, none, none], [], h))) else pm_ev (35, 114, [none, none, none, none, none], [], h)) := (ev_rc [46, 69, 114, 132] 120 _).trans rfl
set_option maxRecDepth 100000 in
set_option maxHeartbeats 400000 in
/-- IllLight$Course.sail(II)Z -/
theorem E_X1_sail_114 (h : PH)  : pm_ev (35, 114, [none, none, none, none, none], [], h) = some (some (vi 0), h) := (ev_rc [46, 69, 114, 132] 120 _).trans rfl
set_option maxRecDepth 100000 in
set_option maxHeartbeats 400000 in
/-- IllLight$Course.sail(II)Z -/
theorem E_X1_sail_132 (h : PH) (x1 : Int32) (x3 : Int32) (x4 : Int32) : pm_ev (35, 132, [vr 1 0, vi x1, none, vi x3, vi x4], [], h) = some (some (vi 1), (pm_sI h 1 0 2 ((h.1 1 0 2) ||| ((1 : Int32) <<< (x1 &&& 31))))) := (ev_rc [46, 69, 114, 132] 120 _).trans rfl
set_option maxRecDepth 100000 in
set_option maxHeartbeats 400000 in
/-- IllLight$Course.throwOut(I)Z -/
theorem E_X1_throwOut (h : PH) (a : Int32) : pm_ev (36, 0, [vr 1 0, vi a], [], h) = (if pm_inb a 4 = true then (if h.1 13 9 a.toNatClampNeg = 0 then some (some (vi 0), h) else (if pm_inb a 4 = true then (if pm_inb a 4 = true then pm_ev (36, 27, [vr 1 0, vi a], [], (pm_sI h 13 9 a.toNatClampNeg ((h.1 13 9 a.toNatClampNeg) - 1))) else none) else none)) else none) := (ev_rc [27] 120 _).trans rfl
set_option maxRecDepth 100000 in
set_option maxHeartbeats 400000 in
/-- IllLight$Course.throwOut(I)Z -/
theorem E_X1_throwOut_27 (h : PH) (x1 : Int32) : pm_ev (36, 27, [vr 1 0, vi x1], [], h) = some (some (vi 1), h) := (ev_rc [27] 120 _).trans rfl
set_option maxRecDepth 100000 in
set_option maxHeartbeats 400000 in
/-- IllLight$Course.pass()Z -/
theorem E_X1_pass (h : PH)  : pm_ev (37, 0, [vr 1 0, none, none, none, none, none, none, none], [], h) = (if (h.1 1 0 1) + 1 < 24 then (pm_bI (pm_ev (38, 0, [vr 1 0, none, none], [], h)) fun r2 h1 => (pm_bL (pm_ev (11, 0, [vr 0 9, none, none, none, none, none], [], h1)) fun l4 h3 => pm_ev (37, 29, [vr 1 0, vi r2, vl l4, none, vi 0, none, none, none], [], h3))) else some (some (vi 0), h)) := (ev_rc [29, 107, 151] 120 _).trans rfl
set_option maxRecDepth 100000 in
set_option maxHeartbeats 400000 in
/-- IllLight$Course.pass()Z -/
theorem E_X1_pass_29 (h : PH) (x1 : Int32) (y2 : Int64) (x4 : Int32) : pm_ev (37, 29, [vr 1 0, vi x1, vl y2, none, vi x4, none, none, none], [], h) = (if x4 < h.1 0 9 8 then (pm_bI (pm_ev (34, 0, [vr 1 0, vi x4], [], h)) fun r6 h5 => (if r6 = 0 then (if (x1 >>> (x4 &&& 31)) &&& 1 = 0 then (if pm_inb x4 4 = true then (if lg_cmp ((((h5.2 0 9 4).toUInt64 >>> ((h5.1 12 9 x4.toNatClampNeg).toInt64.toUInt64 &&& Int64.toUInt64 63)).toInt64) &&& 1) 0 = 0 then pm_ev (37, 151, [vr 1 0, vi x1, vl y2, none, vi x4, none, none, none], [], h5) else pm_ev (37, 107, [vr 1 0, vi x1, vl y2, none, vi x4, vi 0, vl (h5.2 0 9 4), none], [], h5)) else none) else (if pm_inb x4 4 = true then (if lg_cmp (((y2.toUInt64 >>> ((h5.1 12 9 x4.toNatClampNeg).toInt64.toUInt64 &&& Int64.toUInt64 63)).toInt64) &&& 1) 0 = 0 then pm_ev (37, 151, [vr 1 0, vi x1, vl y2, none, vi x4, none, none, none], [], h5) else pm_ev (37, 107, [vr 1 0, vi x1, vl y2, none, vi x4, vi 1, vl y2, none], [], h5)) else none)) else pm_ev (37, 151, [vr 1 0, vi x1, vl y2, none, vi x4, none, none, none], [], h5))) else some (some (vi 1), (pm_sI (pm_sI h 1 0 1 ((h.1 1 0 1) + 1)) 1 0 2 0))) := (ev_rc [29, 107, 151] 120 _).trans rfl
set_option maxRecDepth 100000 in
set_option maxHeartbeats 400000 in
/-- IllLight$Course.pass()Z -/
theorem E_X1_pass_151 (h : PH) (x1 : Int32) (y2 : Int64) (x4 : Int32) : pm_ev (37, 151, [vr 1 0, vi x1, vl y2, none, vi x4, none, none, none], [], h) = pm_ev (37, 29, [vr 1 0, vi x1, vl y2, none, vi (x4 + 1), none, none, none], [], h) := (ev_rc [29, 107, 151] 120 _).trans rfl
set_option maxRecDepth 100000 in
set_option maxHeartbeats 400000 in
/-- IllLight$Course.pass()Z -/
theorem E_X1_pass_107 (h : PH) (x1 : Int32) (y2 : Int64) (x4 : Int32) (x5 : Int32) (y6 : Int64) : pm_ev (37, 107, [vr 1 0, vi x1, vl y2, none, vi x4, vi x5, vl y6, none], [], h) = (if x5 = 0 then (if x5 = 0 then pm_ev (37, 151, [vr 1 0, vi x1, vl y2, none, vi x4, none, none, none], [], (pm_sI (pm_sI h 1 0 4 ((h.1 1 0 4) ||| 0)) 1 0 3 ((h.1 1 0 3) ||| ((1 : Int32) <<< (x4 &&& 31))))) else pm_ev (37, 151, [vr 1 0, vi x1, vl y2, none, vi x4, none, none, none], [], (pm_sI (pm_sI h 1 0 4 ((h.1 1 0 4) ||| 0)) 1 0 3 ((h.1 1 0 3) ||| 0)))) else (if x5 = 0 then pm_ev (37, 151, [vr 1 0, vi x1, vl y2, none, vi x4, none, none, none], [], (pm_sI (pm_sI h 1 0 4 ((h.1 1 0 4) ||| ((1 : Int32) <<< (x4 &&& 31)))) 1 0 3 ((h.1 1 0 3) ||| ((1 : Int32) <<< (x4 &&& 31))))) else pm_ev (37, 151, [vr 1 0, vi x1, vl y2, none, vi x4, none, none, none], [], (pm_sI (pm_sI h 1 0 4 ((h.1 1 0 4) ||| ((1 : Int32) <<< (x4 &&& 31)))) 1 0 3 ((h.1 1 0 3) ||| 0))))) := (ev_rc [29, 107, 151] 120 _).trans rfl
set_option maxRecDepth 100000 in
set_option maxHeartbeats 400000 in
/-- IllLight$Course.beam()I -/
theorem E_X1_beam (h : PH)  : pm_ev (38, 0, [vr 1 0, none, none], [], h) = pm_ev (38, 4, [vr 1 0, vi 0, vi 0], [], h) := (ev_rc [4] 120 _).trans rfl
set_option maxRecDepth 100000 in
set_option maxHeartbeats 400000 in
/-- IllLight$Course.beam()I -/
theorem E_X1_beam_4 (h : PH) (x1 : Int32) (x2 : Int32) : pm_ev (38, 4, [vr 1 0, vi x1, vi x2], [], h) = (if x2 < h.1 0 9 8 then (pm_bI (pm_ev (34, 0, [vr 1 0, vi x2], [], h)) fun r2 h1 => (if r2 = 0 then (pm_bI (pm_ev (39, 0, [vr 1 0, vi x2, none, none, none], [], h1)) fun r4 h3 => (pm_bI (pm_ev (17, 0, [vr 0 9, vi r4, vi (h3.1 1 0 1), none], [], h3)) fun r6 h5 => (pm_bI (pm_ev (18, 0, [vi r6, vi (h5.1 1 0 1)], [], h5)) fun r8 h7 => (if r8 = 0 then pm_ev (38, 4, [vr 1 0, vi x1, vi (x2 + 1)], [], h7) else pm_ev (38, 4, [vr 1 0, vi (x1 ||| ((1 : Int32) <<< (x2 &&& 31))), vi (x2 + 1)], [], h7))))) else pm_ev (38, 4, [vr 1 0, vi x1, vi (x2 + 1)], [], h1))) else some (some (vi x1), h)) := (ev_rc [4] 120 _).trans rfl
set_option maxRecDepth 100000 in
set_option maxHeartbeats 400000 in
/-- IllLight$Course.whoseLight(I)I -/
theorem E_X1_whoseLight (h : PH) (a : Int32) : pm_ev (39, 0, [vr 1 0, vi a, none, none, none], [], h) = (pm_bI (pm_ev (24, 0, [vr 0 9, vi a, none, none], [], h)) fun r2 h1 => pm_ev (39, 14, [vr 1 0, none, vi r2, vi a, vi 0], [], h1)) := (ev_rc [14] 120 _).trans rfl
set_option maxRecDepth 100000 in
set_option maxHeartbeats 400000 in
/-- IllLight$Course.whoseLight(I)I -/
theorem E_X1_whoseLight_14 (h : PH) (x2 : Int32) (x3 : Int32) (x4 : Int32) : pm_ev (39, 14, [vr 1 0, none, vi x2, vi x3, vi x4], [], h) = (if x4 < h.1 0 9 8 then (if x2 = (-1) then some (some (vi x3), h) else (pm_bI (pm_ev (34, 0, [vr 1 0, vi x4], [], h)) fun r4 h3 => (if r4 = 0 then (pm_bI (pm_ev (24, 0, [vr 0 9, vi x4, none, none], [], h3)) fun r6 h5 => (if r6 = x2 then (pm_bI (pm_ev (25, 0, [vr 0 9, vi x4], [], h5)) fun r8 h7 => (pm_bI (pm_ev (25, 0, [vr 0 9, vi x3], [], h7)) fun r10 h9 => (if r8 < r10 then pm_ev (39, 14, [vr 1 0, none, vi x2, vi x4, vi (x4 + 1)], [], h9) else pm_ev (39, 14, [vr 1 0, none, vi x2, vi x3, vi (x4 + 1)], [], h9)))) else pm_ev (39, 14, [vr 1 0, none, vi x2, vi x3, vi (x4 + 1)], [], h5))) else pm_ev (39, 14, [vr 1 0, none, vi x2, vi x3, vi (x4 + 1)], [], h3)))) else some (some (vi x3), h)) := (ev_rc [14] 120 _).trans rfl
set_option maxRecDepth 100000 in
set_option maxHeartbeats 400000 in
/-- IllLight$Course.told(I)I -/
theorem E_X1_told (h : PH) (a : Int32) : pm_ev (40, 0, [vr 1 0, vi a], [], h) = (if a = 0 then some (some (vi (h.1 1 0 1)), h) else (if a = 1 then some (some (vi (h.1 1 0 3)), h) else (if a = 2 then some (some (vi (h.1 1 0 4)), h) else (if a < 10 then some (some (vi (-2)), h) else (if a < 50 then (pm_bI (pm_ev (41, 0, [vr 1 0, vi (a / 10), vi (a - a / 10 * 10)], [], h)) fun r2 h1 => some (some (vi r2), h1)) else (pm_bI (pm_ev (42, 0, [vr 1 0, vi ((a - 50) / 4), vi ((a - 50) - (a - 50) / 4 * 4)], [], h)) fun r4 h3 => some (some (vi r4), h3))))))) := (ev_rc [] 120 _).trans rfl
set_option maxRecDepth 100000 in
set_option maxHeartbeats 400000 in
/-- IllLight$Course.toldOfShip(II)I -/
theorem E_X1_toldOfShip (h : PH) (a : Int32) (b : Int32) : pm_ev (41, 0, [vr 1 0, vi a, vi b], [], h) = (pm_bI (pm_ev (5, 0, [vr 0 9, vi b], [], h)) fun r2 h1 => (if r2 = 0 then some (some (vi (-2)), h1) else (if a = 1 then (pm_bI (pm_ev (34, 0, [vr 1 0, vi b], [], h1)) fun r8 h7 => (if r8 = 0 then (if pm_inb b 4 = true then (pm_bI (pm_ev (9, 0, [vr 0 9, vi (h7.1 12 9 b.toNatClampNeg)], [], h7)) fun r10 h9 => some (some (vi r10), h9)) else none) else some (some (vi (-1)), h7))) else (if a = 2 then (if pm_inb b 4 = true then some (some (vi (h1.1 13 9 b.toNatClampNeg)), h1) else none) else (if a = 3 then (pm_bI (pm_ev (16, 0, [vr 0 9, vi b, vi (h1.1 1 0 1), none, none], [], h1)) fun r6 h5 => some (some (vi r6), h5)) else (pm_bI (pm_ev (38, 0, [vr 1 0, none, none], [], h1)) fun r4 h3 => some (some (vi ((r4 >>> (b &&& 31)) &&& 1)), h3))))))) := (ev_rc [] 120 _).trans rfl
set_option maxRecDepth 100000 in
set_option maxHeartbeats 400000 in
/-- IllLight$Course.toldOfMan(II)I -/
theorem E_X1_toldOfMan (h : PH) (a : Int32) (b : Int32) : pm_ev (42, 0, [vr 1 0, vi a, vi b], [], h) = (pm_bI (pm_ev (6, 0, [vr 0 9, vi a, vi b], [], h)) fun r2 h1 => (if r2 = 0 then some (some (vi (-2)), h1) else (pm_bI (pm_ev (15, 0, [vr 0 9, vi a, vi b, vi (h1.1 1 0 1), none, none], [], h1)) fun r4 h3 => some (some (vi r4), h3)))) := (ev_rc [] 120 _).trans rfl
