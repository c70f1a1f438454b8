set_option maxRecDepth 100000 in
set_option maxHeartbeats 400000 in
/-- IllLightModel.feed(IIIII)I -/
theorem E_X9_feed (h : PH) (a : Int32) (b : Int32) (c : Int32) (d : Int32) (e : Int32) : pm_ev (154, 0, [vr 8 0, vi a, vi b, vi c, vi d, vi e, none, none], [], h) = pm_ev (154, 6, [vr 8 0, vi a, vi b, vi c, vi d, vi e, none, none], [vi (h.1 33 0 ((4 : Int32).toNatClampNeg))], h) := (ev_rc [6, 20, 87, 106, 113, 116, 128] 120 _).trans rfl
set_option maxRecDepth 100000 in
set_option maxHeartbeats 400000 in
/-- IllLightModel.feed(IIIII)I -/
theorem E_X9_feed_6 (h : PH) (x1 : Int32) (x2 : Int32) (x3 : Int32) (x4 : Int32) (x5 : Int32) (s0 : Int32) : pm_ev (154, 6, [vr 8 0, vi x1, vi x2, vi x3, vi x4, vi x5, none, none], [vi s0], h) = (if (600 : Int32) < s0 + 20 then some (some (vi (-1)), h) else pm_ev (154, 20, [vr 8 0, vi x1, vi x2, vi x3, vi x4, vi x5, vi 0, none], [], h)) := (ev_rc [6, 20, 87, 106, 113, 116, 128] 120 _).trans rfl
set_option maxRecDepth 100000 in
set_option maxHeartbeats 400000 in
/-- IllLightModel.feed(IIIII)I -/
theorem E_X9_feed_20 (h : PH) (x1 : Int32) (x2 : Int32) (x3 : Int32) (x4 : Int32) (x5 : Int32) (x6 : Int32) : pm_ev (154, 20, [vr 8 0, vi x1, vi x2, vi x3, vi x4, vi x5, vi x6, none], [], h) = (if x6 < 20 then (if x6 < 4 then pm_ev (154, 87, [vr 8 0, vi x1, vi x2, vi x3, vi x4, vi x5, vi x6, vi x1], [vi (h.1 33 0 ((4 : Int32).toNatClampNeg)), vi 10, vr 33 0], h) else (if x6 < 8 then pm_ev (154, 87, [vr 8 0, vi x1, vi x2, vi x3, vi x4, vi x5, vi x6, vi x2], [vi (h.1 33 0 ((4 : Int32).toNatClampNeg)), vi 10, vr 33 0], h) else (if x6 < 12 then pm_ev (154, 87, [vr 8 0, vi x1, vi x2, vi x3, vi x4, vi x5, vi x6, vi x3], [vi (h.1 33 0 ((4 : Int32).toNatClampNeg)), vi 10, vr 33 0], h) else (if x6 < 16 then pm_ev (154, 87, [vr 8 0, vi x1, vi x2, vi x3, vi x4, vi x5, vi x6, vi x4], [vi (h.1 33 0 ((4 : Int32).toNatClampNeg)), vi 10, vr 33 0], h) else pm_ev (154, 87, [vr 8 0, vi x1, vi x2, vi x3, vi x4, vi x5, vi x6, vi x5], [vi (h.1 33 0 ((4 : Int32).toNatClampNeg)), vi 10, vr 33 0], h))))) else pm_ev (154, 128, [vr 8 0, none, none, none, none, none, none, none], [vi (h.1 33 0 ((4 : Int32).toNatClampNeg))], h)) := (ev_rc [6, 20, 87, 106, 113, 116, 128] 120 _).trans rfl
set_option maxRecDepth 100000 in
set_option maxHeartbeats 400000 in
/-- IllLightModel.feed(IIIII)I -/
theorem E_X9_feed_87 (h : PH) (x1 : Int32) (x2 : Int32) (x3 : Int32) (x4 : Int32) (x5 : Int32) (x6 : Int32) (x7 : Int32) (s0 : Int32) (s1 : Int32) (s2 : Nat) : pm_ev (154, 87, [vr 8 0, vi x1, vi x2, vi x3, vi x4, vi x5, vi x6, vi x7], [vi s0, vi s1, vr 33 s2], h) = (if pm_inb (s1 + s0) 5104 = true then pm_ev (154, 106, [vr 8 0, vi x1, vi x2, vi x3, vi x4, vi x5, vi x6, vi x7], [], (pm_sI h 33 s2 ((s1 + s0).toNatClampNeg) ((x7 >>> ((24 - (8 * (x6 - x6 / 4 * 4))) &&& 31)) &&& 255))) else none) := (ev_rc [6, 20, 87, 106, 113, 116, 128] 120 _).trans rfl
set_option maxRecDepth 100000 in
set_option maxHeartbeats 400000 in
/-- IllLightModel.feed(IIIII)I -/
theorem E_X9_feed_128 (h : PH) (s0 : Int32) : pm_ev (154, 128, [vr 8 0, none, none, none, none, none, none, none], [vi s0], h) = some (some (vi s0), h) := (ev_rc [6, 20, 87, 106, 113, 116, 128] 120 _).trans rfl
set_option maxRecDepth 100000 in
set_option maxHeartbeats 400000 in
/-- IllLightModel.feed(IIIII)I -/
theorem E_X9_feed_106 (h : PH) (x1 : Int32) (x2 : Int32) (x3 : Int32) (x4 : Int32) (x5 : Int32) (x6 : Int32) (x7 : Int32) : pm_ev (154, 106, [vr 8 0, vi x1, vi x2, vi x3, vi x4, vi x5, vi x6, vi x7], [], h) = pm_ev (154, 113, [vr 8 0, vi x1, vi x2, vi x3, vi x4, vi x5, vi x6, vi x7], [vi (h.1 33 0 ((4 : Int32).toNatClampNeg)), vi 4, vr 33 0], h) := (ev_rc [6, 20, 87, 106, 113, 116, 128] 120 _).trans rfl
set_option maxRecDepth 100000 in
set_option maxHeartbeats 400000 in
/-- IllLightModel.feed(IIIII)I -/
theorem E_X9_feed_113 (h : PH) (x1 : Int32) (x2 : Int32) (x3 : Int32) (x4 : Int32) (x5 : Int32) (x6 : Int32) (x7 : Int32) (s0 : Int32) (s1 : Int32) (s2 : Nat) : pm_ev (154, 113, [vr 8 0, vi x1, vi x2, vi x3, vi x4, vi x5, vi x6, vi x7], [vi s0, vi s1, vr 33 s2], h) = (if pm_inb s1 5104 = true then pm_ev (154, 116, [vr 8 0, vi x1, vi x2, vi x3, vi x4, vi x5, vi x6, vi x7], [], (pm_sI h 33 s2 s1.toNatClampNeg (s0 + 1))) else none) := (ev_rc [6, 20, 87, 106, 113, 116, 128] 120 _).trans rfl
set_option maxRecDepth 100000 in
set_option maxHeartbeats 400000 in
/-- IllLightModel.feed(IIIII)I -/
theorem E_X9_feed_116 (h : PH) (x1 : Int32) (x2 : Int32) (x3 : Int32) (x4 : Int32) (x5 : Int32) (x6 : Int32) (x7 : Int32) : pm_ev (154, 116, [vr 8 0, vi x1, vi x2, vi x3, vi x4, vi x5, vi x6, vi x7], [], h) = pm_ev (154, 20, [vr 8 0, vi x1, vi x2, vi x3, vi x4, vi x5, vi (x6 + 1), none], [], h) := (ev_rc [6, 20, 87, 106, 113, 116, 128] 120 _).trans rfl
set_option maxRecDepth 100000 in
set_option maxHeartbeats 400000 in
/-- IllLightModel.end(I)I -/
theorem E_X9_end (h : PH) (a : Int32) : pm_ev (155, 0, [vr 8 0, vi a], [], h) = (if a < 0 then some (some (vi (-1)), h) else pm_ev (155, 11, [vr 8 0, vi a], [vi (h.1 33 0 ((4 : Int32).toNatClampNeg)), vi a], h)) := (ev_rc [11] 120 _).trans rfl
set_option maxRecDepth 100000 in
set_option maxHeartbeats 400000 in
/-- IllLightModel.end(I)I -/
theorem E_X9_end_11 (h : PH) (x1 : Int32) (s0 : Int32) (s1 : Int32) : pm_ev (155, 11, [vr 8 0, vi x1], [vi s0, vi s1], h) = (if s0 < s1 then some (some (vi (-1)), h) else some (some (vi x1), (pm_sI h 33 0 ((4 : Int32).toNatClampNeg) x1))) := (ev_rc [11] 120 _).trans rfl
set_option maxRecDepth 100000 in
set_option maxHeartbeats 400000 in
/-- IllLightModel.byteAt(I)I -/
theorem E_X9_byteAt (h : PH) (a : Int32) : pm_ev (156, 0, [vr 8 0, vi a], [], h) = (if a < h.1 8 0 2 then (if pm_inb (10 + a) 5104 = true then pm_ev (156, 17, [vr 8 0, vi a], [vi (h.1 33 0 ((10 + a).toNatClampNeg))], h) else none) else some (some (vi (-1)), h)) := (ev_rc [17] 120 _).trans rfl
set_option maxRecDepth 100000 in
set_option maxHeartbeats 400000 in
/-- IllLightModel.byteAt(I)I -/
theorem E_X9_byteAt_17 (h : PH) (x1 : Int32) (s0 : Int32) : pm_ev (156, 17, [vr 8 0, vi x1], [vi s0], h) = some (some (vi s0), h) := (ev_rc [17] 120 _).trans rfl
set_option maxRecDepth 100000 in
set_option maxHeartbeats 400000 in
/-- IllLightModel.isLetter(I)Z -/
theorem E_X9_isLetter (h : PH) (a : Int32) : pm_ev (157, 0, [vi a], [], h) = (if a < 97 then some (some (vi 0), h) else (if (122 : Int32) < a then some (some (vi 0), h) else some (some (vi 1), h))) := (ev_rc [] 120 _).trans rfl
set_option maxRecDepth 100000 in
set_option maxHeartbeats 400000 in
/-- IllLightModel.isDigit(I)Z -/
theorem E_X9_isDigit (h : PH) (a : Int32) : pm_ev (158, 0, [vi a], [], h) = (if a < 48 then some (some (vi 0), h) else (if (57 : Int32) < a then some (some (vi 0), h) else some (some (vi 1), h))) := (ev_rc [] 120 _).trans rfl
set_option maxRecDepth 100000 in
set_option maxHeartbeats 400000 in
/-- IllLightModel.four(IIII)J -/
theorem E_X9_four (h : PH) (a : Int32) (b : Int32) (c : Int32) (d : Int32) : pm_ev (159, 0, [vi a, vi b, vi c, vi d], [], h) = some (some (vl (((((((a * 32) + b) * 32) + c) * 32) + d : Int32).toInt64)), h) := (ev_rc [] 120 _).trans rfl
set_option maxRecDepth 100000 in
set_option maxHeartbeats 400000 in
/-- IllLightModel.eight(IIIIIIII)J -/
theorem E_X9_eight (h : PH) (a : Int32) (b : Int32) (c : Int32) (d : Int32) (e : Int32) (f : Int32) (g : Int32) (w : Int32) : pm_ev (160, 0, [vi a, vi b, vi c, vi d, vi e, vi f, vi g, vi w], [], h) = (pm_bL (pm_ev (159, 0, [vi a, vi b, vi c, vi d], [], h)) fun l2 h1 => (pm_bL (pm_ev (159, 0, [vi e, vi f, vi g, vi w], [], h1)) fun l4 h3 => pm_ev (160, 22, [vi a, vi b, vi c, vi d, vi e, vi f, vi g, vi w], [vl l4, vl (l2 * 1048576)], h3))) := (ev_rc [22] 120 _).trans rfl
set_option maxRecDepth 100000 in
set_option maxHeartbeats 400000 in
/-- IllLightModel.eight(IIIIIIII)J -/
theorem E_X9_eight_22 (h : PH) (x0 : Int32) (x1 : Int32) (x2 : Int32) (x3 : Int32) (x4 : Int32) (x5 : Int32) (x6 : Int32) (x7 : Int32) (s0 : Int64) (s1 : Int64) : pm_ev (160, 22, [vi x0, vi x1, vi x2, vi x3, vi x4, vi x5, vi x6, vi x7], [vl s0, vl s1], h) = some (some (vl (s1 + s0)), h) := (ev_rc [22] 120 _).trans rfl
set_option maxRecDepth 100000 in
set_option maxHeartbeats 400000 in
/-- IllLightModel.wordOf(J)I -/
theorem E_X9_wordOf (h : PH) (a : Int64) : pm_ev (161, 0, [vl a, none], [], h) = (pm_bL (pm_ev (159, 0, [vi 19, vi 9, vi 26, vi 5], [], h)) fun l2 h1 => pm_ev (161, 11, [vl a, none], [vl l2, vl a], h1)) := (ev_rc [11, 28, 45, 66, 84, 106, 128, 145, 167, 189, 212, 236, 253, 277, 295, 312, 329, 346, 370, 389] 120 _).trans rfl
set_option maxRecDepth 100000 in
set_option maxHeartbeats 400000 in
/-- IllLightModel.wordOf(J)I -/
theorem E_X9_wordOf_11 (h : PH) (y0 : Int64) (s0 : Int64) (s1 : Int64) : pm_ev (161, 11, [vl y0, none], [vl s0, vl s1], h) = (if lg_cmp s1 s0 = 0 then some (some (vi 1), h) else (pm_bL (pm_ev (159, 0, [vi 12, vi 1, vi 13, vi 16], [], h)) fun l4 h3 => pm_ev (161, 28, [vl y0, none], [vl l4, vl y0], h3))) := (ev_rc [11, 28, 45, 66, 84, 106, 128, 145, 167, 189, 212, 236, 253, 277, 295, 312, 329, 346, 370, 389] 120 _).trans rfl
set_option maxRecDepth 100000 in
set_option maxHeartbeats 400000 in
/-- IllLightModel.wordOf(J)I -/
theorem E_X9_wordOf_28 (h : PH) (y0 : Int64) (s0 : Int64) (s1 : Int64) : pm_ev (161, 28, [vl y0, none], [vl s0, vl s1], h) = (if lg_cmp s1 s0 = 0 then some (some (vi 2), h) else (pm_bL (pm_ev (159, 0, [vi 18, vi 15, vi 3, vi 11], [], h)) fun l6 h5 => pm_ev (161, 45, [vl y0, none], [vl l6, vl y0], h5))) := (ev_rc [11, 28, 45, 66, 84, 106, 128, 145, 167, 189, 212, 236, 253, 277, 295, 312, 329, 346, 370, 389] 120 _).trans rfl
set_option maxRecDepth 100000 in
set_option maxHeartbeats 400000 in
/-- IllLightModel.wordOf(J)I -/
theorem E_X9_wordOf_45 (h : PH) (y0 : Int64) (s0 : Int64) (s1 : Int64) : pm_ev (161, 45, [vl y0, none], [vl s0, vl s1], h) = (if lg_cmp s1 s0 = 0 then some (some (vi 3), h) else (pm_bL (pm_ev (160, 0, [vi 0, vi 0, vi 0, vi 7, vi 21, vi 1, vi 18, vi 4], [], h)) fun l8 h7 => pm_ev (161, 66, [vl y0, none], [vl l8, vl y0], h7))) := (ev_rc [11, 28, 45, 66, 84, 106, 128, 145, 167, 189, 212, 236, 253, 277, 295, 312, 329, 346, 370, 389] 120 _).trans rfl
set_option maxRecDepth 100000 in
set_option maxHeartbeats 400000 in
/-- IllLightModel.wordOf(J)I -/
theorem E_X9_wordOf_66 (h : PH) (y0 : Int64) (s0 : Int64) (s1 : Int64) : pm_ev (161, 66, [vl y0, none], [vl s0, vl s1], h) = (if lg_cmp s1 s0 = 0 then some (some (vi 4), h) else (pm_bL (pm_ev (159, 0, [vi 19, vi 8, vi 9, vi 16], [], h)) fun l10 h9 => pm_ev (161, 84, [vl y0, none], [vl l10, vl y0], h9))) := (ev_rc [11, 28, 45, 66, 84, 106, 128, 145, 167, 189, 212, 236, 253, 277, 295, 312, 329, 346, 370, 389] 120 _).trans rfl
set_option maxRecDepth 100000 in
set_option maxHeartbeats 400000 in
/-- IllLightModel.wordOf(J)I -/
theorem E_X9_wordOf_84 (h : PH) (y0 : Int64) (s0 : Int64) (s1 : Int64) : pm_ev (161, 84, [vl y0, none], [vl s0, vl s1], h) = (if lg_cmp s1 s0 = 0 then some (some (vi 5), h) else (pm_bL (pm_ev (160, 0, [vi 0, vi 0, vi 0, vi 16, vi 12, vi 1, vi 9, vi 14], [], h)) fun l12 h11 => pm_ev (161, 106, [vl y0, none], [vl l12, vl y0], h11))) := (ev_rc [11, 28, 45, 66, 84, 106, 128, 145, 167, 189, 212, 236, 253, 277, 295, 312, 329, 346, 370, 389] 120 _).trans rfl
set_option maxRecDepth 100000 in
set_option maxHeartbeats 400000 in
/-- IllLightModel.wordOf(J)I -/
theorem E_X9_wordOf_106 (h : PH) (y0 : Int64) (s0 : Int64) (s1 : Int64) : pm_ev (161, 106, [vl y0, none], [vl s0, vl s1], h) = (if lg_cmp s1 s0 = 0 then some (some (vi 6), h) else (pm_bL (pm_ev (160, 0, [vi 0, vi 0, vi 0, vi 8, vi 9, vi 18, vi 5, vi 4], [], h)) fun l14 h13 => pm_ev (161, 128, [vl y0, none], [vl l14, vl y0], h13))) := (ev_rc [11, 28, 45, 66, 84, 106, 128, 145, 167, 189, 212, 236, 253, 277, 295, 312, 329, 346, 370, 389] 120 _).trans rfl
set_option maxRecDepth 100000 in
set_option maxHeartbeats 400000 in
/-- IllLightModel.wordOf(J)I -/
theorem E_X9_wordOf_128 (h : PH) (y0 : Int64) (s0 : Int64) (s1 : Int64) : pm_ev (161, 128, [vl y0, none], [vl s0, vl s1], h) = (if lg_cmp s1 s0 = 0 then some (some (vi 7), h) else (pm_bL (pm_ev (159, 0, [vi 12, vi 1, vi 20, vi 5], [], h)) fun l16 h15 => pm_ev (161, 145, [vl y0, none], [vl l16, vl y0], h15))) := (ev_rc [11, 28, 45, 66, 84, 106, 128, 145, 167, 189, 212, 236, 253, 277, 295, 312, 329, 346, 370, 389] 120 _).trans rfl
set_option maxRecDepth 100000 in
set_option maxHeartbeats 400000 in
/-- IllLightModel.wordOf(J)I -/
theorem E_X9_wordOf_145 (h : PH) (y0 : Int64) (s0 : Int64) (s1 : Int64) : pm_ev (161, 145, [vl y0, none], [vl s0, vl s1], h) = (if lg_cmp s1 s0 = 0 then some (some (vi 8), h) else (pm_bL (pm_ev (160, 0, [vi 0, vi 4, vi 9, vi 22, vi 9, vi 4, vi 5, vi 4], [], h)) fun l18 h17 => pm_ev (161, 167, [vl y0, none], [vl l18, vl y0], h17))) := (ev_rc [11, 28, 45, 66, 84, 106, 128, 145, 167, 189, 212, 236, 253, 277, 295, 312, 329, 346, 370, 389] 120 _).trans rfl
set_option maxRecDepth 100000 in
set_option maxHeartbeats 400000 in
/-- IllLightModel.wordOf(J)I -/
theorem E_X9_wordOf_167 (h : PH) (y0 : Int64) (s0 : Int64) (s1 : Int64) : pm_ev (161, 167, [vl y0, none], [vl s0, vl s1], h) = (if lg_cmp s1 s0 = 0 then some (some (vi 9), h) else (pm_bL (pm_ev (160, 0, [vi 0, vi 0, vi 1, vi 19, vi 12, vi 5, vi 5, vi 16], [], h)) fun l20 h19 => pm_ev (161, 189, [vl y0, none], [vl l20, vl y0], h19))) := (ev_rc [11, 28, 45, 66, 84, 106, 128, 145, 167, 189, 212, 236, 253, 277, 295, 312, 329, 346, 370, 389] 120 _).trans rfl
set_option maxRecDepth 100000 in
set_option maxHeartbeats 400000 in
/-- IllLightModel.wordOf(J)I -/
theorem E_X9_wordOf_189 (h : PH) (y0 : Int64) (s0 : Int64) (s1 : Int64) : pm_ev (161, 189, [vl y0, none], [vl s0, vl s1], h) = (if lg_cmp s1 s0 = 0 then some (some (vi 10), h) else (pm_bL (pm_ev (160, 0, [vi 0, vi 0, vi 0, vi 12, vi 15, vi 25, vi 1, vi 12], [], h)) fun l22 h21 => pm_ev (161, 212, [vl y0, none], [vl l22, vl y0], h21))) := (ev_rc [11, 28, 45, 66, 84, 106, 128, 145, 167, 189, 212, 236, 253, 277, 295, 312, 329, 346, 370, 389] 120 _).trans rfl
set_option maxRecDepth 100000 in
set_option maxHeartbeats 400000 in
/-- IllLightModel.wordOf(J)I -/
theorem E_X9_wordOf_212 (h : PH) (y0 : Int64) (s0 : Int64) (s1 : Int64) : pm_ev (161, 212, [vl y0, none], [vl s0, vl s1], h) = (if lg_cmp s1 s0 = 0 then some (some (vi 11), h) else (pm_bL (pm_ev (160, 0, [vi 0, vi 0, vi 0, vi 12, vi 9, vi 13, vi 9, vi 20], [], h)) fun l24 h23 => pm_ev (161, 236, [vl y0, none], [vl l24, vl y0], h23))) := (ev_rc [11, 28, 45, 66, 84, 106, 128, 145, 167, 189, 212, 236, 253, 277, 295, 312, 329, 346, 370, 389] 120 _).trans rfl
set_option maxRecDepth 100000 in
set_option maxHeartbeats 400000 in
/-- IllLightModel.wordOf(J)I -/
theorem E_X9_wordOf_236 (h : PH) (y0 : Int64) (s0 : Int64) (s1 : Int64) : pm_ev (161, 236, [vl y0, none], [vl s0, vl s1], h) = (if lg_cmp s1 s0 = 0 then some (some (vi 12), h) else (pm_bL (pm_ev (159, 0, [vi 0, vi 13, vi 1, vi 14], [], h)) fun l26 h25 => pm_ev (161, 253, [vl y0, none], [vl l26, vl y0], h25))) := (ev_rc [11, 28, 45, 66, 84, 106, 128, 145, 167, 189, 212, 236, 253, 277, 295, 312, 329, 346, 370, 389] 120 _).trans rfl
set_option maxRecDepth 100000 in
set_option maxHeartbeats 400000 in
/-- IllLightModel.wordOf(J)I -/
theorem E_X9_wordOf_253 (h : PH) (y0 : Int64) (s0 : Int64) (s1 : Int64) : pm_ev (161, 253, [vl y0, none], [vl s0, vl s1], h) = (if lg_cmp s1 s0 = 0 then some (some (vi 13), h) else (pm_bL (pm_ev (160, 0, [vi 0, vi 0, vi 5, vi 18, vi 18, vi 15, vi 18, vi 19], [], h)) fun l28 h27 => pm_ev (161, 277, [vl y0, none], [vl l28, vl y0], h27))) := (ev_rc [11, 28, 45, 66, 84, 106, 128, 145, 167, 189, 212, 236, 253, 277, 295, 312, 329, 346, 370, 389] 120 _).trans rfl
set_option maxRecDepth 100000 in
set_option maxHeartbeats 400000 in
/-- IllLightModel.wordOf(J)I -/
theorem E_X9_wordOf_277 (h : PH) (y0 : Int64) (s0 : Int64) (s1 : Int64) : pm_ev (161, 277, [vl y0, none], [vl s0, vl s1], h) = (if lg_cmp s1 s0 = 0 then some (some (vi 14), h) else (pm_bL (pm_ev (159, 0, [vi 0, vi 12, vi 9, vi 20], [], h)) fun l30 h29 => pm_ev (161, 295, [vl y0, none], [vl l30, vl y0], h29))) := (ev_rc [11, 28, 45, 66, 84, 106, 128, 145, 167, 189, 212, 236, 253, 277, 295, 312, 329, 346, 370, 389] 120 _).trans rfl
set_option maxRecDepth 100000 in
set_option maxHeartbeats 400000 in
/-- IllLightModel.wordOf(J)I -/
theorem E_X9_wordOf_295 (h : PH) (y0 : Int64) (s0 : Int64) (s1 : Int64) : pm_ev (161, 295, [vl y0, none], [vl s0, vl s1], h) = (if lg_cmp s1 s0 = 0 then some (some (vi 15), h) else (pm_bL (pm_ev (159, 0, [vi 4, vi 1, vi 18, vi 11], [], h)) fun l32 h31 => pm_ev (161, 312, [vl y0, none], [vl l32, vl y0], h31))) := (ev_rc [11, 28, 45, 66, 84, 106, 128, 145, 167, 189, 212, 236, 253, 277, 295, 312, 329, 346, 370, 389] 120 _).trans rfl
set_option maxRecDepth 100000 in
set_option maxHeartbeats 400000 in
/-- IllLightModel.wordOf(J)I -/
theorem E_X9_wordOf_312 (h : PH) (y0 : Int64) (s0 : Int64) (s1 : Int64) : pm_ev (161, 312, [vl y0, none], [vl s0, vl s1], h) = (if lg_cmp s1 s0 = 0 then some (some (vi 16), h) else (pm_bL (pm_ev (159, 0, [vi 0, vi 0, vi 7, vi 15], [], h)) fun l34 h33 => pm_ev (161, 329, [vl y0, none], [vl l34, vl y0], h33))) := (ev_rc [11, 28, 45, 66, 84, 106, 128, 145, 167, 189, 212, 236, 253, 277, 295, 312, 329, 346, 370, 389] 120 _).trans rfl
set_option maxRecDepth 100000 in
set_option maxHeartbeats 400000 in
/-- IllLightModel.wordOf(J)I -/
theorem E_X9_wordOf_329 (h : PH) (y0 : Int64) (s0 : Int64) (s1 : Int64) : pm_ev (161, 329, [vl y0, none], [vl s0, vl s1], h) = (if lg_cmp s1 s0 = 0 then some (some (vi 17), h) else (pm_bL (pm_ev (159, 0, [vi 13, vi 5, vi 1, vi 14], [], h)) fun l36 h35 => pm_ev (161, 346, [vl y0, none], [vl l36, vl y0], h35))) := (ev_rc [11, 28, 45, 66, 84, 106, 128, 145, 167, 189, 212, 236, 253, 277, 295, 312, 329, 346, 370, 389] 120 _).trans rfl
set_option maxRecDepth 100000 in
set_option maxHeartbeats 400000 in
/-- IllLightModel.wordOf(J)I -/
theorem E_X9_wordOf_346 (h : PH) (y0 : Int64) (s0 : Int64) (s1 : Int64) : pm_ev (161, 346, [vl y0, none], [vl s0, vl s1], h) = (if lg_cmp s1 s0 = 0 then some (some (vi 18), h) else (pm_bL (pm_ev (160, 0, [vi 0, vi 0, vi 0, vi 20, vi 8, vi 18, vi 15, vi 23], [], h)) fun l38 h37 => pm_ev (161, 370, [vl y0, none], [vl l38, vl y0], h37))) := (ev_rc [11, 28, 45, 66, 84, 106, 128, 145, 167, 189, 212, 236, 253, 277, 295, 312, 329, 346, 370, 389] 120 _).trans rfl
set_option maxRecDepth 100000 in
set_option maxHeartbeats 400000 in
/-- IllLightModel.wordOf(J)I -/
theorem E_X9_wordOf_370 (h : PH) (y0 : Int64) (s0 : Int64) (s1 : Int64) : pm_ev (161, 370, [vl y0, none], [vl s0, vl s1], h) = (if lg_cmp s1 s0 = 0 then some (some (vi 19), h) else (pm_bL (pm_ev (159, 0, [vi 8, vi 15, vi 21, vi 18], [], h)) fun l40 h39 => pm_ev (161, 389, [vl y0, none], [vl l40, vl y0], h39))) := (ev_rc [11, 28, 45, 66, 84, 106, 128, 145, 167, 189, 212, 236, 253, 277, 295, 312, 329, 346, 370, 389] 120 _).trans rfl
set_option maxRecDepth 100000 in
set_option maxHeartbeats 400000 in
/-- IllLightModel.wordOf(J)I -/
theorem E_X9_wordOf_389 (h : PH) (y0 : Int64) (s0 : Int64) (s1 : Int64) : pm_ev (161, 389, [vl y0, none], [vl s0, vl s1], h) = (if lg_cmp s1 s0 = 0 then some (some (vi 20), h) else some (some (vi 99), h)) := (ev_rc [11, 28, 45, 66, 84, 106, 128, 145, 167, 189, 212, 236, 253, 277, 295, 312, 329, 346, 370, 389] 120 _).trans rfl
set_option maxRecDepth 100000 in
set_option maxHeartbeats 400000 in
/-- IllLightModel.advance()V -/
theorem E_X9_advance (h : PH)  : pm_ev (162, 0, [vr 8 0, none, none, none], [], h) = (pm_bI (pm_ev (156, 0, [vr 8 0, vi (h.1 8 0 3)], [], h)) fun r2 h1 => pm_ev (162, 8, [vr 8 0, none, none, none], [vi r2], h1)) := (ev_rc [0, 8, 21, 47, 55, 72, 77, 85, 88, 105, 118, 125, 162, 165, 190, 198, 206, 209, 225, 241, 248, 296] 120 _).trans rfl
set_option maxRecDepth 100000 in
set_option maxHeartbeats 400000 in
/-- IllLightModel.advance()V -/
theorem E_X9_advance_8 (h : PH) (s0 : Int32) : pm_ev (162, 8, [vr 8 0, none, none, none], [vi s0], h) = (if s0 = 10 then pm_ev (162, 0, [vr 8 0, none, none, none], [], (pm_sI h 8 0 3 ((h.1 8 0 3) + 1))) else (pm_bI (pm_ev (156, 0, [vr 8 0, vi (h.1 8 0 3)], [], h)) fun r4 h3 => pm_ev (162, 21, [vr 8 0, none, none, none], [vi r4], h3))) := (ev_rc [0, 8, 21, 47, 55, 72, 77, 85, 88, 105, 118, 125, 162, 165, 190, 198, 206, 209, 225, 241, 248, 296] 120 _).trans rfl
set_option maxRecDepth 100000 in
set_option maxHeartbeats 400000 in
/-- IllLightModel.advance()V -/
theorem E_X9_advance_21 (h : PH) (s0 : Int32) : pm_ev (162, 21, [vr 8 0, none, none, none], [vi s0], h) = (if s0 = 32 then pm_ev (162, 0, [vr 8 0, none, none, none], [], (pm_sI h 8 0 3 ((h.1 8 0 3) + 1))) else pm_ev (162, 47, [vr 8 0, none, none, none], [], (pm_sI h 8 0 4 (h.1 8 0 3)))) := (ev_rc [0, 8, 21, 47, 55, 72, 77, 85, 88, 105, 118, 125, 162, 165, 190, 198, 206, 209, 225, 241, 248, 296] 120 _).trans rfl
set_option maxRecDepth 100000 in
set_option maxHeartbeats 400000 in
/-- IllLightModel.advance()V -/
theorem E_X9_advance_47 (h : PH)  : pm_ev (162, 47, [vr 8 0, none, none, none], [], h) = (pm_bI (pm_ev (156, 0, [vr 8 0, vi (h.1 8 0 3)], [], h)) fun r6 h5 => pm_ev (162, 55, [vr 8 0, none, none, none], [vi r6], h5)) := (ev_rc [0, 8, 21, 47, 55, 72, 77, 85, 88, 105, 118, 125, 162, 165, 190, 198, 206, 209, 225, 241, 248, 296] 120 _).trans rfl
set_option maxRecDepth 100000 in
set_option maxHeartbeats 400000 in
/-- IllLightModel.advance()V -/
theorem E_X9_advance_55 (h : PH) (s0 : Int32) : pm_ev (162, 55, [vr 8 0, none, none, none], [vi s0], h) = (if s0 < 0 then some (none, (pm_sI h 8 0 5 0)) else (pm_bI (pm_ev (157, 0, [vi s0], [], h)) fun r8 h7 => pm_ev (162, 72, [vr 8 0, vi s0, none, none], [vi r8], h7))) := (ev_rc [0, 8, 21, 47, 55, 72, 77, 85, 88, 105, 118, 125, 162, 165, 190, 198, 206, 209, 225, 241, 248, 296] 120 _).trans rfl
set_option maxRecDepth 100000 in
set_option maxHeartbeats 400000 in
/-- IllLightModel.advance()V -/
theorem E_X9_advance_72 (h : PH) (x1 : Int32) (s0 : Int32) : pm_ev (162, 72, [vr 8 0, vi x1, none, none], [vi s0], h) = (if s0 = 0 then (pm_bI (pm_ev (158, 0, [vi x1], [], h)) fun r10 h9 => pm_ev (162, 190, [vr 8 0, vi x1, none, none], [vi r10], h9)) else pm_ev (162, 77, [vr 8 0, none, vl 0, none], [], h)) := (ev_rc [0, 8, 21, 47, 55, 72, 77, 85, 88, 105, 118, 125, 162, 165, 190, 198, 206, 209, 225, 241, 248, 296] 120 _).trans rfl
set_option maxRecDepth 100000 in
set_option maxHeartbeats 400000 in
/-- IllLightModel.advance()V -/
theorem E_X9_advance_190 (h : PH) (x1 : Int32) (s0 : Int32) : pm_ev (162, 190, [vr 8 0, vi x1, none, none], [vi s0], h) = (if s0 = 0 then pm_ev (162, 296, [vr 8 0, vi x1, none, none], [], (pm_sI h 8 0 3 ((h.1 8 0 3) + 1))) else pm_ev (162, 198, [vr 8 0, none, none, none], [], (pm_sI h 8 0 6 0))) := (ev_rc [0, 8, 21, 47, 55, 72, 77, 85, 88, 105, 118, 125, 162, 165, 190, 198, 206, 209, 225, 241, 248, 296] 120 _).trans rfl
set_option maxRecDepth 100000 in
set_option maxHeartbeats 400000 in
/-- IllLightModel.advance()V -/
theorem E_X9_advance_77 (h : PH) (y2 : Int64) : pm_ev (162, 77, [vr 8 0, none, vl y2, none], [], h) = (pm_bI (pm_ev (156, 0, [vr 8 0, vi (h.1 8 0 3)], [], h)) fun r12 h11 => pm_ev (162, 85, [vr 8 0, none, vl y2, none], [vi r12], h11)) := (ev_rc [0, 8, 21, 47, 55, 72, 77, 85, 88, 105, 118, 125, 162, 165, 190, 198, 206, 209, 225, 241, 248, 296] 120 _).trans rfl
set_option maxRecDepth 100000 in
set_option maxHeartbeats 400000 in
/-- IllLightModel.advance()V -/
theorem E_X9_advance_296 (h : PH) (x1 : Int32) : pm_ev (162, 296, [vr 8 0, vi x1, none, none], [], h) = (if x1 = 59 then some (none, (pm_sI h 8 0 5 2)) else some (none, (pm_sI h 8 0 5 4))) := (ev_rc [0, 8, 21, 47, 55, 72, 77, 85, 88, 105, 118, 125, 162, 165, 190, 198, 206, 209, 225, 241, 248, 296] 120 _).trans rfl
set_option maxRecDepth 100000 in
set_option maxHeartbeats 400000 in
/-- IllLightModel.advance()V -/
theorem E_X9_advance_198 (h : PH)  : pm_ev (162, 198, [vr 8 0, none, none, none], [], h) = (pm_bI (pm_ev (156, 0, [vr 8 0, vi (h.1 8 0 3)], [], h)) fun r14 h13 => pm_ev (162, 206, [vr 8 0, none, none, none], [vi r14], h13)) := (ev_rc [0, 8, 21, 47, 55, 72, 77, 85, 88, 105, 118, 125, 162, 165, 190, 198, 206, 209, 225, 241, 248, 296] 120 _).trans rfl
set_option maxRecDepth 100000 in
set_option maxHeartbeats 400000 in
/-- IllLightModel.advance()V -/
theorem E_X9_advance_85 (h : PH) (y2 : Int64) (s0 : Int32) : pm_ev (162, 85, [vr 8 0, none, vl y2, none], [vi s0], h) = (pm_bI (pm_ev (157, 0, [vi s0], [], h)) fun r16 h15 => pm_ev (162, 88, [vr 8 0, none, vl y2, none], [vi r16], h15)) := (ev_rc [0, 8, 21, 47, 55, 72, 77, 85, 88, 105, 118, 125, 162, 165, 190, 198, 206, 209, 225, 241, 248, 296] 120 _).trans rfl
set_option maxRecDepth 100000 in
set_option maxHeartbeats 400000 in
/-- IllLightModel.advance()V -/
theorem E_X9_advance_206 (h : PH) (s0 : Int32) : pm_ev (162, 206, [vr 8 0, none, none, none], [vi s0], h) = (pm_bI (pm_ev (158, 0, [vi s0], [], h)) fun r18 h17 => pm_ev (162, 209, [vr 8 0, none, none, none], [vi r18], h17)) := (ev_rc [0, 8, 21, 47, 55, 72, 77, 85, 88, 105, 118, 125, 162, 165, 190, 198, 206, 209, 225, 241, 248, 296] 120 _).trans rfl
set_option maxRecDepth 100000 in
set_option maxHeartbeats 400000 in
/-- IllLightModel.advance()V -/
theorem E_X9_advance_88 (h : PH) (y2 : Int64) (s0 : Int32) : pm_ev (162, 88, [vr 8 0, none, vl y2, none], [vi s0], h) = (if s0 = 0 then (if (8 : Int32) < (h.1 8 0 3) - (h.1 8 0 4) then pm_ev (162, 162, [vr 8 0, none, none, none], [vi 99, vr 8 0], h) else (pm_bI (pm_ev (161, 0, [vl y2, none], [], h)) fun r20 h19 => pm_ev (162, 162, [vr 8 0, none, none, none], [vi r20, vr 8 0], h19))) else (if (h.1 8 0 3) - (h.1 8 0 4) < 8 then pm_ev (162, 105, [vr 8 0, none, vl y2, none], [], h) else pm_ev (162, 125, [vr 8 0, none, vl y2, none], [], h))) := (ev_rc [0, 8, 21, 47, 55, 72, 77, 85, 88, 105, 118, 125, 162, 165, 190, 198, 206, 209, 225, 241, 248, 296] 120 _).trans rfl
set_option maxRecDepth 100000 in
set_option maxHeartbeats 400000 in
/-- IllLightModel.advance()V -/
theorem E_X9_advance_209 (h : PH) (s0 : Int32) : pm_ev (162, 209, [vr 8 0, none, none, none], [vi s0], h) = (if s0 = 0 then (if (2 : Int32) < (h.1 8 0 3) - (h.1 8 0 4) then some (none, (pm_sI h 8 0 5 4)) else some (none, (pm_sI h 8 0 5 1))) else (if (h.1 8 0 3) - (h.1 8 0 4) < 2 then pm_ev (162, 225, [vr 8 0, none, none, none], [], h) else pm_ev (162, 248, [vr 8 0, none, none, none], [], h))) := (ev_rc [0, 8, 21, 47, 55, 72, 77, 85, 88, 105, 118, 125, 162, 165, 190, 198, 206, 209, 225, 241, 248, 296] 120 _).trans rfl
set_option maxRecDepth 100000 in
set_option maxHeartbeats 400000 in
/-- IllLightModel.advance()V -/
theorem E_X9_advance_162 (h : PH) (s0 : Int32) (s1 : Nat) : pm_ev (162, 162, [vr 8 0, none, none, none], [vi s0, vr 8 s1], h) = pm_ev (162, 165, [vr 8 0, none, none, none], [], (pm_sI h 8 s1 7 s0)) := (ev_rc [0, 8, 21, 47, 55, 72, 77, 85, 88, 105, 118, 125, 162, 165, 190, 198, 206, 209, 225, 241, 248, 296] 120 _).trans rfl
set_option maxRecDepth 100000 in
set_option maxHeartbeats 400000 in
/-- IllLightModel.advance()V -/
theorem E_X9_advance_105 (h : PH) (y2 : Int64) : pm_ev (162, 105, [vr 8 0, none, vl y2, none], [], h) = (pm_bI (pm_ev (156, 0, [vr 8 0, vi (h.1 8 0 3)], [], h)) fun r22 h21 => pm_ev (162, 118, [vr 8 0, none, vl y2, none], [vi r22, vl (32 * y2)], h21)) := (ev_rc [0, 8, 21, 47, 55, 72, 77, 85, 88, 105, 118, 125, 162, 165, 190, 198, 206, 209, 225, 241, 248, 296] 120 _).trans rfl
set_option maxRecDepth 100000 in
set_option maxHeartbeats 400000 in
/-- IllLightModel.advance()V -/
theorem E_X9_advance_125 (h : PH) (y2 : Int64) : pm_ev (162, 125, [vr 8 0, none, vl y2, none], [], h) = pm_ev (162, 77, [vr 8 0, none, vl y2, none], [], (pm_sI h 8 0 3 ((h.1 8 0 3) + 1))) := (ev_rc [0, 8, 21, 47, 55, 72, 77, 85, 88, 105, 118, 125, 162, 165, 190, 198, 206, 209, 225, 241, 248, 296] 120 _).trans rfl
set_option maxRecDepth 100000 in
set_option maxHeartbeats 400000 in
/-- IllLightModel.advance()V -/
theorem E_X9_advance_225 (h : PH)  : pm_ev (162, 225, [vr 8 0, none, none, none], [], h) = (pm_bI (pm_ev (156, 0, [vr 8 0, vi (h.1 8 0 3)], [], h)) fun r24 h23 => pm_ev (162, 241, [vr 8 0, none, none, none], [vi r24, vi (10 * (h.1 8 0 6)), vr 8 0], h23)) := (ev_rc [0, 8, 21, 47, 55, 72, 77, 85, 88, 105, 118, 125, 162, 165, 190, 198, 206, 209, 225, 241, 248, 296] 120 _).trans rfl
set_option maxRecDepth 100000 in
set_option maxHeartbeats 400000 in
/-- IllLightModel.advance()V -/
theorem E_X9_advance_248 (h : PH)  : pm_ev (162, 248, [vr 8 0, none, none, none], [], h) = pm_ev (162, 198, [vr 8 0, none, none, none], [], (pm_sI h 8 0 3 ((h.1 8 0 3) + 1))) := (ev_rc [0, 8, 21, 47, 55, 72, 77, 85, 88, 105, 118, 125, 162, 165, 190, 198, 206, 209, 225, 241, 248, 296] 120 _).trans rfl
set_option maxRecDepth 100000 in
set_option maxHeartbeats 400000 in
/-- IllLightModel.advance()V -/
theorem E_X9_advance_165 (h : PH)  : pm_ev (162, 165, [vr 8 0, none, none, none], [], h) = (if h.1 8 0 7 = 99 then some (none, (pm_sI h 8 0 5 4)) else some (none, (pm_sI h 8 0 5 3))) := (ev_rc [0, 8, 21, 47, 55, 72, 77, 85, 88, 105, 118, 125, 162, 165, 190, 198, 206, 209, 225, 241, 248, 296] 120 _).trans rfl
set_option maxRecDepth 100000 in
set_option maxHeartbeats 400000 in
/-- IllLightModel.advance()V -/
theorem E_X9_advance_118 (h : PH) (y2 : Int64) (s0 : Int32) (s1 : Int64) : pm_ev (162, 118, [vr 8 0, none, vl y2, none], [vi s0, vl s1], h) = pm_ev (162, 125, [vr 8 0, none, vl ((s1 + ((s0 : Int32).toInt64)) - 96), none], [], h) := (ev_rc [0, 8, 21, 47, 55, 72, 77, 85, 88, 105, 118, 125, 162, 165, 190, 198, 206, 209, 225, 241, 248, 296] 120 _).trans rfl
set_option maxRecDepth 100000 in
set_option maxHeartbeats 400000 in
/-- IllLightModel.advance()V -/
theorem E_X9_advance_241 (h : PH) (s0 : Int32) (s1 : Int32) (s2 : Nat) : pm_ev (162, 241, [vr 8 0, none, none, none], [vi s0, vi s1, vr 8 s2], h) = pm_ev (162, 248, [vr 8 0, none, none, none], [], (pm_sI h 8 s2 6 ((s1 + s0) - 48))) := (ev_rc [0, 8, 21, 47, 55, 72, 77, 85, 88, 105, 118, 125, 162, 165, 190, 198, 206, 209, 225, 241, 248, 296] 120 _).trans rfl
set_option maxRecDepth 100000 in
set_option maxHeartbeats 400000 in
/-- IllLightModel.ends()V -/
theorem E_X9_ends (h : PH)  : pm_ev (163, 0, [vr 8 0], [], h) = (if h.1 8 0 8 = 0 then some (none, (pm_sI (pm_sI (pm_sI h 8 0 8 1) 33 0 ((5 : Int32).toNatClampNeg) 1) 33 0 ((6 : Int32).toNatClampNeg) (h.1 8 0 4))) else some (none, h)) := (ev_rc [] 120 _).trans rfl
set_option maxRecDepth 100000 in
set_option maxHeartbeats 400000 in
/-- IllLightModel.also(II)V -/
theorem E_X9_also (h : PH) (a : Int32) (b : Int32) : pm_ev (164, 0, [vr 8 0, vi a, vi b], [], h) = (if h.1 8 0 8 = 0 then pm_ev (164, 13, [vr 8 0, vi a, vi b], [vi (h.1 33 0 ((5 : Int32).toNatClampNeg))], h) else some (none, h)) := (ev_rc [13, 23, 34, 44] 120 _).trans rfl
set_option maxRecDepth 100000 in
set_option maxHeartbeats 400000 in
/-- IllLightModel.also(II)V -/
theorem E_X9_also_13 (h : PH) (x1 : Int32) (x2 : Int32) (s0 : Int32) : pm_ev (164, 13, [vr 8 0, vi x1, vi x2], [vi s0], h) = (if s0 = 0 then some (none, (pm_sI (pm_sI h 33 0 ((5 : Int32).toNatClampNeg) x1) 33 0 ((6 : Int32).toNatClampNeg) x2)) else pm_ev (164, 23, [vr 8 0, vi x1, vi x2], [vi (h.1 33 0 ((6 : Int32).toNatClampNeg))], h)) := (ev_rc [13, 23, 34, 44] 120 _).trans rfl
set_option maxRecDepth 100000 in
set_option maxHeartbeats 400000 in
/-- IllLightModel.also(II)V -/
theorem E_X9_also_23 (h : PH) (x1 : Int32) (x2 : Int32) (s0 : Int32) : pm_ev (164, 23, [vr 8 0, vi x1, vi x2], [vi s0], h) = (if s0 < x2 then some (none, h) else pm_ev (164, 34, [vr 8 0, vi x1, vi x2], [vi (h.1 33 0 ((6 : Int32).toNatClampNeg))], h)) := (ev_rc [13, 23, 34, 44] 120 _).trans rfl
set_option maxRecDepth 100000 in
set_option maxHeartbeats 400000 in
/-- IllLightModel.also(II)V -/
theorem E_X9_also_34 (h : PH) (x1 : Int32) (x2 : Int32) (s0 : Int32) : pm_ev (164, 34, [vr 8 0, vi x1, vi x2], [vi s0], h) = (if s0 = x2 then pm_ev (164, 44, [vr 8 0, vi x1, vi x2], [vi (h.1 33 0 ((5 : Int32).toNatClampNeg))], h) else some (none, (pm_sI (pm_sI h 33 0 ((5 : Int32).toNatClampNeg) x1) 33 0 ((6 : Int32).toNatClampNeg) x2))) := (ev_rc [13, 23, 34, 44] 120 _).trans rfl
set_option maxRecDepth 100000 in
set_option maxHeartbeats 400000 in
/-- IllLightModel.also(II)V -/
theorem E_X9_also_44 (h : PH) (x1 : Int32) (x2 : Int32) (s0 : Int32) : pm_ev (164, 44, [vr 8 0, vi x1, vi x2], [vi s0], h) = (if x1 < s0 then some (none, (pm_sI (pm_sI h 33 0 ((5 : Int32).toNatClampNeg) x1) 33 0 ((6 : Int32).toNatClampNeg) x2)) else some (none, h)) := (ev_rc [13, 23, 34, 44] 120 _).trans rfl
set_option maxRecDepth 100000 in
set_option maxHeartbeats 400000 in
/-- IllLightModel.numbered(II)I -/
theorem E_X9_numbered (h : PH) (a : Int32) (b : Int32) : pm_ev (165, 0, [vr 8 0, vi a, vi b, none], [], h) = (if h.1 8 0 8 = 0 then (if h.1 8 0 5 = 1 then (pm_bI (pm_ev (153, 0, [vi (h.1 8 0 6), vi a, vi b], [], h)) fun r2 h1 => (if r2 = 0 then (pm_bV (pm_ev (164, 0, [vr 8 0, vi 2, vi (h1.1 8 0 4)], [], h1)) fun h3 => pm_ev (165, 44, [vr 8 0, vi a, vi b, vi (h.1 8 0 6)], [], h3)) else pm_ev (165, 44, [vr 8 0, vi a, vi b, vi (h.1 8 0 6)], [], h1))) else (pm_bV (pm_ev (163, 0, [vr 8 0], [], h)) fun h4 => some (some (vi a), h4))) else (pm_bV (pm_ev (163, 0, [vr 8 0], [], h)) fun h5 => some (some (vi a), h5))) := (ev_rc [44, 54] 120 _).trans rfl
set_option maxRecDepth 100000 in
set_option maxHeartbeats 400000 in
/-- IllLightModel.numbered(II)I -/
theorem E_X9_numbered_44 (h : PH) (x1 : Int32) (x2 : Int32) (x3 : Int32) : pm_ev (165, 44, [vr 8 0, vi x1, vi x2, vi x3], [], h) = (pm_bV (pm_ev (162, 0, [vr 8 0, none, none, none], [], h)) fun h6 => (pm_bI (pm_ev (153, 0, [vi x3, vi x1, vi x2], [], h6)) fun r8 h7 => pm_ev (165, 54, [vr 8 0, vi x1, vi x2, vi x3], [vi r8], h7))) := (ev_rc [44, 54] 120 _).trans rfl
set_option maxRecDepth 100000 in
set_option maxHeartbeats 400000 in
/-- IllLightModel.numbered(II)I -/
theorem E_X9_numbered_54 (h : PH) (x1 : Int32) (x2 : Int32) (x3 : Int32) (s0 : Int32) : pm_ev (165, 54, [vr 8 0, vi x1, vi x2, vi x3], [vi s0], h) = (if s0 = 0 then some (some (vi x1), h) else some (some (vi x3), h)) := (ev_rc [44, 54] 120 _).trans rfl
set_option maxRecDepth 100000 in
set_option maxHeartbeats 400000 in
/-- IllLightModel.takes(II)I -/
theorem E_X9_takes (h : PH) (a : Int32) (b : Int32) : pm_ev (166, 0, [vr 8 0, vi a, vi b, none], [], h) = (if h.1 8 0 8 = 0 then (if h.1 8 0 5 = 3 then (pm_bI (pm_ev (153, 0, [vi (h.1 8 0 7), vi a, vi b], [], h)) fun r2 h1 => (if r2 = 0 then (pm_bV (pm_ev (163, 0, [vr 8 0], [], h1)) fun h3 => pm_ev (166, 31, [vr 8 0, none, none, none], [], h3)) else (pm_bV (pm_ev (162, 0, [vr 8 0, none, none, none], [], h1)) fun h4 => pm_ev (166, 42, [vr 8 0, none, none, vi (h1.1 8 0 7)], [], h4)))) else (pm_bV (pm_ev (163, 0, [vr 8 0], [], h)) fun h5 => pm_ev (166, 31, [vr 8 0, none, none, none], [], h5))) else (pm_bV (pm_ev (163, 0, [vr 8 0], [], h)) fun h6 => pm_ev (166, 31, [vr 8 0, none, none, none], [], h6))) := (ev_rc [31, 42] 120 _).trans rfl
set_option maxRecDepth 100000 in
set_option maxHeartbeats 400000 in
/-- IllLightModel.takes(II)I -/
theorem E_X9_takes_31 (h : PH)  : pm_ev (166, 31, [vr 8 0, none, none, none], [], h) = some (some (vi 0), h) := (ev_rc [31, 42] 120 _).trans rfl
set_option maxRecDepth 100000 in
set_option maxHeartbeats 400000 in
/-- IllLightModel.takes(II)I -/
theorem E_X9_takes_42 (h : PH) (x3 : Int32) : pm_ev (166, 42, [vr 8 0, none, none, vi x3], [], h) = some (some (vi x3), h) := (ev_rc [31, 42] 120 _).trans rfl
set_option maxRecDepth 100000 in
set_option maxHeartbeats 400000 in
/-- IllLightModel.endsLine()V -/
theorem E_X9_endsLine (h : PH)  : pm_ev (167, 0, [vr 8 0], [], h) = (if h.1 8 0 8 = 0 then (if h.1 8 0 5 = 2 then (pm_bV (pm_ev (162, 0, [vr 8 0, none, none, none], [], h)) fun h1 => some (none, h1)) else (pm_bV (pm_ev (163, 0, [vr 8 0], [], h)) fun h2 => some (none, h2))) else (pm_bV (pm_ev (163, 0, [vr 8 0], [], h)) fun h3 => some (none, h3))) := (ev_rc [] 120 _).trans rfl
set_option maxRecDepth 100000 in
set_option maxHeartbeats 400000 in
/-- IllLightModel.cellTold()I -/
theorem E_X9_cellTold (h : PH)  : pm_ev (168, 0, [vr 8 0, none, none], [], h) = (pm_bI (pm_ev (165, 0, [vr 8 0, vi 0, vi 7, none], [], h)) fun r2 h1 => (pm_bI (pm_ev (165, 0, [vr 8 0, vi 0, vi 7, none], [], h1)) fun r4 h3 => pm_ev (168, 15, [vr 8 0, vi r2, none], [vi r4], h3))) := (ev_rc [15] 120 _).trans rfl
set_option maxRecDepth 100000 in
set_option maxHeartbeats 400000 in
/-- IllLightModel.cellTold()I -/
theorem E_X9_cellTold_15 (h : PH) (x1 : Int32) (s0 : Int32) : pm_ev (168, 15, [vr 8 0, vi x1, none], [vi s0], h) = (if h.1 8 0 9 < x1 then (if h.1 8 0 10 < s0 then some (some (vi ((8 * s0) + x1)), (pm_sI (pm_sI h 8 0 9 x1) 8 0 10 s0)) else some (some (vi ((8 * s0) + x1)), (pm_sI (pm_sI h 8 0 9 x1) 8 0 10 (h.1 8 0 10)))) else (if h.1 8 0 10 < s0 then some (some (vi ((8 * s0) + x1)), (pm_sI (pm_sI h 8 0 9 (h.1 8 0 9)) 8 0 10 s0)) else some (some (vi ((8 * s0) + x1)), (pm_sI (pm_sI h 8 0 9 (h.1 8 0 9)) 8 0 10 (h.1 8 0 10))))) := (ev_rc [15] 120 _).trans rfl
set_option maxRecDepth 100000 in
set_option maxHeartbeats 400000 in
/-- IllLightModel.guardLine(I)V -/
theorem E_X9_guardLine (h : PH) (a : Int32) : pm_ev (169, 0, [vr 8 0, vi a, none, none, none], [], h) = pm_ev (169, 6, [vr 8 0, vi a, none, none, none], [vi (h.1 35 0 ((4 : Int32).toNatClampNeg))], h) := (ev_rc [6, 30, 38, 58, 62, 75, 82, 89] 120 _).trans rfl
set_option maxRecDepth 100000 in
set_option maxHeartbeats 400000 in
/-- IllLightModel.guardLine(I)V -/
theorem E_X9_guardLine_6 (h : PH) (x1 : Int32) (s0 : Int32) : pm_ev (169, 6, [vr 8 0, vi x1, none, none, none], [vi s0], h) = (if s0 < 4 then (pm_bI (pm_ev (168, 0, [vr 8 0, none, none], [], h)) fun r2 h1 => pm_ev (169, 30, [vr 8 0, none, vi 1, none, none], [vi r2], h1)) else (pm_bV (pm_ev (164, 0, [vr 8 0, vi 3, vi x1], [], h)) fun h3 => (pm_bI (pm_ev (168, 0, [vr 8 0, none, none], [], h3)) fun r5 h4 => pm_ev (169, 30, [vr 8 0, none, vi 0, none, none], [vi r5], h4)))) := (ev_rc [6, 30, 38, 58, 62, 75, 82, 89] 120 _).trans rfl
set_option maxRecDepth 100000 in
set_option maxHeartbeats 400000 in
/-- IllLightModel.guardLine(I)V -/
theorem E_X9_guardLine_30 (h : PH) (x2 : Int32) (s0 : Int32) : pm_ev (169, 30, [vr 8 0, none, vi x2, none, none], [vi s0], h) = (pm_bI (pm_ev (165, 0, [vr 8 0, vi 0, vi 7, none], [], h)) fun r7 h6 => pm_ev (169, 38, [vr 8 0, none, vi x2, vi s0, none], [vi r7], h6)) := (ev_rc [6, 30, 38, 58, 62, 75, 82, 89] 120 _).trans rfl
set_option maxRecDepth 100000 in
set_option maxHeartbeats 400000 in
/-- IllLightModel.guardLine(I)V -/
theorem E_X9_guardLine_38 (h : PH) (x2 : Int32) (x3 : Int32) (s0 : Int32) : pm_ev (169, 38, [vr 8 0, none, vi x2, vi x3, none], [vi s0], h) = (if x2 = 0 then some (none, h) else pm_ev (169, 58, [vr 8 0, none, none, vi x3, vi s0], [vi (h.1 35 0 ((4 : Int32).toNatClampNeg)), vi 2, vi 6, vr 35 0], h)) := (ev_rc [6, 30, 38, 58, 62, 75, 82, 89] 120 _).trans rfl
set_option maxRecDepth 100000 in
set_option maxHeartbeats 400000 in
/-- IllLightModel.guardLine(I)V -/
theorem E_X9_guardLine_58 (h : PH) (x3 : Int32) (x4 : Int32) (s0 : Int32) (s1 : Int32) (s2 : Int32) (s3 : Nat) : pm_ev (169, 58, [vr 8 0, none, none, vi x3, vi x4], [vi s0, vi s1, vi s2, vr 35 s3], h) = (if pm_inb (s2 + (s1 * s0)) 161 = true then pm_ev (169, 62, [vr 8 0, none, none, vi x3, vi x4], [], (pm_sI h 35 s3 ((s2 + (s1 * s0)).toNatClampNeg) x3)) else none) := (ev_rc [6, 30, 38, 58, 62, 75, 82, 89] 120 _).trans rfl
set_option maxRecDepth 100000 in
set_option maxHeartbeats 400000 in
/-- IllLightModel.guardLine(I)V -/
theorem E_X9_guardLine_62 (h : PH) (x3 : Int32) (x4 : Int32) : pm_ev (169, 62, [vr 8 0, none, none, vi x3, vi x4], [], h) = pm_ev (169, 75, [vr 8 0, none, none, vi x3, vi x4], [vi (h.1 35 0 ((4 : Int32).toNatClampNeg)), vi 2, vi 6, vr 35 0], h) := (ev_rc [6, 30, 38, 58, 62, 75, 82, 89] 120 _).trans rfl
set_option maxRecDepth 100000 in
set_option maxHeartbeats 400000 in
/-- IllLightModel.guardLine(I)V -/
theorem E_X9_guardLine_75 (h : PH) (x3 : Int32) (x4 : Int32) (s0 : Int32) (s1 : Int32) (s2 : Int32) (s3 : Nat) : pm_ev (169, 75, [vr 8 0, none, none, vi x3, vi x4], [vi s0, vi s1, vi s2, vr 35 s3], h) = (if pm_inb ((s2 + (s1 * s0)) + 1) 161 = true then pm_ev (169, 82, [vr 8 0, none, none, vi x3, vi x4], [], (pm_sI h 35 s3 (((s2 + (s1 * s0)) + 1).toNatClampNeg) x4)) else none) := (ev_rc [6, 30, 38, 58, 62, 75, 82, 89] 120 _).trans rfl
set_option maxRecDepth 100000 in
set_option maxHeartbeats 400000 in
/-- IllLightModel.guardLine(I)V -/
theorem E_X9_guardLine_82 (h : PH) (x3 : Int32) (x4 : Int32) : pm_ev (169, 82, [vr 8 0, none, none, vi x3, vi x4], [], h) = pm_ev (169, 89, [vr 8 0, none, none, vi x3, vi x4], [vi (h.1 35 0 ((4 : Int32).toNatClampNeg)), vi 4, vr 35 0], h) := (ev_rc [6, 30, 38, 58, 62, 75, 82, 89] 120 _).trans rfl
set_option maxRecDepth 100000 in
set_option maxHeartbeats 400000 in
/-- IllLightModel.guardLine(I)V -/
theorem E_X9_guardLine_89 (h : PH) (x3 : Int32) (x4 : Int32) (s0 : Int32) (s1 : Int32) (s2 : Nat) : pm_ev (169, 89, [vr 8 0, none, none, vi x3, vi x4], [vi s0, vi s1, vr 35 s2], h) = (if pm_inb s1 161 = true then some (none, (pm_sI h 35 s2 s1.toNatClampNeg (s0 + 1))) else none) := (ev_rc [6, 30, 38, 58, 62, 75, 82, 89] 120 _).trans rfl
set_option maxRecDepth 100000 in
set_option maxHeartbeats 400000 in
/-- IllLightModel.shipLine(I)V -/
theorem E_X9_shipLine (h : PH) (a : Int32) : pm_ev (170, 0, [vr 8 0, vi a, none, none, none, none, none], [], h) = pm_ev (170, 6, [vr 8 0, vi a, none, none, none, none, none], [vi (h.1 35 0 ((5 : Int32).toNatClampNeg))], h) := (ev_rc [6, 30, 38, 63, 75, 86, 97, 104] 120 _).trans rfl
set_option maxRecDepth 100000 in
set_option maxHeartbeats 400000 in
/-- IllLightModel.shipLine(I)V -/
theorem E_X9_shipLine_6 (h : PH) (x1 : Int32) (s0 : Int32) : pm_ev (170, 6, [vr 8 0, vi x1, none, none, none, none, none], [vi s0], h) = (if s0 < 4 then (pm_bI (pm_ev (168, 0, [vr 8 0, none, none], [], h)) fun r2 h1 => pm_ev (170, 30, [vr 8 0, none, vi 1, none, none, none, none], [vi r2], h1)) else (pm_bV (pm_ev (164, 0, [vr 8 0, vi 3, vi x1], [], h)) fun h3 => (pm_bI (pm_ev (168, 0, [vr 8 0, none, none], [], h3)) fun r5 h4 => pm_ev (170, 30, [vr 8 0, none, vi 0, none, none, none, none], [vi r5], h4)))) := (ev_rc [6, 30, 38, 63, 75, 86, 97, 104] 120 _).trans rfl
set_option maxRecDepth 100000 in
set_option maxHeartbeats 400000 in
/-- IllLightModel.shipLine(I)V -/
theorem E_X9_shipLine_30 (h : PH) (x2 : Int32) (s0 : Int32) : pm_ev (170, 30, [vr 8 0, none, vi x2, none, none, none, none], [vi s0], h) = (pm_bI (pm_ev (165, 0, [vr 8 0, vi 0, vi 9, none], [], h)) fun r7 h6 => pm_ev (170, 38, [vr 8 0, none, vi x2, vi s0, none, none, none], [vi r7], h6)) := (ev_rc [6, 30, 38, 63, 75, 86, 97, 104] 120 _).trans rfl
set_option maxRecDepth 100000 in
set_option maxHeartbeats 400000 in
/-- IllLightModel.shipLine(I)V -/
theorem E_X9_shipLine_38 (h : PH) (x2 : Int32) (x3 : Int32) (s0 : Int32) : pm_ev (170, 38, [vr 8 0, none, vi x2, vi x3, none, none, none], [vi s0], h) = (pm_bI (pm_ev (165, 0, [vr 8 0, vi 0, vi 9, none], [], h)) fun r9 h8 => (if x2 = 0 then some (none, h8) else pm_ev (170, 63, [vr 8 0, none, none, vi x3, vi s0, vi r9, none], [vi (h8.1 35 0 ((5 : Int32).toNatClampNeg)), vi 4, vi 14], h8))) := (ev_rc [6, 30, 38, 63, 75, 86, 97, 104] 120 _).trans rfl
set_option maxRecDepth 100000 in
set_option maxHeartbeats 400000 in
/-- IllLightModel.shipLine(I)V -/
theorem E_X9_shipLine_63 (h : PH) (x3 : Int32) (x4 : Int32) (x5 : Int32) (s0 : Int32) (s1 : Int32) (s2 : Int32) : pm_ev (170, 63, [vr 8 0, none, none, vi x3, vi x4, vi x5, none], [vi s0, vi s1, vi s2], h) = (if pm_inb (s2 + (s1 * s0)) 161 = true then pm_ev (170, 75, [vr 8 0, none, none, vi x3, vi x4, vi x5, vi (s2 + (s1 * s0))], [], (pm_sI h 35 0 ((s2 + (s1 * s0)).toNatClampNeg) x3)) else none) := (ev_rc [6, 30, 38, 63, 75, 86, 97, 104] 120 _).trans rfl
set_option maxRecDepth 100000 in
set_option maxHeartbeats 400000 in
/-- IllLightModel.shipLine(I)V -/
theorem E_X9_shipLine_75 (h : PH) (x3 : Int32) (x4 : Int32) (x5 : Int32) (x6 : Int32) : pm_ev (170, 75, [vr 8 0, none, none, vi x3, vi x4, vi x5, vi x6], [], h) = (if pm_inb (x6 + 1) 161 = true then pm_ev (170, 86, [vr 8 0, none, none, vi x3, vi x4, vi x5, vi x6], [], (pm_sI h 35 0 ((x6 + 1).toNatClampNeg) x4)) else none) := (ev_rc [6, 30, 38, 63, 75, 86, 97, 104] 120 _).trans rfl
set_option maxRecDepth 100000 in
set_option maxHeartbeats 400000 in
/-- IllLightModel.shipLine(I)V -/
theorem E_X9_shipLine_86 (h : PH) (x3 : Int32) (x4 : Int32) (x5 : Int32) (x6 : Int32) : pm_ev (170, 86, [vr 8 0, none, none, vi x3, vi x4, vi x5, vi x6], [], h) = (if pm_inb (x6 + 2) 161 = true then pm_ev (170, 97, [vr 8 0, none, none, vi x3, vi x4, vi x5, vi x6], [], (pm_sI h 35 0 ((x6 + 2).toNatClampNeg) x5)) else none) := (ev_rc [6, 30, 38, 63, 75, 86, 97, 104] 120 _).trans rfl
set_option maxRecDepth 100000 in
set_option maxHeartbeats 400000 in
/-- IllLightModel.shipLine(I)V -/
theorem E_X9_shipLine_97 (h : PH) (x3 : Int32) (x4 : Int32) (x5 : Int32) (x6 : Int32) : pm_ev (170, 97, [vr 8 0, none, none, vi x3, vi x4, vi x5, vi x6], [], h) = pm_ev (170, 104, [vr 8 0, none, none, vi x3, vi x4, vi x5, vi x6], [vi (h.1 35 0 ((5 : Int32).toNatClampNeg)), vi 5, vr 35 0], h) := (ev_rc [6, 30, 38, 63, 75, 86, 97, 104] 120 _).trans rfl
set_option maxRecDepth 100000 in
set_option maxHeartbeats 400000 in
/-- IllLightModel.shipLine(I)V -/
theorem E_X9_shipLine_104 (h : PH) (x3 : Int32) (x4 : Int32) (x5 : Int32) (x6 : Int32) (s0 : Int32) (s1 : Int32) (s2 : Nat) : pm_ev (170, 104, [vr 8 0, none, none, vi x3, vi x4, vi x5, vi x6], [vi s0, vi s1, vr 35 s2], h) = (if pm_inb s1 161 = true then some (none, (pm_sI h 35 s2 s1.toNatClampNeg (s0 + 1))) else none) := (ev_rc [6, 30, 38, 63, 75, 86, 97, 104] 120 _).trans rfl
set_option maxRecDepth 100000 in
set_option maxHeartbeats 400000 in
/-- IllLightModel.shipTold()I -/
theorem E_X9_shipTold (h : PH)  : pm_ev (171, 0, [vr 8 0, none], [], h) = (pm_bI (pm_ev (165, 0, [vr 8 0, vi 0, vi 3, none], [], h)) fun r2 h1 => (if h1.1 8 0 11 < r2 then some (some (vi r2), (pm_sI h1 8 0 11 r2)) else some (some (vi r2), (pm_sI h1 8 0 11 (h1.1 8 0 11))))) := (ev_rc [] 120 _).trans rfl
set_option maxRecDepth 100000 in
set_option maxHeartbeats 400000 in
/-- IllLightModel.manLine(II)V -/
theorem E_X9_manLine (h : PH) (a : Int32) (b : Int32) : pm_ev (172, 0, [vr 8 0, vi a, vi b, none, none, none, none, none], [], h) = pm_ev (172, 6, [vr 8 0, vi a, vi b, none, none, none, none, none], [vi (h.1 35 0 ((5 : Int32).toNatClampNeg))], h) := (ev_rc [6, 26, 34, 35, 47, 62, 76, 83, 86, 95, 99, 113, 117, 146, 158, 169, 180, 194] 120 _).trans rfl
set_option maxRecDepth 100000 in
set_option maxHeartbeats 400000 in
/-- IllLightModel.manLine(II)V -/
theorem E_X9_manLine_6 (h : PH) (x1 : Int32) (x2 : Int32) (s0 : Int32) : pm_ev (172, 6, [vr 8 0, vi x1, vi x2, none, none, none, none, none], [vi s0], h) = (if s0 - 1 < 0 then pm_ev (172, 34, [vr 8 0, vi x1, vi x2, vi (s0 - 1), none, none, none, none], [], h) else (if pm_inb ((14 + (4 * (s0 - 1))) + 3) 161 = true then pm_ev (172, 26, [vr 8 0, vi x1, vi x2, vi (s0 - 1), none, none, none, none], [vi (h.1 35 0 (((14 + (4 * (s0 - 1))) + 3).toNatClampNeg))], h) else none)) := (ev_rc [6, 26, 34, 35, 47, 62, 76, 83, 86, 95, 99, 113, 117, 146, 158, 169, 180, 194] 120 _).trans rfl
set_option maxRecDepth 100000 in
set_option maxHeartbeats 400000 in
/-- IllLightModel.manLine(II)V -/
theorem E_X9_manLine_34 (h : PH) (x1 : Int32) (x2 : Int32) (x3 : Int32) : pm_ev (172, 34, [vr 8 0, vi x1, vi x2, vi x3, none, none, none, none], [], h) = pm_ev (172, 35, [vr 8 0, vi x1, vi x2, vi x3, none, none, none, none], [vi 0], h) := (ev_rc [6, 26, 34, 35, 47, 62, 76, 83, 86, 95, 99, 113, 117, 146, 158, 169, 180, 194] 120 _).trans rfl
set_option maxRecDepth 100000 in
set_option maxHeartbeats 400000 in
/-- IllLightModel.manLine(II)V -/
theorem E_X9_manLine_26 (h : PH) (x1 : Int32) (x2 : Int32) (x3 : Int32) (s0 : Int32) : pm_ev (172, 26, [vr 8 0, vi x1, vi x2, vi x3, none, none, none, none], [vi s0], h) = (if s0 < 4 then pm_ev (172, 35, [vr 8 0, vi x1, vi x2, vi x3, none, none, none, none], [vi 1], h) else pm_ev (172, 34, [vr 8 0, vi x1, vi x2, vi x3, none, none, none, none], [], h)) := (ev_rc [6, 26, 34, 35, 47, 62, 76, 83, 86, 95, 99, 113, 117, 146, 158, 169, 180, 194] 120 _).trans rfl
set_option maxRecDepth 100000 in
set_option maxHeartbeats 400000 in
/-- IllLightModel.manLine(II)V -/
theorem E_X9_manLine_35 (h : PH) (x1 : Int32) (x2 : Int32) (x3 : Int32) (s0 : Int32) : pm_ev (172, 35, [vr 8 0, vi x1, vi x2, vi x3, none, none, none, none], [vi s0], h) = (if x3 < 0 then (pm_bV (pm_ev (164, 0, [vr 8 0, vi 4, vi x1], [], h)) fun h1 => pm_ev (172, 47, [vr 8 0, vi x1, vi x2, vi x3, vi s0, none, none, none], [], h1)) else pm_ev (172, 47, [vr 8 0, vi x1, vi x2, vi x3, vi s0, none, none, none], [], h)) := (ev_rc [6, 26, 34, 35, 47, 62, 76, 83, 86, 95, 99, 113, 117, 146, 158, 169, 180, 194] 120 _).trans rfl
set_option maxRecDepth 100000 in
set_option maxHeartbeats 400000 in
/-- IllLightModel.manLine(II)V -/
theorem E_X9_manLine_47 (h : PH) (x1 : Int32) (x2 : Int32) (x3 : Int32) (x4 : Int32) : pm_ev (172, 47, [vr 8 0, vi x1, vi x2, vi x3, vi x4, none, none, none], [], h) = (if x3 < 0 then pm_ev (172, 62, [vr 8 0, none, vi x2, vi x3, vi x4, none, none, none], [], h) else (if x4 = 0 then (pm_bV (pm_ev (164, 0, [vr 8 0, vi 3, vi x1], [], h)) fun h2 => pm_ev (172, 62, [vr 8 0, none, vi x2, vi x3, vi x4, none, none, none], [], h2)) else pm_ev (172, 62, [vr 8 0, none, vi x2, vi x3, vi x4, none, none, none], [], h))) := (ev_rc [6, 26, 34, 35, 47, 62, 76, 83, 86, 95, 99, 113, 117, 146, 158, 169, 180, 194] 120 _).trans rfl
set_option maxRecDepth 100000 in
set_option maxHeartbeats 400000 in
/-- IllLightModel.manLine(II)V -/
theorem E_X9_manLine_62 (h : PH) (x2 : Int32) (x3 : Int32) (x4 : Int32) : pm_ev (172, 62, [vr 8 0, none, vi x2, vi x3, vi x4, none, none, none], [], h) = (if x2 = 0 then pm_ev (172, 76, [vr 8 0, none, vi x2, vi x3, vi x4, none, none, none], [], h) else (if x2 = 2 then pm_ev (172, 76, [vr 8 0, none, vi x2, vi x3, vi x4, none, none, none], [], h) else (if x2 = 3 then pm_ev (172, 76, [vr 8 0, none, vi x2, vi x3, vi x4, none, none, none], [], h) else pm_ev (172, 86, [vr 8 0, none, vi x2, vi x3, vi x4, none, none, none], [], h)))) := (ev_rc [6, 26, 34, 35, 47, 62, 76, 83, 86, 95, 99, 113, 117, 146, 158, 169, 180, 194] 120 _).trans rfl
set_option maxRecDepth 100000 in
set_option maxHeartbeats 400000 in
/-- IllLightModel.manLine(II)V -/
theorem E_X9_manLine_76 (h : PH) (x2 : Int32) (x3 : Int32) (x4 : Int32) : pm_ev (172, 76, [vr 8 0, none, vi x2, vi x3, vi x4, none, none, none], [], h) = (pm_bI (pm_ev (165, 0, [vr 8 0, vi 0, vi 9, none], [], h)) fun r4 h3 => pm_ev (172, 83, [vr 8 0, none, vi x2, vi x3, vi x4, none, none, none], [vi r4], h3)) := (ev_rc [6, 26, 34, 35, 47, 62, 76, 83, 86, 95, 99, 113, 117, 146, 158, 169, 180, 194] 120 _).trans rfl
set_option maxRecDepth 100000 in
set_option maxHeartbeats 400000 in
/-- IllLightModel.manLine(II)V -/
theorem E_X9_manLine_86 (h : PH) (x2 : Int32) (x3 : Int32) (x4 : Int32) : pm_ev (172, 86, [vr 8 0, none, vi x2, vi x3, vi x4, none, none, none], [], h) = (if x2 = 5 then (pm_bI (pm_ev (171, 0, [vr 8 0, none], [], h)) fun r6 h5 => pm_ev (172, 95, [vr 8 0, none, vi x2, vi x3, vi x4, none, none, none], [vi r6], h5)) else pm_ev (172, 99, [vr 8 0, none, vi x2, vi x3, vi x4, none, none, none], [vi 0], h)) := (ev_rc [6, 26, 34, 35, 47, 62, 76, 83, 86, 95, 99, 113, 117, 146, 158, 169, 180, 194] 120 _).trans rfl
set_option maxRecDepth 100000 in
set_option maxHeartbeats 400000 in
/-- IllLightModel.manLine(II)V -/
theorem E_X9_manLine_83 (h : PH) (x2 : Int32) (x3 : Int32) (x4 : Int32) (s0 : Int32) : pm_ev (172, 83, [vr 8 0, none, vi x2, vi x3, vi x4, none, none, none], [vi s0], h) = pm_ev (172, 99, [vr 8 0, none, vi x2, vi x3, vi x4, none, none, none], [vi s0], h) := (ev_rc [6, 26, 34, 35, 47, 62, 76, 83, 86, 95, 99, 113, 117, 146, 158, 169, 180, 194] 120 _).trans rfl
set_option maxRecDepth 100000 in
set_option maxHeartbeats 400000 in
/-- IllLightModel.manLine(II)V -/
theorem E_X9_manLine_95 (h : PH) (x2 : Int32) (x3 : Int32) (x4 : Int32) (s0 : Int32) : pm_ev (172, 95, [vr 8 0, none, vi x2, vi x3, vi x4, none, none, none], [vi s0], h) = pm_ev (172, 99, [vr 8 0, none, vi x2, vi x3, vi x4, none, none, none], [vi s0], h) := (ev_rc [6, 26, 34, 35, 47, 62, 76, 83, 86, 95, 99, 113, 117, 146, 158, 169, 180, 194] 120 _).trans rfl
set_option maxRecDepth 100000 in
set_option maxHeartbeats 400000 in
/-- IllLightModel.manLine(II)V -/
theorem E_X9_manLine_99 (h : PH) (x2 : Int32) (x3 : Int32) (x4 : Int32) (s0 : Int32) : pm_ev (172, 99, [vr 8 0, none, vi x2, vi x3, vi x4, none, none, none], [vi s0], h) = (if x2 = 2 then (pm_bI (pm_ev (165, 0, [vr 8 0, vi 0, vi 23, none], [], h)) fun r8 h7 => pm_ev (172, 113, [vr 8 0, none, vi x2, vi x3, vi x4, vi s0, none, none], [vi r8], h7)) else pm_ev (172, 117, [vr 8 0, none, vi x2, vi x3, vi x4, vi s0, none, none], [vi 0], h)) := (ev_rc [6, 26, 34, 35, 47, 62, 76, 83, 86, 95, 99, 113, 117, 146, 158, 169, 180, 194] 120 _).trans rfl
set_option maxRecDepth 100000 in
set_option maxHeartbeats 400000 in
/-- IllLightModel.manLine(II)V -/
theorem E_X9_manLine_113 (h : PH) (x2 : Int32) (x3 : Int32) (x4 : Int32) (x5 : Int32) (s0 : Int32) : pm_ev (172, 113, [vr 8 0, none, vi x2, vi x3, vi x4, vi x5, none, none], [vi s0], h) = pm_ev (172, 117, [vr 8 0, none, vi x2, vi x3, vi x4, vi x5, none, none], [vi s0], h) := (ev_rc [6, 26, 34, 35, 47, 62, 76, 83, 86, 95, 99, 113, 117, 146, 158, 169, 180, 194] 120 _).trans rfl
set_option maxRecDepth 100000 in
set_option maxHeartbeats 400000 in
/-- IllLightModel.manLine(II)V -/
theorem E_X9_manLine_117 (h : PH) (x2 : Int32) (x3 : Int32) (x4 : Int32) (x5 : Int32) (s0 : Int32) : pm_ev (172, 117, [vr 8 0, none, vi x2, vi x3, vi x4, vi x5, none, none], [vi s0], h) = (if x4 = 0 then some (none, h) else (if pm_inb ((14 + (4 * x3)) + 3) 161 = true then pm_ev (172, 146, [vr 8 0, none, vi x2, vi x3, none, vi x5, vi s0, none], [vi (h.1 35 0 (((14 + (4 * x3)) + 3).toNatClampNeg)), vi 3, vi (30 + (12 * x3))], h) else none)) := (ev_rc [6, 26, 34, 35, 47, 62, 76, 83, 86, 95, 99, 113, 117, 146, 158, 169, 180, 194] 120 _).trans rfl
set_option maxRecDepth 100000 in
set_option maxHeartbeats 400000 in
/-- IllLightModel.manLine(II)V -/
theorem E_X9_manLine_146 (h : PH) (x2 : Int32) (x3 : Int32) (x5 : Int32) (x6 : Int32) (s0 : Int32) (s1 : Int32) (s2 : Int32) : pm_ev (172, 146, [vr 8 0, none, vi x2, vi x3, none, vi x5, vi x6, none], [vi s0, vi s1, vi s2], h) = (if pm_inb (s2 + (s1 * s0)) 161 = true then pm_ev (172, 158, [vr 8 0, none, vi x2, vi x3, none, vi x5, vi x6, vi (s2 + (s1 * s0))], [], (pm_sI h 35 0 ((s2 + (s1 * s0)).toNatClampNeg) x2)) else none) := (ev_rc [6, 26, 34, 35, 47, 62, 76, 83, 86, 95, 99, 113, 117, 146, 158, 169, 180, 194] 120 _).trans rfl
set_option maxRecDepth 100000 in
set_option maxHeartbeats 400000 in
/-- IllLightModel.manLine(II)V -/
theorem E_X9_manLine_158 (h : PH) (x2 : Int32) (x3 : Int32) (x5 : Int32) (x6 : Int32) (x7 : Int32) : pm_ev (172, 158, [vr 8 0, none, vi x2, vi x3, none, vi x5, vi x6, vi x7], [], h) = (if pm_inb (x7 + 1) 161 = true then pm_ev (172, 169, [vr 8 0, none, vi x2, vi x3, none, vi x5, vi x6, vi x7], [], (pm_sI h 35 0 ((x7 + 1).toNatClampNeg) x5)) else none) := (ev_rc [6, 26, 34, 35, 47, 62, 76, 83, 86, 95, 99, 113, 117, 146, 158, 169, 180, 194] 120 _).trans rfl
set_option maxRecDepth 100000 in
set_option maxHeartbeats 400000 in
/-- IllLightModel.manLine(II)V -/
theorem E_X9_manLine_169 (h : PH) (x2 : Int32) (x3 : Int32) (x5 : Int32) (x6 : Int32) (x7 : Int32) : pm_ev (172, 169, [vr 8 0, none, vi x2, vi x3, none, vi x5, vi x6, vi x7], [], h) = (if pm_inb (x7 + 2) 161 = true then pm_ev (172, 180, [vr 8 0, none, vi x2, vi x3, none, vi x5, vi x6, vi x7], [], (pm_sI h 35 0 ((x7 + 2).toNatClampNeg) x6)) else none) := (ev_rc [6, 26, 34, 35, 47, 62, 76, 83, 86, 95, 99, 113, 117, 146, 158, 169, 180, 194] 120 _).trans rfl
set_option maxRecDepth 100000 in
set_option maxHeartbeats 400000 in
/-- IllLightModel.manLine(II)V -/
theorem E_X9_manLine_180 (h : PH) (x2 : Int32) (x3 : Int32) (x5 : Int32) (x6 : Int32) (x7 : Int32) : pm_ev (172, 180, [vr 8 0, none, vi x2, vi x3, none, vi x5, vi x6, vi x7], [], h) = (if pm_inb ((14 + (4 * x3)) + 3) 161 = true then pm_ev (172, 194, [vr 8 0, none, vi x2, vi x3, none, vi x5, vi x6, vi x7], [vi (h.1 35 0 (((14 + (4 * x3)) + 3).toNatClampNeg)), vi ((14 + (4 * x3)) + 3), vr 35 0], h) else none) := (ev_rc [6, 26, 34, 35, 47, 62, 76, 83, 86, 95, 99, 113, 117, 146, 158, 169, 180, 194] 120 _).trans rfl
set_option maxRecDepth 100000 in
set_option maxHeartbeats 400000 in
/-- IllLightModel.manLine(II)V -/
theorem E_X9_manLine_194 (h : PH) (x2 : Int32) (x3 : Int32) (x5 : Int32) (x6 : Int32) (x7 : Int32) (s0 : Int32) (s1 : Int32) (s2 : Nat) : pm_ev (172, 194, [vr 8 0, none, vi x2, vi x3, none, vi x5, vi x6, vi x7], [vi s0, vi s1, vr 35 s2], h) = (if pm_inb s1 161 = true then some (none, (pm_sI h 35 s2 s1.toNatClampNeg (s0 + 1))) else none) := (ev_rc [6, 26, 34, 35, 47, 62, 76, 83, 86, 95, 99, 113, 117, 146, 158, 169, 180, 194] 120 _).trans rfl
set_option maxRecDepth 100000 in
set_option maxHeartbeats 400000 in
/-- IllLightModel.coastLine()V -/
theorem E_X9_coastLine (h : PH)  : pm_ev (173, 0, [vr 8 0, none, none], [], h) = (pm_bI (pm_ev (166, 0, [vr 8 0, vi 1, vi 12, none], [], h)) fun r2 h1 => pm_ev (173, 12, [vr 8 0, vi (h.1 8 0 4), none], [vi r2], h1)) := (ev_rc [12, 95, 96, 108, 121, 135, 146, 154, 169, 182] 120 _).trans rfl
set_option maxRecDepth 100000 in
set_option maxHeartbeats 400000 in
/-- IllLightModel.coastLine()V -/
theorem E_X9_coastLine_12 (h : PH) (x1 : Int32) (s0 : Int32) : pm_ev (173, 12, [vr 8 0, vi x1, none], [vi s0], h) = (if s0 = 0 then pm_ev (173, 182, [vr 8 0, none, none], [], h) else (if s0 = 1 then (pm_bI (pm_ev (165, 0, [vr 8 0, vi 2, vi 8, none], [], h)) fun r19 h18 => pm_ev (173, 95, [vr 8 0, none, none], [vi r19, vi 0, vr 35 0], h18)) else (if s0 = 2 then (pm_bI (pm_ev (168, 0, [vr 8 0, none, none], [], h)) fun r17 h16 => pm_ev (173, 121, [vr 8 0, none, none], [vi r17, vi 2, vr 35 0], h16)) else (if s0 = 3 then (pm_bI (pm_ev (168, 0, [vr 8 0, none, none], [], h)) fun r15 h14 => pm_ev (173, 135, [vr 8 0, none, none], [vi r15, vi 78, vr 35 0], h14)) else (if s0 = 4 then (pm_bV (pm_ev (169, 0, [vr 8 0, vi x1, none, none, none], [], h)) fun h13 => pm_ev (173, 146, [vr 8 0, vi x1, none], [], h13)) else (if s0 = 5 then (pm_bV (pm_ev (170, 0, [vr 8 0, vi x1, none, none, none, none, none], [], h)) fun h12 => pm_ev (173, 154, [vr 8 0, vi x1, none], [], h12)) else (if s0 = 6 then (pm_bV (pm_ev (172, 0, [vr 8 0, vi x1, vi (s0 - 6), none, none, none, none, none], [], h)) fun h11 => pm_ev (173, 182, [vr 8 0, none, none], [], h11)) else (if s0 = 7 then (pm_bV (pm_ev (172, 0, [vr 8 0, vi x1, vi (s0 - 6), none, none, none, none, none], [], h)) fun h10 => pm_ev (173, 182, [vr 8 0, none, none], [], h10)) else (if s0 = 8 then (pm_bV (pm_ev (172, 0, [vr 8 0, vi x1, vi (s0 - 6), none, none, none, none, none], [], h)) fun h9 => pm_ev (173, 182, [vr 8 0, none, none], [], h9)) else (if s0 = 9 then (pm_bV (pm_ev (172, 0, [vr 8 0, vi x1, vi (s0 - 6), none, none, none, none, none], [], h)) fun h8 => pm_ev (173, 182, [vr 8 0, none, none], [], h8)) else (if s0 = 10 then (pm_bV (pm_ev (172, 0, [vr 8 0, vi x1, vi (s0 - 6), none, none, none, none, none], [], h)) fun h7 => pm_ev (173, 182, [vr 8 0, none, none], [], h7)) else (if s0 = 11 then (pm_bV (pm_ev (172, 0, [vr 8 0, vi x1, vi (s0 - 6), none, none, none, none, none], [], h)) fun h6 => pm_ev (173, 182, [vr 8 0, none, none], [], h6)) else (if s0 = 12 then (pm_bI (pm_ev (165, 0, [vr 8 0, vi 1, vi 20, none], [], h)) fun r5 h4 => pm_ev (173, 169, [vr 8 0, none, none], [vi r5, vi 3, vr 35 0], h4)) else (pm_bV (pm_ev (172, 0, [vr 8 0, vi x1, vi (s0 - 6), none, none, none, none, none], [], h)) fun h3 => pm_ev (173, 182, [vr 8 0, none, none], [], h3))))))))))))))) := (ev_rc [12, 95, 96, 108, 121, 135, 146, 154, 169, 182] 120 _).trans rfl
set_option maxRecDepth 100000 in
set_option maxHeartbeats 400000 in
/-- IllLightModel.coastLine()V -/
theorem E_X9_coastLine_182 (h : PH)  : pm_ev (173, 182, [vr 8 0, none, none], [], h) = (pm_bV (pm_ev (167, 0, [vr 8 0], [], h)) fun h20 => some (none, h20)) := (ev_rc [12, 95, 96, 108, 121, 135, 146, 154, 169, 182] 120 _).trans rfl
set_option maxRecDepth 100000 in
set_option maxHeartbeats 400000 in
/-- IllLightModel.coastLine()V -/
theorem E_X9_coastLine_169 (h : PH) (s0 : Int32) (s1 : Int32) (s2 : Nat) : pm_ev (173, 169, [vr 8 0, none, none], [vi s0, vi s1, vr 35 s2], h) = (if pm_inb s1 161 = true then pm_ev (173, 182, [vr 8 0, none, none], [], (pm_sI h 35 s2 s1.toNatClampNeg s0)) else none) := (ev_rc [12, 95, 96, 108, 121, 135, 146, 154, 169, 182] 120 _).trans rfl
set_option maxRecDepth 100000 in
set_option maxHeartbeats 400000 in
/-- IllLightModel.coastLine()V -/
theorem E_X9_coastLine_154 (h : PH) (x1 : Int32) : pm_ev (173, 154, [vr 8 0, vi x1, none], [], h) = pm_ev (173, 182, [vr 8 0, none, none], [], h) := (ev_rc [12, 95, 96, 108, 121, 135, 146, 154, 169, 182] 120 _).trans rfl
set_option maxRecDepth 100000 in
set_option maxHeartbeats 400000 in
/-- IllLightModel.coastLine()V -/
theorem E_X9_coastLine_146 (h : PH) (x1 : Int32) : pm_ev (173, 146, [vr 8 0, vi x1, none], [], h) = pm_ev (173, 182, [vr 8 0, none, none], [], h) := (ev_rc [12, 95, 96, 108, 121, 135, 146, 154, 169, 182] 120 _).trans rfl
set_option maxRecDepth 100000 in
set_option maxHeartbeats 400000 in
/-- IllLightModel.coastLine()V -/
theorem E_X9_coastLine_135 (h : PH) (s0 : Int32) (s1 : Int32) (s2 : Nat) : pm_ev (173, 135, [vr 8 0, none, none], [vi s0, vi s1, vr 35 s2], h) = (if pm_inb (s1 + s0) 161 = true then pm_ev (173, 182, [vr 8 0, none, none], [], (pm_sI h 35 s2 ((s1 + s0).toNatClampNeg) 1)) else none) := (ev_rc [12, 95, 96, 108, 121, 135, 146, 154, 169, 182] 120 _).trans rfl
set_option maxRecDepth 100000 in
set_option maxHeartbeats 400000 in
/-- IllLightModel.coastLine()V -/
theorem E_X9_coastLine_121 (h : PH) (s0 : Int32) (s1 : Int32) (s2 : Nat) : pm_ev (173, 121, [vr 8 0, none, none], [vi s0, vi s1, vr 35 s2], h) = (if pm_inb s1 161 = true then pm_ev (173, 182, [vr 8 0, none, none], [], (pm_sI h 35 s2 s1.toNatClampNeg s0)) else none) := (ev_rc [12, 95, 96, 108, 121, 135, 146, 154, 169, 182] 120 _).trans rfl
set_option maxRecDepth 100000 in
set_option maxHeartbeats 400000 in
/-- IllLightModel.coastLine()V -/
theorem E_X9_coastLine_95 (h : PH) (s0 : Int32) (s1 : Int32) (s2 : Nat) : pm_ev (173, 95, [vr 8 0, none, none], [vi s0, vi s1, vr 35 s2], h) = (if pm_inb s1 161 = true then pm_ev (173, 96, [vr 8 0, none, none], [], (pm_sI h 35 s2 s1.toNatClampNeg s0)) else none) := (ev_rc [12, 95, 96, 108, 121, 135, 146, 154, 169, 182] 120 _).trans rfl
set_option maxRecDepth 100000 in
set_option maxHeartbeats 400000 in
/-- IllLightModel.coastLine()V -/
theorem E_X9_coastLine_96 (h : PH)  : pm_ev (173, 96, [vr 8 0, none, none], [], h) = (pm_bI (pm_ev (165, 0, [vr 8 0, vi 2, vi 8, none], [], h)) fun r22 h21 => pm_ev (173, 108, [vr 8 0, none, none], [vi r22, vi 1, vr 35 0], h21)) := (ev_rc [12, 95, 96, 108, 121, 135, 146, 154, 169, 182] 120 _).trans rfl
set_option maxRecDepth 100000 in
set_option maxHeartbeats 400000 in
/-- IllLightModel.coastLine()V -/
theorem E_X9_coastLine_108 (h : PH) (s0 : Int32) (s1 : Int32) (s2 : Nat) : pm_ev (173, 108, [vr 8 0, none, none], [vi s0, vi s1, vr 35 s2], h) = (if pm_inb s1 161 = true then pm_ev (173, 182, [vr 8 0, none, none], [], (pm_sI h 35 s2 s1.toNatClampNeg s0)) else none) := (ev_rc [12, 95, 96, 108, 121, 135, 146, 154, 169, 182] 120 _).trans rfl
set_option maxRecDepth 100000 in
set_option maxHeartbeats 400000 in
/-- IllLightModel.nightLine()V -/
theorem E_X9_nightLine (h : PH)  : pm_ev (174, 0, [vr 8 0, none, none, none, none, none, none], [], h) = (pm_bI (pm_ev (166, 0, [vr 8 0, vi 17, vi 20, none], [], h)) fun r2 h1 => pm_ev (174, 13, [vr 8 0, vi (h.1 8 0 4), none, none, none, none, none], [vi r2], h1)) := (ev_rc [13, 30, 41, 56, 66, 72, 76, 90, 94, 102, 115, 127, 137, 148, 159, 166, 169] 120 _).trans rfl
set_option maxRecDepth 100000 in
set_option maxHeartbeats 400000 in
/-- IllLightModel.nightLine()V -/
theorem E_X9_nightLine_13 (h : PH) (x1 : Int32) (s0 : Int32) : pm_ev (174, 13, [vr 8 0, vi x1, none, none, none, none, none], [vi s0], h) = (if h.1 8 0 8 = 0 then pm_ev (174, 30, [vr 8 0, vi x1, vi (s0 - 17), none, none, none, none], [vi (h.1 35 0 ((0 : Int32).toNatClampNeg))], h) else pm_ev (174, 41, [vr 8 0, none, vi (s0 - 17), none, none, none, none], [], h)) := (ev_rc [13, 30, 41, 56, 66, 72, 76, 90, 94, 102, 115, 127, 137, 148, 159, 166, 169] 120 _).trans rfl
set_option maxRecDepth 100000 in
set_option maxHeartbeats 400000 in
/-- IllLightModel.nightLine()V -/
theorem E_X9_nightLine_30 (h : PH) (x1 : Int32) (x2 : Int32) (s0 : Int32) : pm_ev (174, 30, [vr 8 0, vi x1, vi x2, none, none, none, none], [vi s0], h) = (if s0 < 40 then pm_ev (174, 41, [vr 8 0, none, vi x2, none, none, none, none], [], h) else (pm_bV (pm_ev (164, 0, [vr 8 0, vi 3, vi x1], [], h)) fun h3 => pm_ev (174, 41, [vr 8 0, none, vi x2, none, none, none, none], [], h3))) := (ev_rc [13, 30, 41, 56, 66, 72, 76, 90, 94, 102, 115, 127, 137, 148, 159, 166, 169] 120 _).trans rfl
set_option maxRecDepth 100000 in
set_option maxHeartbeats 400000 in
/-- IllLightModel.nightLine()V -/
theorem E_X9_nightLine_41 (h : PH) (x2 : Int32) : pm_ev (174, 41, [vr 8 0, none, vi x2, none, none, none, none], [], h) = (if x2 = 3 then pm_ev (174, 56, [vr 8 0, none, vi x2, none, none, none, none], [vi (-1)], h) else (pm_bI (pm_ev (165, 0, [vr 8 0, vi 0, vi 3, none], [], h)) fun r5 h4 => pm_ev (174, 56, [vr 8 0, none, vi x2, none, none, none, none], [vi r5], h4))) := (ev_rc [13, 30, 41, 56, 66, 72, 76, 90, 94, 102, 115, 127, 137, 148, 159, 166, 169] 120 _).trans rfl
set_option maxRecDepth 100000 in
set_option maxHeartbeats 400000 in
/-- IllLightModel.nightLine()V -/
theorem E_X9_nightLine_56 (h : PH) (x2 : Int32) (s0 : Int32) : pm_ev (174, 56, [vr 8 0, none, vi x2, none, none, none, none], [vi s0], h) = (if x2 = 0 then pm_ev (174, 66, [vr 8 0, none, vi x2, vi s0, none, none, none], [], h) else (if x2 = 1 then pm_ev (174, 66, [vr 8 0, none, vi x2, vi s0, none, none, none], [], h) else pm_ev (174, 76, [vr 8 0, none, vi x2, vi s0, none, none, none], [vi (-1)], h))) := (ev_rc [13, 30, 41, 56, 66, 72, 76, 90, 94, 102, 115, 127, 137, 148, 159, 166, 169] 120 _).trans rfl
set_option maxRecDepth 100000 in
set_option maxHeartbeats 400000 in
/-- IllLightModel.nightLine()V -/
theorem E_X9_nightLine_66 (h : PH) (x2 : Int32) (x3 : Int32) : pm_ev (174, 66, [vr 8 0, none, vi x2, vi x3, none, none, none], [], h) = (pm_bI (pm_ev (165, 0, [vr 8 0, vi 0, vi 3, none], [], h)) fun r7 h6 => pm_ev (174, 72, [vr 8 0, none, vi x2, vi x3, none, none, none], [vi r7], h6)) := (ev_rc [13, 30, 41, 56, 66, 72, 76, 90, 94, 102, 115, 127, 137, 148, 159, 166, 169] 120 _).trans rfl
set_option maxRecDepth 100000 in
set_option maxHeartbeats 400000 in
/-- IllLightModel.nightLine()V -/
theorem E_X9_nightLine_76 (h : PH) (x2 : Int32) (x3 : Int32) (s0 : Int32) : pm_ev (174, 76, [vr 8 0, none, vi x2, vi x3, none, none, none], [vi s0], h) = (if x2 = 1 then (pm_bI (pm_ev (165, 0, [vr 8 0, vi 0, vi 9, none], [], h)) fun r9 h8 => pm_ev (174, 90, [vr 8 0, none, vi x2, vi x3, vi s0, none, none], [vi r9], h8)) else pm_ev (174, 94, [vr 8 0, none, vi x2, vi x3, vi s0, none, none], [vi (-1)], h)) := (ev_rc [13, 30, 41, 56, 66, 72, 76, 90, 94, 102, 115, 127, 137, 148, 159, 166, 169] 120 _).trans rfl
set_option maxRecDepth 100000 in
set_option maxHeartbeats 400000 in
/-- IllLightModel.nightLine()V -/
theorem E_X9_nightLine_72 (h : PH) (x2 : Int32) (x3 : Int32) (s0 : Int32) : pm_ev (174, 72, [vr 8 0, none, vi x2, vi x3, none, none, none], [vi s0], h) = pm_ev (174, 76, [vr 8 0, none, vi x2, vi x3, none, none, none], [vi s0], h) := (ev_rc [13, 30, 41, 56, 66, 72, 76, 90, 94, 102, 115, 127, 137, 148, 159, 166, 169] 120 _).trans rfl
set_option maxRecDepth 100000 in
set_option maxHeartbeats 400000 in
/-- IllLightModel.nightLine()V -/
theorem E_X9_nightLine_90 (h : PH) (x2 : Int32) (x3 : Int32) (x4 : Int32) (s0 : Int32) : pm_ev (174, 90, [vr 8 0, none, vi x2, vi x3, vi x4, none, none], [vi s0], h) = pm_ev (174, 94, [vr 8 0, none, vi x2, vi x3, vi x4, none, none], [vi s0], h) := (ev_rc [13, 30, 41, 56, 66, 72, 76, 90, 94, 102, 115, 127, 137, 148, 159, 166, 169] 120 _).trans rfl
set_option maxRecDepth 100000 in
set_option maxHeartbeats 400000 in
/-- IllLightModel.nightLine()V -/
theorem E_X9_nightLine_94 (h : PH) (x2 : Int32) (x3 : Int32) (x4 : Int32) (s0 : Int32) : pm_ev (174, 94, [vr 8 0, none, vi x2, vi x3, vi x4, none, none], [vi s0], h) = pm_ev (174, 102, [vr 8 0, none, vi x2, vi x3, vi x4, vi s0, none], [vi (h.1 35 0 ((0 : Int32).toNatClampNeg))], h) := (ev_rc [13, 30, 41, 56, 66, 72, 76, 90, 94, 102, 115, 127, 137, 148, 159, 166, 169] 120 _).trans rfl
set_option maxRecDepth 100000 in
set_option maxHeartbeats 400000 in
/-- IllLightModel.nightLine()V -/
theorem E_X9_nightLine_102 (h : PH) (x2 : Int32) (x3 : Int32) (x4 : Int32) (x5 : Int32) (s0 : Int32) : pm_ev (174, 102, [vr 8 0, none, vi x2, vi x3, vi x4, vi x5, none], [vi s0], h) = (if s0 < 40 then pm_ev (174, 115, [vr 8 0, none, vi x2, vi x3, vi x4, vi x5, none], [vi (h.1 35 0 ((0 : Int32).toNatClampNeg)), vi 4, vi 1], h) else pm_ev (174, 169, [vr 8 0, none, none, none, none, none, none], [], h)) := (ev_rc [13, 30, 41, 56, 66, 72, 76, 90, 94, 102, 115, 127, 137, 148, 159, 166, 169] 120 _).trans rfl
set_option maxRecDepth 100000 in
set_option maxHeartbeats 400000 in
/-- IllLightModel.nightLine()V -/
theorem E_X9_nightLine_115 (h : PH) (x2 : Int32) (x3 : Int32) (x4 : Int32) (x5 : Int32) (s0 : Int32) (s1 : Int32) (s2 : Int32) : pm_ev (174, 115, [vr 8 0, none, vi x2, vi x3, vi x4, vi x5, none], [vi s0, vi s1, vi s2], h) = (if pm_inb (s2 + (s1 * s0)) 161 = true then pm_ev (174, 127, [vr 8 0, none, vi x2, vi x3, vi x4, vi x5, vi (s2 + (s1 * s0))], [], (pm_sI h 35 0 ((s2 + (s1 * s0)).toNatClampNeg) x2)) else none) := (ev_rc [13, 30, 41, 56, 66, 72, 76, 90, 94, 102, 115, 127, 137, 148, 159, 166, 169] 120 _).trans rfl
set_option maxRecDepth 100000 in
set_option maxHeartbeats 400000 in
/-- IllLightModel.nightLine()V -/
theorem E_X9_nightLine_169 (h : PH)  : pm_ev (174, 169, [vr 8 0, none, none, none, none, none, none], [], h) = (pm_bV (pm_ev (167, 0, [vr 8 0], [], h)) fun h10 => some (none, h10)) := (ev_rc [13, 30, 41, 56, 66, 72, 76, 90, 94, 102, 115, 127, 137, 148, 159, 166, 169] 120 _).trans rfl
set_option maxRecDepth 100000 in
set_option maxHeartbeats 400000 in
/-- IllLightModel.nightLine()V -/
theorem E_X9_nightLine_127 (h : PH) (x2 : Int32) (x3 : Int32) (x4 : Int32) (x5 : Int32) (x6 : Int32) : pm_ev (174, 127, [vr 8 0, none, vi x2, vi x3, vi x4, vi x5, vi x6], [], h) = (if pm_inb (x6 + 1) 161 = true then pm_ev (174, 137, [vr 8 0, none, vi x2, vi x3, vi x4, vi x5, vi x6], [], (pm_sI h 35 0 ((x6 + 1).toNatClampNeg) x3)) else none) := (ev_rc [13, 30, 41, 56, 66, 72, 76, 90, 94, 102, 115, 127, 137, 148, 159, 166, 169] 120 _).trans rfl
set_option maxRecDepth 100000 in
set_option maxHeartbeats 400000 in
/-- IllLightModel.nightLine()V -/
theorem E_X9_nightLine_137 (h : PH) (x2 : Int32) (x3 : Int32) (x4 : Int32) (x5 : Int32) (x6 : Int32) : pm_ev (174, 137, [vr 8 0, none, vi x2, vi x3, vi x4, vi x5, vi x6], [], h) = (if pm_inb (x6 + 2) 161 = true then pm_ev (174, 148, [vr 8 0, none, vi x2, vi x3, vi x4, vi x5, vi x6], [], (pm_sI h 35 0 ((x6 + 2).toNatClampNeg) x4)) else none) := (ev_rc [13, 30, 41, 56, 66, 72, 76, 90, 94, 102, 115, 127, 137, 148, 159, 166, 169] 120 _).trans rfl
set_option maxRecDepth 100000 in
set_option maxHeartbeats 400000 in
/-- IllLightModel.nightLine()V -/
theorem E_X9_nightLine_148 (h : PH) (x2 : Int32) (x3 : Int32) (x4 : Int32) (x5 : Int32) (x6 : Int32) : pm_ev (174, 148, [vr 8 0, none, vi x2, vi x3, vi x4, vi x5, vi x6], [], h) = (if pm_inb (x6 + 3) 161 = true then pm_ev (174, 159, [vr 8 0, none, vi x2, vi x3, vi x4, vi x5, vi x6], [], (pm_sI h 35 0 ((x6 + 3).toNatClampNeg) x5)) else none) := (ev_rc [13, 30, 41, 56, 66, 72, 76, 90, 94, 102, 115, 127, 137, 148, 159, 166, 169] 120 _).trans rfl
set_option maxRecDepth 100000 in
set_option maxHeartbeats 400000 in
/-- IllLightModel.nightLine()V -/
theorem E_X9_nightLine_159 (h : PH) (x2 : Int32) (x3 : Int32) (x4 : Int32) (x5 : Int32) (x6 : Int32) : pm_ev (174, 159, [vr 8 0, none, vi x2, vi x3, vi x4, vi x5, vi x6], [], h) = pm_ev (174, 166, [vr 8 0, none, vi x2, vi x3, vi x4, vi x5, vi x6], [vi (h.1 35 0 ((0 : Int32).toNatClampNeg)), vi 0, vr 35 0], h) := (ev_rc [13, 30, 41, 56, 66, 72, 76, 90, 94, 102, 115, 127, 137, 148, 159, 166, 169] 120 _).trans rfl
set_option maxRecDepth 100000 in
set_option maxHeartbeats 400000 in
/-- IllLightModel.nightLine()V -/
theorem E_X9_nightLine_166 (h : PH) (x2 : Int32) (x3 : Int32) (x4 : Int32) (x5 : Int32) (x6 : Int32) (s0 : Int32) (s1 : Int32) (s2 : Nat) : pm_ev (174, 166, [vr 8 0, none, vi x2, vi x3, vi x4, vi x5, vi x6], [vi s0, vi s1, vr 35 s2], h) = (if pm_inb s1 161 = true then pm_ev (174, 169, [vr 8 0, none, none, none, none, none, none], [], (pm_sI h 35 s2 s1.toNatClampNeg (s0 + 1))) else none) := (ev_rc [13, 30, 41, 56, 66, 72, 76, 90, 94, 102, 115, 127, 137, 148, 159, 166, 169] 120 _).trans rfl
set_option maxRecDepth 100000 in
set_option maxHeartbeats 400000 in
/-- IllLightModel.logMan(I)V -/
theorem E_X9_logMan (h : PH) (a : Int32) : pm_ev (175, 0, [vr 8 0, vi a, none], [], h) = (if h.1 8 0 8 = 0 then pm_ev (175, 13, [vr 8 0, vi a, none], [vi (h.1 35 0 ((0 : Int32).toNatClampNeg))], h) else (pm_bI (pm_ev (165, 0, [vr 8 0, vi 0, vi 10, none], [], h)) fun r2 h1 => pm_ev (175, 31, [vr 8 0, none, none], [vi r2], h1))) := (ev_rc [13, 31, 38, 55, 58, 65] 120 _).trans rfl
set_option maxRecDepth 100000 in
set_option maxHeartbeats 400000 in
/-- IllLightModel.logMan(I)V -/
theorem E_X9_logMan_13 (h : PH) (x1 : Int32) (s0 : Int32) : pm_ev (175, 13, [vr 8 0, vi x1, none], [vi s0], h) = (if s0 < 6 then (pm_bI (pm_ev (165, 0, [vr 8 0, vi 0, vi 10, none], [], h)) fun r4 h3 => pm_ev (175, 31, [vr 8 0, none, none], [vi r4], h3)) else (pm_bV (pm_ev (164, 0, [vr 8 0, vi 3, vi x1], [], h)) fun h5 => (pm_bI (pm_ev (165, 0, [vr 8 0, vi 0, vi 10, none], [], h5)) fun r7 h6 => pm_ev (175, 31, [vr 8 0, none, none], [vi r7], h6)))) := (ev_rc [13, 31, 38, 55, 58, 65] 120 _).trans rfl
set_option maxRecDepth 100000 in
set_option maxHeartbeats 400000 in
/-- IllLightModel.logMan(I)V -/
theorem E_X9_logMan_31 (h : PH) (s0 : Int32) : pm_ev (175, 31, [vr 8 0, none, none], [vi s0], h) = pm_ev (175, 38, [vr 8 0, none, vi s0], [vi (h.1 35 0 ((0 : Int32).toNatClampNeg))], h) := (ev_rc [13, 31, 38, 55, 58, 65] 120 _).trans rfl
set_option maxRecDepth 100000 in
set_option maxHeartbeats 400000 in
/-- IllLightModel.logMan(I)V -/
theorem E_X9_logMan_38 (h : PH) (x2 : Int32) (s0 : Int32) : pm_ev (175, 38, [vr 8 0, none, vi x2], [vi s0], h) = (if s0 < 6 then pm_ev (175, 55, [vr 8 0, none, vi x2], [vi (h.1 35 0 ((0 : Int32).toNatClampNeg)), vi 4, vr 35 0], h) else some (none, h)) := (ev_rc [13, 31, 38, 55, 58, 65] 120 _).trans rfl
set_option maxRecDepth 100000 in
set_option maxHeartbeats 400000 in
/-- IllLightModel.logMan(I)V -/
theorem E_X9_logMan_55 (h : PH) (x2 : Int32) (s0 : Int32) (s1 : Int32) (s2 : Nat) : pm_ev (175, 55, [vr 8 0, none, vi x2], [vi s0, vi s1, vr 35 s2], h) = (if pm_inb (s1 + s0) 161 = true then pm_ev (175, 58, [vr 8 0, none, vi x2], [], (pm_sI h 35 s2 ((s1 + s0).toNatClampNeg) x2)) else none) := (ev_rc [13, 31, 38, 55, 58, 65] 120 _).trans rfl
set_option maxRecDepth 100000 in
set_option maxHeartbeats 400000 in
/-- IllLightModel.logMan(I)V -/
theorem E_X9_logMan_58 (h : PH) (x2 : Int32) : pm_ev (175, 58, [vr 8 0, none, vi x2], [], h) = pm_ev (175, 65, [vr 8 0, none, vi x2], [vi (h.1 35 0 ((0 : Int32).toNatClampNeg)), vi 0, vr 35 0], h) := (ev_rc [13, 31, 38, 55, 58, 65] 120 _).trans rfl
set_option maxRecDepth 100000 in
set_option maxHeartbeats 400000 in
/-- IllLightModel.logMan(I)V -/
theorem E_X9_logMan_65 (h : PH) (x2 : Int32) (s0 : Int32) (s1 : Int32) (s2 : Nat) : pm_ev (175, 65, [vr 8 0, none, vi x2], [vi s0, vi s1, vr 35 s2], h) = (if pm_inb s1 161 = true then some (none, (pm_sI h 35 s2 s1.toNatClampNeg (s0 + 1))) else none) := (ev_rc [13, 31, 38, 55, 58, 65] 120 _).trans rfl
set_option maxRecDepth 100000 in
set_option maxHeartbeats 400000 in
/-- IllLightModel.logFact(IZ)V -/
theorem E_X9_logFact (h : PH) (a : Int32) (b : Int32) : pm_ev (176, 0, [vr 8 0, vi a, vi b, none], [], h) = (if h.1 8 0 8 = 0 then pm_ev (176, 13, [vr 8 0, vi a, vi b, none], [vi (h.1 35 0 ((3 : Int32).toNatClampNeg))], h) else (pm_bI (pm_ev (165, 0, [vr 8 0, vi 0, vi 23, none], [], h)) fun r2 h1 => pm_ev (176, 31, [vr 8 0, none, vi b, none], [vi r2], h1))) := (ev_rc [13, 31, 38, 57, 69, 82, 86, 93] 120 _).trans rfl
set_option maxRecDepth 100000 in
set_option maxHeartbeats 400000 in
/-- IllLightModel.logFact(IZ)V -/
theorem E_X9_logFact_13 (h : PH) (x1 : Int32) (x2 : Int32) (s0 : Int32) : pm_ev (176, 13, [vr 8 0, vi x1, vi x2, none], [vi s0], h) = (if s0 < 10 then (pm_bI (pm_ev (165, 0, [vr 8 0, vi 0, vi 23, none], [], h)) fun r4 h3 => pm_ev (176, 31, [vr 8 0, none, vi x2, none], [vi r4], h3)) else (pm_bV (pm_ev (164, 0, [vr 8 0, vi 3, vi x1], [], h)) fun h5 => (pm_bI (pm_ev (165, 0, [vr 8 0, vi 0, vi 23, none], [], h5)) fun r7 h6 => pm_ev (176, 31, [vr 8 0, none, vi x2, none], [vi r7], h6)))) := (ev_rc [13, 31, 38, 57, 69, 82, 86, 93] 120 _).trans rfl
set_option maxRecDepth 100000 in
set_option maxHeartbeats 400000 in
/-- IllLightModel.logFact(IZ)V -/
theorem E_X9_logFact_31 (h : PH) (x2 : Int32) (s0 : Int32) : pm_ev (176, 31, [vr 8 0, none, vi x2, none], [vi s0], h) = pm_ev (176, 38, [vr 8 0, none, vi x2, vi s0], [vi (h.1 35 0 ((3 : Int32).toNatClampNeg))], h) := (ev_rc [13, 31, 38, 57, 69, 82, 86, 93] 120 _).trans rfl
set_option maxRecDepth 100000 in
set_option maxHeartbeats 400000 in
/-- IllLightModel.logFact(IZ)V -/
theorem E_X9_logFact_38 (h : PH) (x2 : Int32) (x3 : Int32) (s0 : Int32) : pm_ev (176, 38, [vr 8 0, none, vi x2, vi x3], [vi s0], h) = (if s0 < 10 then pm_ev (176, 57, [vr 8 0, none, vi x2, vi x3], [vi (h.1 35 0 ((3 : Int32).toNatClampNeg)), vi 2, vi 10, vr 35 0], h) else some (none, h)) := (ev_rc [13, 31, 38, 57, 69, 82, 86, 93] 120 _).trans rfl
set_option maxRecDepth 100000 in
set_option maxHeartbeats 400000 in
/-- IllLightModel.logFact(IZ)V -/
theorem E_X9_logFact_57 (h : PH) (x2 : Int32) (x3 : Int32) (s0 : Int32) (s1 : Int32) (s2 : Int32) (s3 : Nat) : pm_ev (176, 57, [vr 8 0, none, vi x2, vi x3], [vi s0, vi s1, vi s2, vr 35 s3], h) = (if x2 = 0 then (if pm_inb (s2 + (s1 * s0)) 161 = true then pm_ev (176, 69, [vr 8 0, none, none, vi x3], [], (pm_sI h 35 s3 ((s2 + (s1 * s0)).toNatClampNeg) 0)) else none) else (if pm_inb (s2 + (s1 * s0)) 161 = true then pm_ev (176, 69, [vr 8 0, none, none, vi x3], [], (pm_sI h 35 s3 ((s2 + (s1 * s0)).toNatClampNeg) 1)) else none)) := (ev_rc [13, 31, 38, 57, 69, 82, 86, 93] 120 _).trans rfl
set_option maxRecDepth 100000 in
set_option maxHeartbeats 400000 in
/-- IllLightModel.logFact(IZ)V -/
theorem E_X9_logFact_69 (h : PH) (x3 : Int32) : pm_ev (176, 69, [vr 8 0, none, none, vi x3], [], h) = pm_ev (176, 82, [vr 8 0, none, none, vi x3], [vi (h.1 35 0 ((3 : Int32).toNatClampNeg)), vi 2, vi 11, vr 35 0], h) := (ev_rc [13, 31, 38, 57, 69, 82, 86, 93] 120 _).trans rfl
set_option maxRecDepth 100000 in
set_option maxHeartbeats 400000 in
/-- IllLightModel.logFact(IZ)V -/
theorem E_X9_logFact_82 (h : PH) (x3 : Int32) (s0 : Int32) (s1 : Int32) (s2 : Int32) (s3 : Nat) : pm_ev (176, 82, [vr 8 0, none, none, vi x3], [vi s0, vi s1, vi s2, vr 35 s3], h) = (if pm_inb (s2 + (s1 * s0)) 161 = true then pm_ev (176, 86, [vr 8 0, none, none, vi x3], [], (pm_sI h 35 s3 ((s2 + (s1 * s0)).toNatClampNeg) x3)) else none) := (ev_rc [13, 31, 38, 57, 69, 82, 86, 93] 120 _).trans rfl
set_option maxRecDepth 100000 in
set_option maxHeartbeats 400000 in
/-- IllLightModel.logFact(IZ)V -/
theorem E_X9_logFact_86 (h : PH) (x3 : Int32) : pm_ev (176, 86, [vr 8 0, none, none, vi x3], [], h) = pm_ev (176, 93, [vr 8 0, none, none, vi x3], [vi (h.1 35 0 ((3 : Int32).toNatClampNeg)), vi 3, vr 35 0], h) := (ev_rc [13, 31, 38, 57, 69, 82, 86, 93] 120 _).trans rfl
set_option maxRecDepth 100000 in
set_option maxHeartbeats 400000 in
/-- IllLightModel.logFact(IZ)V -/
theorem E_X9_logFact_93 (h : PH) (x3 : Int32) (s0 : Int32) (s1 : Int32) (s2 : Nat) : pm_ev (176, 93, [vr 8 0, none, none, vi x3], [vi s0, vi s1, vr 35 s2], h) = (if pm_inb s1 161 = true then some (none, (pm_sI h 35 s2 s1.toNatClampNeg (s0 + 1))) else none) := (ev_rc [13, 31, 38, 57, 69, 82, 86, 93] 120 _).trans rfl
set_option maxRecDepth 100000 in
set_option maxHeartbeats 400000 in
/-- IllLightModel.logLine()V -/
theorem E_X9_logLine (h : PH)  : pm_ev (177, 0, [vr 8 0, none, none], [], h) = (pm_bI (pm_ev (166, 0, [vr 8 0, vi 12, vi 16, none], [], h)) fun r2 h1 => (if r2 = 0 then pm_ev (177, 115, [vr 8 0, none, none], [], h1) else (if r2 = 12 then (pm_bI (pm_ev (165, 0, [vr 8 0, vi 1, vi 6, none], [], h1)) fun r9 h8 => pm_ev (177, 71, [vr 8 0, none, none], [vi r9, vi 1, vr 35 0], h8)) else (if r2 = 13 then (pm_bV (pm_ev (175, 0, [vr 8 0, vi (h.1 8 0 4), none], [], h1)) fun h7 => pm_ev (177, 80, [vr 8 0, vi (h.1 8 0 4), none], [], h7)) else (if r2 = 14 then (pm_bI (pm_ev (165, 0, [vr 8 0, vi 0, vi 9, none], [], h1)) fun r6 h5 => pm_ev (177, 95, [vr 8 0, none, none], [vi r6, vi 2, vr 35 0], h5)) else (if r2 = 15 then (pm_bV (pm_ev (176, 0, [vr 8 0, vi (h.1 8 0 4), vi 1, none], [], h1)) fun h3 => pm_ev (177, 115, [vr 8 0, none, none], [], h3)) else (pm_bV (pm_ev (176, 0, [vr 8 0, vi (h.1 8 0 4), vi 0, none], [], h1)) fun h4 => pm_ev (177, 115, [vr 8 0, none, none], [], h4)))))))) := (ev_rc [71, 80, 95, 115] 120 _).trans rfl
set_option maxRecDepth 100000 in
set_option maxHeartbeats 400000 in
/-- IllLightModel.logLine()V -/
theorem E_X9_logLine_115 (h : PH)  : pm_ev (177, 115, [vr 8 0, none, none], [], h) = (pm_bV (pm_ev (167, 0, [vr 8 0], [], h)) fun h10 => some (none, h10)) := (ev_rc [71, 80, 95, 115] 120 _).trans rfl
set_option maxRecDepth 100000 in
set_option maxHeartbeats 400000 in
/-- IllLightModel.logLine()V -/
theorem E_X9_logLine_95 (h : PH) (s0 : Int32) (s1 : Int32) (s2 : Nat) : pm_ev (177, 95, [vr 8 0, none, none], [vi s0, vi s1, vr 35 s2], h) = (if pm_inb s1 161 = true then pm_ev (177, 115, [vr 8 0, none, none], [], (pm_sI h 35 s2 s1.toNatClampNeg s0)) else none) := (ev_rc [71, 80, 95, 115] 120 _).trans rfl
set_option maxRecDepth 100000 in
set_option maxHeartbeats 400000 in
/-- IllLightModel.logLine()V -/
theorem E_X9_logLine_80 (h : PH) (x1 : Int32) : pm_ev (177, 80, [vr 8 0, vi x1, none], [], h) = pm_ev (177, 115, [vr 8 0, none, none], [], h) := (ev_rc [71, 80, 95, 115] 120 _).trans rfl
set_option maxRecDepth 100000 in
set_option maxHeartbeats 400000 in
/-- IllLightModel.logLine()V -/
theorem E_X9_logLine_71 (h : PH) (s0 : Int32) (s1 : Int32) (s2 : Nat) : pm_ev (177, 71, [vr 8 0, none, none], [vi s0, vi s1, vr 35 s2], h) = (if pm_inb s1 161 = true then pm_ev (177, 115, [vr 8 0, none, none], [], (pm_sI h 35 s2 s1.toNatClampNeg s0)) else none) := (ev_rc [71, 80, 95, 115] 120 _).trans rfl
set_option maxRecDepth 100000 in
set_option maxHeartbeats 400000 in
/-- IllLightModel.sizeOf(I)I -/
theorem E_X9_sizeOf (h : PH) (a : Int32) : pm_ev (179, 0, [vi a], [], h) = (if a = 0 then some (some (vi 142), h) else (if a = 1 then some (some (vi 161), h) else some (some (vi 30), h))) := (ev_rc [] 120 _).trans rfl
set_option maxRecDepth 100000 in
set_option maxHeartbeats 400000 in
/-- IllLightModel.text(II)I -/
theorem E_X9_text (h : PH) (a : Int32) (b : Int32) : pm_ev (181, 0, [vr 8 0, vi a, vi b, none, none], [], h) = pm_ev (181, 7, [vr 8 0, vi a, vi b, none, none], [vi (h.1 33 0 ((4 : Int32).toNatClampNeg)), vr 8 0], h) := (ev_rc [7, 10, 17, 24, 32, 38, 52, 65, 68, 71, 76, 81, 86, 91, 96, 98, 112, 130, 138, 145, 157, 161, 204, 208, 211, 215, 218, 222, 225, 231, 248, 261, 264, 273, 279, 296, 309, 315, 331, 335, 348, 351, 354, 360, 372, 382, 383, 399, 402] 120 _).trans rfl
set_option maxRecDepth 100000 in
set_option maxHeartbeats 400000 in
/-- IllLightModel.text(II)I -/
theorem E_X9_text_7 (h : PH) (x1 : Int32) (x2 : Int32) (s0 : Int32) (s1 : Nat) : pm_ev (181, 7, [vr 8 0, vi x1, vi x2, none, none], [vi s0, vr 8 s1], h) = pm_ev (181, 10, [vr 8 0, vi x1, vi x2, none, none], [], (pm_sI h 8 s1 2 s0)) := (ev_rc [7, 10, 17, 24, 32, 38, 52, 65, 68, 71, 76, 81, 86, 91, 96, 98, 112, 130, 138, 145, 157, 161, 204, 208, 211, 215, 218, 222, 225, 231, 248, 261, 264, 273, 279, 296, 309, 315, 331, 335, 348, 351, 354, 360, 372, 382, 383, 399, 402] 120 _).trans rfl
set_option maxRecDepth 100000 in
set_option maxHeartbeats 400000 in
/-- IllLightModel.text(II)I -/
theorem E_X9_text_10 (h : PH) (x1 : Int32) (x2 : Int32) : pm_ev (181, 10, [vr 8 0, vi x1, vi x2, none, none], [], h) = pm_ev (181, 17, [vr 8 0, vi x1, vi x2, none, none], [], (pm_sI h 33 0 ((4 : Int32).toNatClampNeg) 0)) := (ev_rc [7, 10, 17, 24, 32, 38, 52, 65, 68, 71, 76, 81, 86, 91, 96, 98, 112, 130, 138, 145, 157, 161, 204, 208, 211, 215, 218, 222, 225, 231, 248, 261, 264, 273, 279, 296, 309, 315, 331, 335, 348, 351, 354, 360, 372, 382, 383, 399, 402] 120 _).trans rfl
set_option maxRecDepth 100000 in
set_option maxHeartbeats 400000 in
/-- IllLightModel.text(II)I -/
theorem E_X9_text_17 (h : PH) (x1 : Int32) (x2 : Int32) : pm_ev (181, 17, [vr 8 0, vi x1, vi x2, none, none], [], h) = pm_ev (181, 24, [vr 8 0, vi x1, vi x2, none, none], [], (pm_sI h 33 0 ((5 : Int32).toNatClampNeg) 0)) := (ev_rc [7, 10, 17, 24, 32, 38, 52, 65, 68, 71, 76, 81, 86, 91, 96, 98, 112, 130, 138, 145, 157, 161, 204, 208, 211, 215, 218, 222, 225, 231, 248, 261, 264, 273, 279, 296, 309, 315, 331, 335, 348, 351, 354, 360, 372, 382, 383, 399, 402] 120 _).trans rfl
set_option maxRecDepth 100000 in
set_option maxHeartbeats 400000 in
/-- IllLightModel.text(II)I -/
theorem E_X9_text_24 (h : PH) (x1 : Int32) (x2 : Int32) : pm_ev (181, 24, [vr 8 0, vi x1, vi x2, none, none], [], h) = pm_ev (181, 32, [vr 8 0, vi x1, vi x2, none, none], [], (pm_sI h 33 0 ((6 : Int32).toNatClampNeg) (-1))) := (ev_rc [7, 10, 17, 24, 32, 38, 52, 65, 68, 71, 76, 81, 86, 91, 96, 98, 112, 130, 138, 145, 157, 161, 204, 208, 211, 215, 218, 222, 225, 231, 248, 261, 264, 273, 279, 296, 309, 315, 331, 335, 348, 351, 354, 360, 372, 382, 383, 399, 402] 120 _).trans rfl
set_option maxRecDepth 100000 in
set_option maxHeartbeats 400000 in
/-- IllLightModel.text(II)I -/
theorem E_X9_text_32 (h : PH) (x1 : Int32) (x2 : Int32) : pm_ev (181, 32, [vr 8 0, vi x1, vi x2, none, none], [], h) = (pm_bI (pm_ev (153, 0, [vi x1, vi 0, vi 2], [], h)) fun r2 h1 => pm_ev (181, 38, [vr 8 0, vi x1, vi x2, none, none], [vi r2], h1)) := (ev_rc [7, 10, 17, 24, 32, 38, 52, 65, 68, 71, 76, 81, 86, 91, 96, 98, 112, 130, 138, 145, 157, 161, 204, 208, 211, 215, 218, 222, 225, 231, 248, 261, 264, 273, 279, 296, 309, 315, 331, 335, 348, 351, 354, 360, 372, 382, 383, 399, 402] 120 _).trans rfl
set_option maxRecDepth 100000 in
set_option maxHeartbeats 400000 in
/-- IllLightModel.text(II)I -/
theorem E_X9_text_38 (h : PH) (x1 : Int32) (x2 : Int32) (s0 : Int32) : pm_ev (181, 38, [vr 8 0, vi x1, vi x2, none, none], [vi s0], h) = (if s0 = 0 then pm_ev (181, 68, [none, none, none, none, none], [], h) else (if x2 = (-1) then (if pm_inb x1 5104 = true then pm_ev (181, 52, [vr 8 0, vi x1, vi x2, none, none], [vi (h.1 33 0 x1.toNatClampNeg)], h) else none) else (pm_bI (pm_ev (180, 0, [vr 8 0, vi x1, vi x2], [], h)) fun r4 h3 => pm_ev (181, 65, [vr 8 0, vi x1, vi x2, none, none], [vi r4], h3)))) := (ev_rc [7, 10, 17, 24, 32, 38, 52, 65, 68, 71, 76, 81, 86, 91, 96, 98, 112, 130, 138, 145, 157, 161, 204, 208, 211, 215, 218, 222, 225, 231, 248, 261, 264, 273, 279, 296, 309, 315, 331, 335, 348, 351, 354, 360, 372, 382, 383, 399, 402] 120 _).trans rfl
set_option maxRecDepth 100000 in
set_option maxHeartbeats 400000 in
/-- IllLightModel.text(II)I -/
theorem E_X9_text_68 (h : PH)  : pm_ev (181, 68, [none, none, none, none, none], [], h) = some (some (vi (-2)), h) := (ev_rc [7, 10, 17, 24, 32, 38, 52, 65, 68, 71, 76, 81, 86, 91, 96, 98, 112, 130, 138, 145, 157, 161, 204, 208, 211, 215, 218, 222, 225, 231, 248, 261, 264, 273, 279, 296, 309, 315, 331, 335, 348, 351, 354, 360, 372, 382, 383, 399, 402] 120 _).trans rfl
set_option maxRecDepth 100000 in
set_option maxHeartbeats 400000 in
/-- IllLightModel.text(II)I -/
theorem E_X9_text_52 (h : PH) (x1 : Int32) (x2 : Int32) (s0 : Int32) : pm_ev (181, 52, [vr 8 0, vi x1, vi x2, none, none], [vi s0], h) = (if s0 < 2 then pm_ev (181, 71, [vr 8 0, vi x1, vi x2, none, none], [], h) else pm_ev (181, 68, [none, none, none, none, none], [], h)) := (ev_rc [7, 10, 17, 24, 32, 38, 52, 65, 68, 71, 76, 81, 86, 91, 96, 98, 112, 130, 138, 145, 157, 161, 204, 208, 211, 215, 218, 222, 225, 231, 248, 261, 264, 273, 279, 296, 309, 315, 331, 335, 348, 351, 354, 360, 372, 382, 383, 399, 402] 120 _).trans rfl
set_option maxRecDepth 100000 in
set_option maxHeartbeats 400000 in
/-- IllLightModel.text(II)I -/
theorem E_X9_text_65 (h : PH) (x1 : Int32) (x2 : Int32) (s0 : Int32) : pm_ev (181, 65, [vr 8 0, vi x1, vi x2, none, none], [vi s0], h) = (if s0 = 0 then pm_ev (181, 68, [none, none, none, none, none], [], h) else pm_ev (181, 71, [vr 8 0, vi x1, vi x2, none, none], [], h)) := (ev_rc [7, 10, 17, 24, 32, 38, 52, 65, 68, 71, 76, 81, 86, 91, 96, 98, 112, 130, 138, 145, 157, 161, 204, 208, 211, 215, 218, 222, 225, 231, 248, 261, 264, 273, 279, 296, 309, 315, 331, 335, 348, 351, 354, 360, 372, 382, 383, 399, 402] 120 _).trans rfl
set_option maxRecDepth 100000 in
set_option maxHeartbeats 400000 in
/-- IllLightModel.text(II)I -/
theorem E_X9_text_71 (h : PH) (x1 : Int32) (x2 : Int32) : pm_ev (181, 71, [vr 8 0, vi x1, vi x2, none, none], [], h) = pm_ev (181, 76, [vr 8 0, vi x1, vi x2, none, none], [], (pm_sI h 8 0 3 0)) := (ev_rc [7, 10, 17, 24, 32, 38, 52, 65, 68, 71, 76, 81, 86, 91, 96, 98, 112, 130, 138, 145, 157, 161, 204, 208, 211, 215, 218, 222, 225, 231, 248, 261, 264, 273, 279, 296, 309, 315, 331, 335, 348, 351, 354, 360, 372, 382, 383, 399, 402] 120 _).trans rfl
set_option maxRecDepth 100000 in
set_option maxHeartbeats 400000 in
/-- IllLightModel.text(II)I -/
theorem E_X9_text_76 (h : PH) (x1 : Int32) (x2 : Int32) : pm_ev (181, 76, [vr 8 0, vi x1, vi x2, none, none], [], h) = pm_ev (181, 81, [vr 8 0, vi x1, vi x2, none, none], [], (pm_sI h 8 0 8 0)) := (ev_rc [7, 10, 17, 24, 32, 38, 52, 65, 68, 71, 76, 81, 86, 91, 96, 98, 112, 130, 138, 145, 157, 161, 204, 208, 211, 215, 218, 222, 225, 231, 248, 261, 264, 273, 279, 296, 309, 315, 331, 335, 348, 351, 354, 360, 372, 382, 383, 399, 402] 120 _).trans rfl
set_option maxRecDepth 100000 in
set_option maxHeartbeats 400000 in
/-- IllLightModel.text(II)I -/
theorem E_X9_text_81 (h : PH) (x1 : Int32) (x2 : Int32) : pm_ev (181, 81, [vr 8 0, vi x1, vi x2, none, none], [], h) = pm_ev (181, 86, [vr 8 0, vi x1, vi x2, none, none], [], (pm_sI h 8 0 9 (-1))) := (ev_rc [7, 10, 17, 24, 32, 38, 52, 65, 68, 71, 76, 81, 86, 91, 96, 98, 112, 130, 138, 145, 157, 161, 204, 208, 211, 215, 218, 222, 225, 231, 248, 261, 264, 273, 279, 296, 309, 315, 331, 335, 348, 351, 354, 360, 372, 382, 383, 399, 402] 120 _).trans rfl
set_option maxRecDepth 100000 in
set_option maxHeartbeats 400000 in
/-- IllLightModel.text(II)I -/
theorem E_X9_text_86 (h : PH) (x1 : Int32) (x2 : Int32) : pm_ev (181, 86, [vr 8 0, vi x1, vi x2, none, none], [], h) = pm_ev (181, 91, [vr 8 0, vi x1, vi x2, none, none], [], (pm_sI h 8 0 10 (-1))) := (ev_rc [7, 10, 17, 24, 32, 38, 52, 65, 68, 71, 76, 81, 86, 91, 96, 98, 112, 130, 138, 145, 157, 161, 204, 208, 211, 215, 218, 222, 225, 231, 248, 261, 264, 273, 279, 296, 309, 315, 331, 335, 348, 351, 354, 360, 372, 382, 383, 399, 402] 120 _).trans rfl
set_option maxRecDepth 100000 in
set_option maxHeartbeats 400000 in
/-- IllLightModel.text(II)I -/
theorem E_X9_text_91 (h : PH) (x1 : Int32) (x2 : Int32) : pm_ev (181, 91, [vr 8 0, vi x1, vi x2, none, none], [], h) = pm_ev (181, 96, [vr 8 0, vi x1, vi x2, none, none], [], (pm_sI h 8 0 11 (-1))) := (ev_rc [7, 10, 17, 24, 32, 38, 52, 65, 68, 71, 76, 81, 86, 91, 96, 98, 112, 130, 138, 145, 157, 161, 204, 208, 211, 215, 218, 222, 225, 231, 248, 261, 264, 273, 279, 296, 309, 315, 331, 335, 348, 351, 354, 360, 372, 382, 383, 399, 402] 120 _).trans rfl
set_option maxRecDepth 100000 in
set_option maxHeartbeats 400000 in
/-- IllLightModel.text(II)I -/
theorem E_X9_text_96 (h : PH) (x1 : Int32) (x2 : Int32) : pm_ev (181, 96, [vr 8 0, vi x1, vi x2, none, none], [], h) = pm_ev (181, 98, [vr 8 0, vi x1, vi x2, vi 0, none], [], h) := (ev_rc [7, 10, 17, 24, 32, 38, 52, 65, 68, 71, 76, 81, 86, 91, 96, 98, 112, 130, 138, 145, 157, 161, 204, 208, 211, 215, 218, 222, 225, 231, 248, 261, 264, 273, 279, 296, 309, 315, 331, 335, 348, 351, 354, 360, 372, 382, 383, 399, 402] 120 _).trans rfl
set_option maxRecDepth 100000 in
set_option maxHeartbeats 400000 in
/-- IllLightModel.text(II)I -/
theorem E_X9_text_98 (h : PH) (x1 : Int32) (x2 : Int32) (x3 : Int32) : pm_ev (181, 98, [vr 8 0, vi x1, vi x2, vi x3, none], [], h) = (if x3 < 161 then (if pm_inb x3 161 = true then pm_ev (181, 112, [vr 8 0, vi x1, vi x2, vi x3, none], [], (pm_sI h 35 0 x3.toNatClampNeg 0)) else none) else (if x1 = 0 then pm_ev (181, 130, [vr 8 0, vi x1, vi x2, none, none], [], (pm_sI h 35 0 ((0 : Int32).toNatClampNeg) 6)) else pm_ev (181, 145, [vr 8 0, vi x1, vi x2, none, none], [], h))) := (ev_rc [7, 10, 17, 24, 32, 38, 52, 65, 68, 71, 76, 81, 86, 91, 96, 98, 112, 130, 138, 145, 157, 161, 204, 208, 211, 215, 218, 222, 225, 231, 248, 261, 264, 273, 279, 296, 309, 315, 331, 335, 348, 351, 354, 360, 372, 382, 383, 399, 402] 120 _).trans rfl
set_option maxRecDepth 100000 in
set_option maxHeartbeats 400000 in
/-- IllLightModel.text(II)I -/
theorem E_X9_text_112 (h : PH) (x1 : Int32) (x2 : Int32) (x3 : Int32) : pm_ev (181, 112, [vr 8 0, vi x1, vi x2, vi x3, none], [], h) = pm_ev (181, 98, [vr 8 0, vi x1, vi x2, vi (x3 + 1), none], [], h) := (ev_rc [7, 10, 17, 24, 32, 38, 52, 65, 68, 71, 76, 81, 86, 91, 96, 98, 112, 130, 138, 145, 157, 161, 204, 208, 211, 215, 218, 222, 225, 231, 248, 261, 264, 273, 279, 296, 309, 315, 331, 335, 348, 351, 354, 360, 372, 382, 383, 399, 402] 120 _).trans rfl
set_option maxRecDepth 100000 in
set_option maxHeartbeats 400000 in
/-- IllLightModel.text(II)I -/
theorem E_X9_text_130 (h : PH) (x1 : Int32) (x2 : Int32) : pm_ev (181, 130, [vr 8 0, vi x1, vi x2, none, none], [], h) = pm_ev (181, 138, [vr 8 0, vi x1, vi x2, none, none], [], (pm_sI h 35 0 ((1 : Int32).toNatClampNeg) 6)) := (ev_rc [7, 10, 17, 24, 32, 38, 52, 65, 68, 71, 76, 81, 86, 91, 96, 98, 112, 130, 138, 145, 157, 161, 204, 208, 211, 215, 218, 222, 225, 231, 248, 261, 264, 273, 279, 296, 309, 315, 331, 335, 348, 351, 354, 360, 372, 382, 383, 399, 402] 120 _).trans rfl
set_option maxRecDepth 100000 in
set_option maxHeartbeats 400000 in
/-- IllLightModel.text(II)I -/
theorem E_X9_text_145 (h : PH) (x1 : Int32) (x2 : Int32) : pm_ev (181, 145, [vr 8 0, vi x1, vi x2, none, none], [], h) = (if x1 = 2 then pm_ev (181, 157, [vr 8 0, vi x1, vi x2, none, none], [], (pm_sI h 35 0 ((1 : Int32).toNatClampNeg) 1)) else pm_ev (181, 157, [vr 8 0, vi x1, vi x2, none, none], [], h)) := (ev_rc [7, 10, 17, 24, 32, 38, 52, 65, 68, 71, 76, 81, 86, 91, 96, 98, 112, 130, 138, 145, 157, 161, 204, 208, 211, 215, 218, 222, 225, 231, 248, 261, 264, 273, 279, 296, 309, 315, 331, 335, 348, 351, 354, 360, 372, 382, 383, 399, 402] 120 _).trans rfl
set_option maxRecDepth 100000 in
set_option maxHeartbeats 400000 in
/-- IllLightModel.text(II)I -/
theorem E_X9_text_138 (h : PH) (x1 : Int32) (x2 : Int32) : pm_ev (181, 138, [vr 8 0, vi x1, vi x2, none, none], [], h) = pm_ev (181, 145, [vr 8 0, vi x1, vi x2, none, none], [], (pm_sI h 35 0 ((3 : Int32).toNatClampNeg) 1)) := (ev_rc [7, 10, 17, 24, 32, 38, 52, 65, 68, 71, 76, 81, 86, 91, 96, 98, 112, 130, 138, 145, 157, 161, 204, 208, 211, 215, 218, 222, 225, 231, 248, 261, 264, 273, 279, 296, 309, 315, 331, 335, 348, 351, 354, 360, 372, 382, 383, 399, 402] 120 _).trans rfl
set_option maxRecDepth 100000 in
set_option maxHeartbeats 400000 in
/-- IllLightModel.text(II)I -/
theorem E_X9_text_157 (h : PH) (x1 : Int32) (x2 : Int32) : pm_ev (181, 157, [vr 8 0, vi x1, vi x2, none, none], [], h) = (pm_bV (pm_ev (162, 0, [vr 8 0, none, none, none], [], h)) fun h5 => pm_ev (181, 161, [vr 8 0, vi x1, vi x2, none, none], [], h5)) := (ev_rc [7, 10, 17, 24, 32, 38, 52, 65, 68, 71, 76, 81, 86, 91, 96, 98, 112, 130, 138, 145, 157, 161, 204, 208, 211, 215, 218, 222, 225, 231, 248, 261, 264, 273, 279, 296, 309, 315, 331, 335, 348, 351, 354, 360, 372, 382, 383, 399, 402] 120 _).trans rfl
set_option maxRecDepth 100000 in
set_option maxHeartbeats 400000 in
/-- IllLightModel.text(II)I -/
theorem E_X9_text_161 (h : PH) (x1 : Int32) (x2 : Int32) : pm_ev (181, 161, [vr 8 0, vi x1, vi x2, none, none], [], h) = (if h.1 8 0 8 = 0 then (if h.1 8 0 5 = 0 then pm_ev (181, 225, [vr 8 0, vi x1, vi x2, none, none], [], h) else (if x1 = 0 then pm_ev (181, 204, [vr 8 0, vi x1, vi x2, none, none], [], h) else (if x1 = 1 then pm_ev (181, 211, [vr 8 0, vi x1, vi x2, none, none], [], h) else pm_ev (181, 218, [vr 8 0, vi x1, vi x2, none, none], [], h)))) else pm_ev (181, 225, [vr 8 0, vi x1, vi x2, none, none], [], h)) := (ev_rc [7, 10, 17, 24, 32, 38, 52, 65, 68, 71, 76, 81, 86, 91, 96, 98, 112, 130, 138, 145, 157, 161, 204, 208, 211, 215, 218, 222, 225, 231, 248, 261, 264, 273, 279, 296, 309, 315, 331, 335, 348, 351, 354, 360, 372, 382, 383, 399, 402] 120 _).trans rfl
set_option maxRecDepth 100000 in
set_option maxHeartbeats 400000 in
/-- IllLightModel.text(II)I -/
theorem E_X9_text_225 (h : PH) (x1 : Int32) (x2 : Int32) : pm_ev (181, 225, [vr 8 0, vi x1, vi x2, none, none], [], h) = pm_ev (181, 231, [vr 8 0, vi x1, vi x2, none, none], [vi (h.1 33 0 ((5 : Int32).toNatClampNeg))], h) := (ev_rc [7, 10, 17, 24, 32, 38, 52, 65, 68, 71, 76, 81, 86, 91, 96, 98, 112, 130, 138, 145, 157, 161, 204, 208, 211, 215, 218, 222, 225, 231, 248, 261, 264, 273, 279, 296, 309, 315, 331, 335, 348, 351, 354, 360, 372, 382, 383, 399, 402] 120 _).trans rfl
set_option maxRecDepth 100000 in
set_option maxHeartbeats 400000 in
/-- IllLightModel.text(II)I -/
theorem E_X9_text_218 (h : PH) (x1 : Int32) (x2 : Int32) : pm_ev (181, 218, [vr 8 0, vi x1, vi x2, none, none], [], h) = (pm_bV (pm_ev (177, 0, [vr 8 0, none, none], [], h)) fun h6 => pm_ev (181, 222, [vr 8 0, vi x1, vi x2, none, none], [], h6)) := (ev_rc [7, 10, 17, 24, 32, 38, 52, 65, 68, 71, 76, 81, 86, 91, 96, 98, 112, 130, 138, 145, 157, 161, 204, 208, 211, 215, 218, 222, 225, 231, 248, 261, 264, 273, 279, 296, 309, 315, 331, 335, 348, 351, 354, 360, 372, 382, 383, 399, 402] 120 _).trans rfl
set_option maxRecDepth 100000 in
set_option maxHeartbeats 400000 in
/-- IllLightModel.text(II)I -/
theorem E_X9_text_211 (h : PH) (x1 : Int32) (x2 : Int32) : pm_ev (181, 211, [vr 8 0, vi x1, vi x2, none, none], [], h) = (pm_bV (pm_ev (174, 0, [vr 8 0, none, none, none, none, none, none], [], h)) fun h7 => pm_ev (181, 215, [vr 8 0, vi x1, vi x2, none, none], [], h7)) := (ev_rc [7, 10, 17, 24, 32, 38, 52, 65, 68, 71, 76, 81, 86, 91, 96, 98, 112, 130, 138, 145, 157, 161, 204, 208, 211, 215, 218, 222, 225, 231, 248, 261, 264, 273, 279, 296, 309, 315, 331, 335, 348, 351, 354, 360, 372, 382, 383, 399, 402] 120 _).trans rfl
set_option maxRecDepth 100000 in
set_option maxHeartbeats 400000 in
/-- IllLightModel.text(II)I -/
theorem E_X9_text_204 (h : PH) (x1 : Int32) (x2 : Int32) : pm_ev (181, 204, [vr 8 0, vi x1, vi x2, none, none], [], h) = (pm_bV (pm_ev (173, 0, [vr 8 0, none, none], [], h)) fun h8 => pm_ev (181, 208, [vr 8 0, vi x1, vi x2, none, none], [], h8)) := (ev_rc [7, 10, 17, 24, 32, 38, 52, 65, 68, 71, 76, 81, 86, 91, 96, 98, 112, 130, 138, 145, 157, 161, 204, 208, 211, 215, 218, 222, 225, 231, 248, 261, 264, 273, 279, 296, 309, 315, 331, 335, 348, 351, 354, 360, 372, 382, 383, 399, 402] 120 _).trans rfl
set_option maxRecDepth 100000 in
set_option maxHeartbeats 400000 in
/-- IllLightModel.text(II)I -/
theorem E_X9_text_231 (h : PH) (x1 : Int32) (x2 : Int32) (s0 : Int32) : pm_ev (181, 231, [vr 8 0, vi x1, vi x2, none, none], [vi s0], h) = (if s0 = 0 then (if x1 = 0 then pm_ev (181, 248, [vr 8 0, vi x1, vi x2, none, none], [vi (h.1 35 0 ((0 : Int32).toNatClampNeg)), vi (h.1 8 0 9)], h) else pm_ev (181, 273, [vr 8 0, vi x1, vi x2, none, none], [], h)) else pm_ev (181, 273, [vr 8 0, vi x1, vi x2, none, none], [], h)) := (ev_rc [7, 10, 17, 24, 32, 38, 52, 65, 68, 71, 76, 81, 86, 91, 96, 98, 112, 130, 138, 145, 157, 161, 204, 208, 211, 215, 218, 222, 225, 231, 248, 261, 264, 273, 279, 296, 309, 315, 331, 335, 348, 351, 354, 360, 372, 382, 383, 399, 402] 120 _).trans rfl
set_option maxRecDepth 100000 in
set_option maxHeartbeats 400000 in
/-- IllLightModel.text(II)I -/
theorem E_X9_text_222 (h : PH) (x1 : Int32) (x2 : Int32) : pm_ev (181, 222, [vr 8 0, vi x1, vi x2, none, none], [], h) = pm_ev (181, 161, [vr 8 0, vi x1, vi x2, none, none], [], h) := (ev_rc [7, 10, 17, 24, 32, 38, 52, 65, 68, 71, 76, 81, 86, 91, 96, 98, 112, 130, 138, 145, 157, 161, 204, 208, 211, 215, 218, 222, 225, 231, 248, 261, 264, 273, 279, 296, 309, 315, 331, 335, 348, 351, 354, 360, 372, 382, 383, 399, 402] 120 _).trans rfl
set_option maxRecDepth 100000 in
set_option maxHeartbeats 400000 in
/-- IllLightModel.text(II)I -/
theorem E_X9_text_215 (h : PH) (x1 : Int32) (x2 : Int32) : pm_ev (181, 215, [vr 8 0, vi x1, vi x2, none, none], [], h) = pm_ev (181, 161, [vr 8 0, vi x1, vi x2, none, none], [], h) := (ev_rc [7, 10, 17, 24, 32, 38, 52, 65, 68, 71, 76, 81, 86, 91, 96, 98, 112, 130, 138, 145, 157, 161, 204, 208, 211, 215, 218, 222, 225, 231, 248, 261, 264, 273, 279, 296, 309, 315, 331, 335, 348, 351, 354, 360, 372, 382, 383, 399, 402] 120 _).trans rfl
set_option maxRecDepth 100000 in
set_option maxHeartbeats 400000 in
/-- IllLightModel.text(II)I -/
theorem E_X9_text_208 (h : PH) (x1 : Int32) (x2 : Int32) : pm_ev (181, 208, [vr 8 0, vi x1, vi x2, none, none], [], h) = pm_ev (181, 161, [vr 8 0, vi x1, vi x2, none, none], [], h) := (ev_rc [7, 10, 17, 24, 32, 38, 52, 65, 68, 71, 76, 81, 86, 91, 96, 98, 112, 130, 138, 145, 157, 161, 204, 208, 211, 215, 218, 222, 225, 231, 248, 261, 264, 273, 279, 296, 309, 315, 331, 335, 348, 351, 354, 360, 372, 382, 383, 399, 402] 120 _).trans rfl
set_option maxRecDepth 100000 in
set_option maxHeartbeats 400000 in
/-- IllLightModel.text(II)I -/
theorem E_X9_text_248 (h : PH) (x1 : Int32) (x2 : Int32) (s0 : Int32) (s1 : Int32) : pm_ev (181, 248, [vr 8 0, vi x1, vi x2, none, none], [vi s0, vi s1], h) = (if s1 < s0 then pm_ev (181, 261, [vr 8 0, vi x1, vi x2, none, none], [vi (h.1 35 0 ((1 : Int32).toNatClampNeg)), vi (h.1 8 0 10)], h) else pm_ev (181, 264, [vr 8 0, vi x1, vi x2, none, none], [], h)) := (ev_rc [7, 10, 17, 24, 32, 38, 52, 65, 68, 71, 76, 81, 86, 91, 96, 98, 112, 130, 138, 145, 157, 161, 204, 208, 211, 215, 218, 222, 225, 231, 248, 261, 264, 273, 279, 296, 309, 315, 331, 335, 348, 351, 354, 360, 372, 382, 383, 399, 402] 120 _).trans rfl
set_option maxRecDepth 100000 in
set_option maxHeartbeats 400000 in
/-- IllLightModel.text(II)I -/
theorem E_X9_text_273 (h : PH) (x1 : Int32) (x2 : Int32) : pm_ev (181, 273, [vr 8 0, vi x1, vi x2, none, none], [], h) = pm_ev (181, 279, [vr 8 0, vi x1, vi x2, none, none], [vi (h.1 33 0 ((5 : Int32).toNatClampNeg))], h) := (ev_rc [7, 10, 17, 24, 32, 38, 52, 65, 68, 71, 76, 81, 86, 91, 96, 98, 112, 130, 138, 145, 157, 161, 204, 208, 211, 215, 218, 222, 225, 231, 248, 261, 264, 273, 279, 296, 309, 315, 331, 335, 348, 351, 354, 360, 372, 382, 383, 399, 402] 120 _).trans rfl
set_option maxRecDepth 100000 in
set_option maxHeartbeats 400000 in
/-- IllLightModel.text(II)I -/
theorem E_X9_text_261 (h : PH) (x1 : Int32) (x2 : Int32) (s0 : Int32) (s1 : Int32) : pm_ev (181, 261, [vr 8 0, vi x1, vi x2, none, none], [vi s0, vi s1], h) = (if s1 < s0 then pm_ev (181, 273, [vr 8 0, vi x1, vi x2, none, none], [], h) else pm_ev (181, 264, [vr 8 0, vi x1, vi x2, none, none], [], h)) := (ev_rc [7, 10, 17, 24, 32, 38, 52, 65, 68, 71, 76, 81, 86, 91, 96, 98, 112, 130, 138, 145, 157, 161, 204, 208, 211, 215, 218, 222, 225, 231, 248, 261, 264, 273, 279, 296, 309, 315, 331, 335, 348, 351, 354, 360, 372, 382, 383, 399, 402] 120 _).trans rfl
set_option maxRecDepth 100000 in
set_option maxHeartbeats 400000 in
/-- IllLightModel.text(II)I -/
theorem E_X9_text_264 (h : PH) (x1 : Int32) (x2 : Int32) : pm_ev (181, 264, [vr 8 0, vi x1, vi x2, none, none], [], h) = (pm_bV (pm_ev (164, 0, [vr 8 0, vi 5, vi (h.1 8 0 4)], [], h)) fun h9 => pm_ev (181, 273, [vr 8 0, vi x1, vi x2, none, none], [], h9)) := (ev_rc [7, 10, 17, 24, 32, 38, 52, 65, 68, 71, 76, 81, 86, 91, 96, 98, 112, 130, 138, 145, 157, 161, 204, 208, 211, 215, 218, 222, 225, 231, 248, 261, 264, 273, 279, 296, 309, 315, 331, 335, 348, 351, 354, 360, 372, 382, 383, 399, 402] 120 _).trans rfl
set_option maxRecDepth 100000 in
set_option maxHeartbeats 400000 in
/-- IllLightModel.text(II)I -/
theorem E_X9_text_279 (h : PH) (x1 : Int32) (x2 : Int32) (s0 : Int32) : pm_ev (181, 279, [vr 8 0, vi x1, vi x2, none, none], [vi s0], h) = (if s0 = 0 then (if x1 = 0 then pm_ev (181, 296, [vr 8 0, vi x1, vi x2, none, none], [vi (h.1 35 0 ((5 : Int32).toNatClampNeg)), vi (h.1 8 0 11)], h) else pm_ev (181, 309, [vr 8 0, vi x1, vi x2, none, none], [], h)) else pm_ev (181, 309, [vr 8 0, vi x1, vi x2, none, none], [], h)) := (ev_rc [7, 10, 17, 24, 32, 38, 52, 65, 68, 71, 76, 81, 86, 91, 96, 98, 112, 130, 138, 145, 157, 161, 204, 208, 211, 215, 218, 222, 225, 231, 248, 261, 264, 273, 279, 296, 309, 315, 331, 335, 348, 351, 354, 360, 372, 382, 383, 399, 402] 120 _).trans rfl
set_option maxRecDepth 100000 in
set_option maxHeartbeats 400000 in
/-- IllLightModel.text(II)I -/
theorem E_X9_text_296 (h : PH) (x1 : Int32) (x2 : Int32) (s0 : Int32) (s1 : Int32) : pm_ev (181, 296, [vr 8 0, vi x1, vi x2, none, none], [vi s0, vi s1], h) = (if s1 < s0 then pm_ev (181, 309, [vr 8 0, vi x1, vi x2, none, none], [], h) else (pm_bV (pm_ev (164, 0, [vr 8 0, vi 6, vi (h.1 8 0 4)], [], h)) fun h10 => pm_ev (181, 309, [vr 8 0, vi x1, vi x2, none, none], [], h10))) := (ev_rc [7, 10, 17, 24, 32, 38, 52, 65, 68, 71, 76, 81, 86, 91, 96, 98, 112, 130, 138, 145, 157, 161, 204, 208, 211, 215, 218, 222, 225, 231, 248, 261, 264, 273, 279, 296, 309, 315, 331, 335, 348, 351, 354, 360, 372, 382, 383, 399, 402] 120 _).trans rfl
set_option maxRecDepth 100000 in
set_option maxHeartbeats 400000 in
/-- IllLightModel.text(II)I -/
theorem E_X9_text_309 (h : PH) (x1 : Int32) (x2 : Int32) : pm_ev (181, 309, [vr 8 0, vi x1, vi x2, none, none], [], h) = pm_ev (181, 315, [vr 8 0, vi x1, vi x2, none, none], [vi (h.1 33 0 ((5 : Int32).toNatClampNeg))], h) := (ev_rc [7, 10, 17, 24, 32, 38, 52, 65, 68, 71, 76, 81, 86, 91, 96, 98, 112, 130, 138, 145, 157, 161, 204, 208, 211, 215, 218, 222, 225, 231, 248, 261, 264, 273, 279, 296, 309, 315, 331, 335, 348, 351, 354, 360, 372, 382, 383, 399, 402] 120 _).trans rfl
set_option maxRecDepth 100000 in
set_option maxHeartbeats 400000 in
/-- IllLightModel.text(II)I -/
theorem E_X9_text_315 (h : PH) (x1 : Int32) (x2 : Int32) (s0 : Int32) : pm_ev (181, 315, [vr 8 0, vi x1, vi x2, none, none], [vi s0], h) = (if s0 = 0 then (if x2 = (-1) then (if pm_inb x1 5104 = true then pm_ev (181, 331, [vr 8 0, vi x1, vi x2, none, none], [vi (h.1 33 0 x1.toNatClampNeg)], h) else none) else pm_ev (181, 335, [vr 8 0, vi x1, vi x2, none, none], [vi x2], h)) else some (some (vi (-1)), h)) := (ev_rc [7, 10, 17, 24, 32, 38, 52, 65, 68, 71, 76, 81, 86, 91, 96, 98, 112, 130, 138, 145, 157, 161, 204, 208, 211, 215, 218, 222, 225, 231, 248, 261, 264, 273, 279, 296, 309, 315, 331, 335, 348, 351, 354, 360, 372, 382, 383, 399, 402] 120 _).trans rfl
set_option maxRecDepth 100000 in
set_option maxHeartbeats 400000 in
/-- IllLightModel.text(II)I -/
theorem E_X9_text_331 (h : PH) (x1 : Int32) (x2 : Int32) (s0 : Int32) : pm_ev (181, 331, [vr 8 0, vi x1, vi x2, none, none], [vi s0], h) = pm_ev (181, 335, [vr 8 0, vi x1, vi x2, none, none], [vi s0], h) := (ev_rc [7, 10, 17, 24, 32, 38, 52, 65, 68, 71, 76, 81, 86, 91, 96, 98, 112, 130, 138, 145, 157, 161, 204, 208, 211, 215, 218, 222, 225, 231, 248, 261, 264, 273, 279, 296, 309, 315, 331, 335, 348, 351, 354, 360, 372, 382, 383, 399, 402] 120 _).trans rfl
set_option maxRecDepth 100000 in
set_option maxHeartbeats 400000 in
/-- IllLightModel.text(II)I -/
theorem E_X9_text_335 (h : PH) (x1 : Int32) (x2 : Int32) (s0 : Int32) : pm_ev (181, 335, [vr 8 0, vi x1, vi x2, none, none], [vi s0], h) = (if x2 = (-1) then (if pm_inb x1 5104 = true then pm_ev (181, 348, [vr 8 0, vi x1, vi x2, vi s0, none], [vi (h.1 33 0 x1.toNatClampNeg), vi x1, vr 33 0], h) else none) else pm_ev (181, 351, [vr 8 0, vi x1, none, vi s0, none], [], h)) := (ev_rc [7, 10, 17, 24, 32, 38, 52, 65, 68, 71, 76, 81, 86, 91, 96, 98, 112, 130, 138, 145, 157, 161, 204, 208, 211, 215, 218, 222, 225, 231, 248, 261, 264, 273, 279, 296, 309, 315, 331, 335, 348, 351, 354, 360, 372, 382, 383, 399, 402] 120 _).trans rfl
set_option maxRecDepth 100000 in
set_option maxHeartbeats 400000 in
/-- IllLightModel.text(II)I -/
theorem E_X9_text_348 (h : PH) (x1 : Int32) (x2 : Int32) (x3 : Int32) (s0 : Int32) (s1 : Int32) (s2 : Nat) : pm_ev (181, 348, [vr 8 0, vi x1, vi x2, vi x3, none], [vi s0, vi s1, vr 33 s2], h) = (if pm_inb s1 5104 = true then pm_ev (181, 351, [vr 8 0, vi x1, none, vi x3, none], [], (pm_sI h 33 s2 s1.toNatClampNeg (s0 + 1))) else none) := (ev_rc [7, 10, 17, 24, 32, 38, 52, 65, 68, 71, 76, 81, 86, 91, 96, 98, 112, 130, 138, 145, 157, 161, 204, 208, 211, 215, 218, 222, 225, 231, 248, 261, 264, 273, 279, 296, 309, 315, 331, 335, 348, 351, 354, 360, 372, 382, 383, 399, 402] 120 _).trans rfl
set_option maxRecDepth 100000 in
set_option maxHeartbeats 400000 in
/-- IllLightModel.text(II)I -/
theorem E_X9_text_351 (h : PH) (x1 : Int32) (x3 : Int32) : pm_ev (181, 351, [vr 8 0, vi x1, none, vi x3, none], [], h) = pm_ev (181, 354, [vr 8 0, vi x1, none, vi x3, vi 0], [], h) := (ev_rc [7, 10, 17, 24, 32, 38, 52, 65, 68, 71, 76, 81, 86, 91, 96, 98, 112, 130, 138, 145, 157, 161, 204, 208, 211, 215, 218, 222, 225, 231, 248, 261, 264, 273, 279, 296, 309, 315, 331, 335, 348, 351, 354, 360, 372, 382, 383, 399, 402] 120 _).trans rfl
set_option maxRecDepth 100000 in
set_option maxHeartbeats 400000 in
/-- IllLightModel.text(II)I -/
theorem E_X9_text_354 (h : PH) (x1 : Int32) (x3 : Int32) (x4 : Int32) : pm_ev (181, 354, [vr 8 0, vi x1, none, vi x3, vi x4], [], h) = (pm_bI (pm_ev (179, 0, [vi x1], [], h)) fun r12 h11 => pm_ev (181, 360, [vr 8 0, vi x1, none, vi x3, vi x4], [vi r12, vi x4], h11)) := (ev_rc [7, 10, 17, 24, 32, 38, 52, 65, 68, 71, 76, 81, 86, 91, 96, 98, 112, 130, 138, 145, 157, 161, 204, 208, 211, 215, 218, 222, 225, 231, 248, 261, 264, 273, 279, 296, 309, 315, 331, 335, 348, 351, 354, 360, 372, 382, 383, 399, 402] 120 _).trans rfl
set_option maxRecDepth 100000 in
set_option maxHeartbeats 400000 in
/-- IllLightModel.text(II)I -/
theorem E_X9_text_360 (h : PH) (x1 : Int32) (x3 : Int32) (x4 : Int32) (s0 : Int32) (s1 : Int32) : pm_ev (181, 360, [vr 8 0, vi x1, none, vi x3, vi x4], [vi s0, vi s1], h) = (if s1 < s0 then (pm_bI (pm_ev (178, 0, [vi x1, vi x3], [], h)) fun r14 h13 => pm_ev (181, 372, [vr 8 0, vi x1, none, vi x3, vi x4], [vi r14, vr 33 0], h13)) else (if x1 = 0 then (pm_bI (pm_ev (178, 0, [vi 0, vi x3], [], h)) fun r16 h15 => pm_ev (181, 399, [vr 8 0, vi x1, none, vi x3, none], [vi r16, vr 8 0], h15)) else pm_ev (181, 402, [none, none, none, vi x3, none], [], h))) := (ev_rc [7, 10, 17, 24, 32, 38, 52, 65, 68, 71, 76, 81, 86, 91, 96, 98, 112, 130, 138, 145, 157, 161, 204, 208, 211, 215, 218, 222, 225, 231, 248, 261, 264, 273, 279, 296, 309, 315, 331, 335, 348, 351, 354, 360, 372, 382, 383, 399, 402] 120 _).trans rfl
set_option maxRecDepth 100000 in
set_option maxHeartbeats 400000 in
/-- IllLightModel.text(II)I -/
theorem E_X9_text_372 (h : PH) (x1 : Int32) (x3 : Int32) (x4 : Int32) (s0 : Int32) (s1 : Nat) : pm_ev (181, 372, [vr 8 0, vi x1, none, vi x3, vi x4], [vi s0, vr 33 s1], h) = (if pm_inb x4 161 = true then pm_ev (181, 382, [vr 8 0, vi x1, none, vi x3, vi x4], [vi (h.1 35 0 x4.toNatClampNeg), vi (s0 + x4), vr 33 s1], h) else none) := (ev_rc [7, 10, 17, 24, 32, 38, 52, 65, 68, 71, 76, 81, 86, 91, 96, 98, 112, 130, 138, 145, 157, 161, 204, 208, 211, 215, 218, 222, 225, 231, 248, 261, 264, 273, 279, 296, 309, 315, 331, 335, 348, 351, 354, 360, 372, 382, 383, 399, 402] 120 _).trans rfl
set_option maxRecDepth 100000 in
set_option maxHeartbeats 400000 in
/-- IllLightModel.text(II)I -/
theorem E_X9_text_399 (h : PH) (x1 : Int32) (x3 : Int32) (s0 : Int32) (s1 : Nat) : pm_ev (181, 399, [vr 8 0, vi x1, none, vi x3, none], [vi s0, vr 8 s1], h) = (pm_bV (pm_ev (183, 0, [vr 8 s1, vi s0, none, none], [], h)) fun h17 => pm_ev (181, 402, [none, none, none, vi x3, none], [], h17)) := (ev_rc [7, 10, 17, 24, 32, 38, 52, 65, 68, 71, 76, 81, 86, 91, 96, 98, 112, 130, 138, 145, 157, 161, 204, 208, 211, 215, 218, 222, 225, 231, 248, 261, 264, 273, 279, 296, 309, 315, 331, 335, 348, 351, 354, 360, 372, 382, 383, 399, 402] 120 _).trans rfl
set_option maxRecDepth 100000 in
set_option maxHeartbeats 400000 in
/-- IllLightModel.text(II)I -/
theorem E_X9_text_402 (h : PH) (x3 : Int32) : pm_ev (181, 402, [none, none, none, vi x3, none], [], h) = some (some (vi x3), h) := (ev_rc [7, 10, 17, 24, 32, 38, 52, 65, 68, 71, 76, 81, 86, 91, 96, 98, 112, 130, 138, 145, 157, 161, 204, 208, 211, 215, 218, 222, 225, 231, 248, 261, 264, 273, 279, 296, 309, 315, 331, 335, 348, 351, 354, 360, 372, 382, 383, 399, 402] 120 _).trans rfl
set_option maxRecDepth 100000 in
set_option maxHeartbeats 400000 in
/-- IllLightModel.text(II)I -/
theorem E_X9_text_382 (h : PH) (x1 : Int32) (x3 : Int32) (x4 : Int32) (s0 : Int32) (s1 : Int32) (s2 : Nat) : pm_ev (181, 382, [vr 8 0, vi x1, none, vi x3, vi x4], [vi s0, vi s1, vr 33 s2], h) = (if pm_inb s1 5104 = true then pm_ev (181, 383, [vr 8 0, vi x1, none, vi x3, vi x4], [], (pm_sI h 33 s2 s1.toNatClampNeg s0)) else none) := (ev_rc [7, 10, 17, 24, 32, 38, 52, 65, 68, 71, 76, 81, 86, 91, 96, 98, 112, 130, 138, 145, 157, 161, 204, 208, 211, 215, 218, 222, 225, 231, 248, 261, 264, 273, 279, 296, 309, 315, 331, 335, 348, 351, 354, 360, 372, 382, 383, 399, 402] 120 _).trans rfl
set_option maxRecDepth 100000 in
set_option maxHeartbeats 400000 in
/-- IllLightModel.text(II)I -/
theorem E_X9_text_383 (h : PH) (x1 : Int32) (x3 : Int32) (x4 : Int32) : pm_ev (181, 383, [vr 8 0, vi x1, none, vi x3, vi x4], [], h) = pm_ev (181, 354, [vr 8 0, vi x1, none, vi x3, vi (x4 + 1)], [], h) := (ev_rc [7, 10, 17, 24, 32, 38, 52, 65, 68, 71, 76, 81, 86, 91, 96, 98, 112, 130, 138, 145, 157, 161, 204, 208, 211, 215, 218, 222, 225, 231, 248, 261, 264, 273, 279, 296, 309, 315, 331, 335, 348, 351, 354, 360, 372, 382, 383, 399, 402] 120 _).trans rfl
set_option maxRecDepth 100000 in
set_option maxHeartbeats 400000 in
/-- IllLightModel.settled(II)I -/
theorem E_X9_settled (h : PH) (a : Int32) (b : Int32) : pm_ev (182, 0, [vr 8 0, vi a, vi b], [], h) = some (some (vi ((b * (a / 8)) + (a - a / 8 * 8))), h) := (ev_rc [] 120 _).trans rfl
set_option maxRecDepth 100000 in
set_option maxHeartbeats 400000 in
/-- IllLightModel.settles(I)V -/
theorem E_X9_settles (h : PH) (a : Int32) : pm_ev (183, 0, [vr 8 0, vi a, none, none], [], h) = (if pm_inb a 5104 = true then pm_ev (183, 6, [vr 8 0, vi a, none, none], [vi (h.1 33 0 a.toNatClampNeg)], h) else none) := (ev_rc [6, 23, 27, 28, 30, 61, 65, 66, 74, 105, 109, 110, 118, 136, 144, 159, 177, 180] 120 _).trans rfl
set_option maxRecDepth 100000 in
set_option maxHeartbeats 400000 in
/-- IllLightModel.settles(I)V -/
theorem E_X9_settles_6 (h : PH) (x1 : Int32) (s0 : Int32) : pm_ev (183, 6, [vr 8 0, vi x1, none, none], [vi s0], h) = (if pm_inb (x1 + 2) 5104 = true then pm_ev (183, 23, [vr 8 0, vi x1, vi s0, none], [vi (h.1 33 0 ((x1 + 2).toNatClampNeg)), vr 8 0, vi (x1 + 2), vr 33 0], h) else none) := (ev_rc [6, 23, 27, 28, 30, 61, 65, 66, 74, 105, 109, 110, 118, 136, 144, 159, 177, 180] 120 _).trans rfl
set_option maxRecDepth 100000 in
set_option maxHeartbeats 400000 in
/-- IllLightModel.settles(I)V -/
theorem E_X9_settles_23 (h : PH) (x1 : Int32) (x2 : Int32) (s0 : Int32) (s1 : Nat) (s2 : Int32) (s3 : Nat) : pm_ev (183, 23, [vr 8 0, vi x1, vi x2, none], [vi s0, vr 8 s1, vi s2, vr 33 s3], h) = (pm_bI (pm_ev (182, 0, [vr 8 s1, vi s0, vi x2], [], h)) fun r2 h1 => pm_ev (183, 27, [vr 8 0, vi x1, vi x2, none], [vi r2, vi s2, vr 33 s3], h1)) := (ev_rc [6, 23, 27, 28, 30, 61, 65, 66, 74, 105, 109, 110, 118, 136, 144, 159, 177, 180] 120 _).trans rfl
set_option maxRecDepth 100000 in
set_option maxHeartbeats 400000 in
/-- IllLightModel.settles(I)V -/
theorem E_X9_settles_27 (h : PH) (x1 : Int32) (x2 : Int32) (s0 : Int32) (s1 : Int32) (s2 : Nat) : pm_ev (183, 27, [vr 8 0, vi x1, vi x2, none], [vi s0, vi s1, vr 33 s2], h) = (if pm_inb s1 5104 = true then pm_ev (183, 28, [vr 8 0, vi x1, vi x2, none], [], (pm_sI h 33 s2 s1.toNatClampNeg s0)) else none) := (ev_rc [6, 23, 27, 28, 30, 61, 65, 66, 74, 105, 109, 110, 118, 136, 144, 159, 177, 180] 120 _).trans rfl
set_option maxRecDepth 100000 in
set_option maxHeartbeats 400000 in
/-- IllLightModel.settles(I)V -/
theorem E_X9_settles_28 (h : PH) (x1 : Int32) (x2 : Int32) : pm_ev (183, 28, [vr 8 0, vi x1, vi x2, none], [], h) = pm_ev (183, 30, [vr 8 0, vi x1, vi x2, vi 0], [], h) := (ev_rc [6, 23, 27, 28, 30, 61, 65, 66, 74, 105, 109, 110, 118, 136, 144, 159, 177, 180] 120 _).trans rfl
set_option maxRecDepth 100000 in
set_option maxHeartbeats 400000 in
/-- IllLightModel.settles(I)V -/
theorem E_X9_settles_30 (h : PH) (x1 : Int32) (x2 : Int32) (x3 : Int32) : pm_ev (183, 30, [vr 8 0, vi x1, vi x2, vi x3], [], h) = (if x3 < 4 then (if pm_inb ((x1 + 6) + (2 * x3)) 5104 = true then pm_ev (183, 61, [vr 8 0, vi x1, vi x2, vi x3], [vi (h.1 33 0 (((x1 + 6) + (2 * x3)).toNatClampNeg)), vr 8 0, vi ((x1 + 6) + (2 * x3)), vr 33 0], h) else none) else pm_ev (183, 74, [vr 8 0, vi x1, vi x2, vi 0], [], h)) := (ev_rc [6, 23, 27, 28, 30, 61, 65, 66, 74, 105, 109, 110, 118, 136, 144, 159, 177, 180] 120 _).trans rfl
set_option maxRecDepth 100000 in
set_option maxHeartbeats 400000 in
/-- IllLightModel.settles(I)V -/
theorem E_X9_settles_61 (h : PH) (x1 : Int32) (x2 : Int32) (x3 : Int32) (s0 : Int32) (s1 : Nat) (s2 : Int32) (s3 : Nat) : pm_ev (183, 61, [vr 8 0, vi x1, vi x2, vi x3], [vi s0, vr 8 s1, vi s2, vr 33 s3], h) = (pm_bI (pm_ev (182, 0, [vr 8 s1, vi s0, vi x2], [], h)) fun r4 h3 => pm_ev (183, 65, [vr 8 0, vi x1, vi x2, vi x3], [vi r4, vi s2, vr 33 s3], h3)) := (ev_rc [6, 23, 27, 28, 30, 61, 65, 66, 74, 105, 109, 110, 118, 136, 144, 159, 177, 180] 120 _).trans rfl
set_option maxRecDepth 100000 in
set_option maxHeartbeats 400000 in
/-- IllLightModel.settles(I)V -/
theorem E_X9_settles_74 (h : PH) (x1 : Int32) (x2 : Int32) (x3 : Int32) : pm_ev (183, 74, [vr 8 0, vi x1, vi x2, vi x3], [], h) = (if x3 < 4 then (if pm_inb ((x1 + 14) + (4 * x3)) 5104 = true then pm_ev (183, 105, [vr 8 0, vi x1, vi x2, vi x3], [vi (h.1 33 0 (((x1 + 14) + (4 * x3)).toNatClampNeg)), vr 8 0, vi ((x1 + 14) + (4 * x3)), vr 33 0], h) else none) else pm_ev (183, 118, [vr 8 0, vi x1, vi x2, vi 0], [], h)) := (ev_rc [6, 23, 27, 28, 30, 61, 65, 66, 74, 105, 109, 110, 118, 136, 144, 159, 177, 180] 120 _).trans rfl
set_option maxRecDepth 100000 in
set_option maxHeartbeats 400000 in
/-- IllLightModel.settles(I)V -/
theorem E_X9_settles_65 (h : PH) (x1 : Int32) (x2 : Int32) (x3 : Int32) (s0 : Int32) (s1 : Int32) (s2 : Nat) : pm_ev (183, 65, [vr 8 0, vi x1, vi x2, vi x3], [vi s0, vi s1, vr 33 s2], h) = (if pm_inb s1 5104 = true then pm_ev (183, 66, [vr 8 0, vi x1, vi x2, vi x3], [], (pm_sI h 33 s2 s1.toNatClampNeg s0)) else none) := (ev_rc [6, 23, 27, 28, 30, 61, 65, 66, 74, 105, 109, 110, 118, 136, 144, 159, 177, 180] 120 _).trans rfl
set_option maxRecDepth 100000 in
set_option maxHeartbeats 400000 in
/-- IllLightModel.settles(I)V -/
theorem E_X9_settles_105 (h : PH) (x1 : Int32) (x2 : Int32) (x3 : Int32) (s0 : Int32) (s1 : Nat) (s2 : Int32) (s3 : Nat) : pm_ev (183, 105, [vr 8 0, vi x1, vi x2, vi x3], [vi s0, vr 8 s1, vi s2, vr 33 s3], h) = (pm_bI (pm_ev (182, 0, [vr 8 s1, vi s0, vi x2], [], h)) fun r6 h5 => pm_ev (183, 109, [vr 8 0, vi x1, vi x2, vi x3], [vi r6, vi s2, vr 33 s3], h5)) := (ev_rc [6, 23, 27, 28, 30, 61, 65, 66, 74, 105, 109, 110, 118, 136, 144, 159, 177, 180] 120 _).trans rfl
set_option maxRecDepth 100000 in
set_option maxHeartbeats 400000 in
/-- IllLightModel.settles(I)V -/
theorem E_X9_settles_118 (h : PH) (x1 : Int32) (x2 : Int32) (x3 : Int32) : pm_ev (183, 118, [vr 8 0, vi x1, vi x2, vi x3], [], h) = (if x3 < 64 then (if pm_inb ((x1 + 78) + x3) 5104 = true then pm_ev (183, 136, [vr 8 0, vi x1, vi x2, vi x3], [], (pm_sI h 33 0 (((x1 + 78) + x3).toNatClampNeg) 0)) else none) else pm_ev (183, 144, [vr 8 0, vi x1, vi x2, vi 0], [], h)) := (ev_rc [6, 23, 27, 28, 30, 61, 65, 66, 74, 105, 109, 110, 118, 136, 144, 159, 177, 180] 120 _).trans rfl
set_option maxRecDepth 100000 in
set_option maxHeartbeats 400000 in
/-- IllLightModel.settles(I)V -/
theorem E_X9_settles_66 (h : PH) (x1 : Int32) (x2 : Int32) (x3 : Int32) : pm_ev (183, 66, [vr 8 0, vi x1, vi x2, vi x3], [], h) = pm_ev (183, 30, [vr 8 0, vi x1, vi x2, vi (x3 + 1)], [], h) := (ev_rc [6, 23, 27, 28, 30, 61, 65, 66, 74, 105, 109, 110, 118, 136, 144, 159, 177, 180] 120 _).trans rfl
set_option maxRecDepth 100000 in
set_option maxHeartbeats 400000 in
/-- IllLightModel.settles(I)V -/
theorem E_X9_settles_109 (h : PH) (x1 : Int32) (x2 : Int32) (x3 : Int32) (s0 : Int32) (s1 : Int32) (s2 : Nat) : pm_ev (183, 109, [vr 8 0, vi x1, vi x2, vi x3], [vi s0, vi s1, vr 33 s2], h) = (if pm_inb s1 5104 = true then pm_ev (183, 110, [vr 8 0, vi x1, vi x2, vi x3], [], (pm_sI h 33 s2 s1.toNatClampNeg s0)) else none) := (ev_rc [6, 23, 27, 28, 30, 61, 65, 66, 74, 105, 109, 110, 118, 136, 144, 159, 177, 180] 120 _).trans rfl
set_option maxRecDepth 100000 in
set_option maxHeartbeats 400000 in
/-- IllLightModel.settles(I)V -/
theorem E_X9_settles_136 (h : PH) (x1 : Int32) (x2 : Int32) (x3 : Int32) : pm_ev (183, 136, [vr 8 0, vi x1, vi x2, vi x3], [], h) = pm_ev (183, 118, [vr 8 0, vi x1, vi x2, vi (x3 + 1)], [], h) := (ev_rc [6, 23, 27, 28, 30, 61, 65, 66, 74, 105, 109, 110, 118, 136, 144, 159, 177, 180] 120 _).trans rfl
set_option maxRecDepth 100000 in
set_option maxHeartbeats 400000 in
/-- IllLightModel.settles(I)V -/
theorem E_X9_settles_144 (h : PH) (x1 : Int32) (x2 : Int32) (x3 : Int32) : pm_ev (183, 144, [vr 8 0, vi x1, vi x2, vi x3], [], h) = (if x3 < 64 then (if pm_inb (78 + x3) 161 = true then pm_ev (183, 159, [vr 8 0, vi x1, vi x2, vi x3], [vi (h.1 35 0 ((78 + x3).toNatClampNeg))], h) else none) else some (none, h)) := (ev_rc [6, 23, 27, 28, 30, 61, 65, 66, 74, 105, 109, 110, 118, 136, 144, 159, 177, 180] 120 _).trans rfl
set_option maxRecDepth 100000 in
set_option maxHeartbeats 400000 in
/-- IllLightModel.settles(I)V -/
theorem E_X9_settles_110 (h : PH) (x1 : Int32) (x2 : Int32) (x3 : Int32) : pm_ev (183, 110, [vr 8 0, vi x1, vi x2, vi x3], [], h) = pm_ev (183, 74, [vr 8 0, vi x1, vi x2, vi (x3 + 1)], [], h) := (ev_rc [6, 23, 27, 28, 30, 61, 65, 66, 74, 105, 109, 110, 118, 136, 144, 159, 177, 180] 120 _).trans rfl
set_option maxRecDepth 100000 in
set_option maxHeartbeats 400000 in
/-- IllLightModel.settles(I)V -/
theorem E_X9_settles_159 (h : PH) (x1 : Int32) (x2 : Int32) (x3 : Int32) (s0 : Int32) : pm_ev (183, 159, [vr 8 0, vi x1, vi x2, vi x3], [vi s0], h) = (if s0 = 1 then (pm_bI (pm_ev (182, 0, [vr 8 0, vi x3, vi x2], [], h)) fun r8 h7 => pm_ev (183, 177, [vr 8 0, vi x1, vi x2, vi x3], [vi r8, vi (x1 + 78), vr 33 0], h7)) else pm_ev (183, 180, [vr 8 0, vi x1, vi x2, vi x3], [], h)) := (ev_rc [6, 23, 27, 28, 30, 61, 65, 66, 74, 105, 109, 110, 118, 136, 144, 159, 177, 180] 120 _).trans rfl
set_option maxRecDepth 100000 in
set_option maxHeartbeats 400000 in
/-- IllLightModel.settles(I)V -/
theorem E_X9_settles_177 (h : PH) (x1 : Int32) (x2 : Int32) (x3 : Int32) (s0 : Int32) (s1 : Int32) (s2 : Nat) : pm_ev (183, 177, [vr 8 0, vi x1, vi x2, vi x3], [vi s0, vi s1, vr 33 s2], h) = (if pm_inb (s1 + s0) 5104 = true then pm_ev (183, 180, [vr 8 0, vi x1, vi x2, vi x3], [], (pm_sI h 33 s2 ((s1 + s0).toNatClampNeg) 1)) else none) := (ev_rc [6, 23, 27, 28, 30, 61, 65, 66, 74, 105, 109, 110, 118, 136, 144, 159, 177, 180] 120 _).trans rfl
set_option maxRecDepth 100000 in
set_option maxHeartbeats 400000 in
/-- IllLightModel.settles(I)V -/
theorem E_X9_settles_180 (h : PH) (x1 : Int32) (x2 : Int32) (x3 : Int32) : pm_ev (183, 180, [vr 8 0, vi x1, vi x2, vi x3], [], h) = pm_ev (183, 144, [vr 8 0, vi x1, vi x2, vi (x3 + 1)], [], h) := (ev_rc [6, 23, 27, 28, 30, 61, 65, 66, 74, 105, 109, 110, 118, 136, 144, 159, 177, 180] 120 _).trans rfl
set_option maxRecDepth 100000 in
set_option maxHeartbeats 400000 in
/-- IllLightModel.image(I)Z -/
theorem E_X9_image (h : PH) (a : Int32) : pm_ev (265, 0, [vr 8 0, vi a, none], [], h) = (pm_bI (pm_ev (153, 0, [vi a, vi 0, vi 2], [], h)) fun r2 h1 => (if r2 = 0 then some (some (vi 0), h1) else (if pm_inb a 3 = true then pm_ev (265, 18, [vr 8 0, vi a, none], [], (pm_sI h1 34 0 a.toNatClampNeg 1)) else none))) := (ev_rc [18, 20, 46, 47] 120 _).trans rfl
set_option maxRecDepth 100000 in
set_option maxHeartbeats 400000 in
/-- IllLightModel.image(I)Z -/
theorem E_X9_image_18 (h : PH) (x1 : Int32) : pm_ev (265, 18, [vr 8 0, vi x1, none], [], h) = pm_ev (265, 20, [vr 8 0, vi x1, vi 0], [], h) := (ev_rc [18, 20, 46, 47] 120 _).trans rfl
set_option maxRecDepth 100000 in
set_option maxHeartbeats 400000 in
/-- IllLightModel.image(I)Z -/
theorem E_X9_image_20 (h : PH) (x1 : Int32) (x2 : Int32) : pm_ev (265, 20, [vr 8 0, vi x1, vi x2], [], h) = (if x2 < 1276 then (if pm_inb x2 5104 = true then pm_ev (265, 46, [vr 8 0, vi x1, vi x2], [vi (h.1 33 0 x2.toNatClampNeg), vi ((1276 * (x1 + 1)) + x2), vr 33 0], h) else none) else some (some (vi 1), h)) := (ev_rc [18, 20, 46, 47] 120 _).trans rfl
set_option maxRecDepth 100000 in
set_option maxHeartbeats 400000 in
/-- IllLightModel.image(I)Z -/
theorem E_X9_image_46 (h : PH) (x1 : Int32) (x2 : Int32) (s0 : Int32) (s1 : Int32) (s2 : Nat) : pm_ev (265, 46, [vr 8 0, vi x1, vi x2], [vi s0, vi s1, vr 33 s2], h) = (if pm_inb s1 5104 = true then pm_ev (265, 47, [vr 8 0, vi x1, vi x2], [], (pm_sI h 33 s2 s1.toNatClampNeg s0)) else none) := (ev_rc [18, 20, 46, 47] 120 _).trans rfl
set_option maxRecDepth 100000 in
set_option maxHeartbeats 400000 in
/-- IllLightModel.image(I)Z -/
theorem E_X9_image_47 (h : PH) (x1 : Int32) (x2 : Int32) : pm_ev (265, 47, [vr 8 0, vi x1, vi x2], [], h) = pm_ev (265, 20, [vr 8 0, vi x1, vi (x2 + 1)], [], h) := (ev_rc [18, 20, 46, 47] 120 _).trans rfl
set_option maxRecDepth 100000 in
set_option maxHeartbeats 400000 in
/-- IllLightModel.again(I)Z -/
theorem E_X9_again (h : PH) (a : Int32) : pm_ev (266, 0, [vr 8 0, vi a, none], [], h) = (pm_bI (pm_ev (153, 0, [vi a, vi 0, vi 2], [], h)) fun r2 h1 => (if r2 = 0 then some (some (vi 0), h1) else (if pm_inb a 3 = true then pm_ev (266, 15, [vr 8 0, vi a, none], [vi (h1.1 34 0 a.toNatClampNeg)], h1) else none))) := (ev_rc [15, 22, 48, 49] 120 _).trans rfl
set_option maxRecDepth 100000 in
set_option maxHeartbeats 400000 in
/-- IllLightModel.again(I)Z -/
theorem E_X9_again_15 (h : PH) (x1 : Int32) (s0 : Int32) : pm_ev (266, 15, [vr 8 0, vi x1, none], [vi s0], h) = (if s0 = 0 then some (some (vi 0), h) else pm_ev (266, 22, [vr 8 0, vi x1, vi 0], [], h)) := (ev_rc [15, 22, 48, 49] 120 _).trans rfl
set_option maxRecDepth 100000 in
set_option maxHeartbeats 400000 in
/-- IllLightModel.again(I)Z -/
theorem E_X9_again_22 (h : PH) (x1 : Int32) (x2 : Int32) : pm_ev (266, 22, [vr 8 0, vi x1, vi x2], [], h) = (if x2 < 1276 then (if pm_inb ((1276 * (x1 + 1)) + x2) 5104 = true then pm_ev (266, 48, [vr 8 0, vi x1, vi x2], [vi (h.1 33 0 (((1276 * (x1 + 1)) + x2).toNatClampNeg)), vi x2, vr 33 0], h) else none) else some (some (vi 1), h)) := (ev_rc [15, 22, 48, 49] 120 _).trans rfl
set_option maxRecDepth 100000 in
set_option maxHeartbeats 400000 in
/-- IllLightModel.again(I)Z -/
theorem E_X9_again_48 (h : PH) (x1 : Int32) (x2 : Int32) (s0 : Int32) (s1 : Int32) (s2 : Nat) : pm_ev (266, 48, [vr 8 0, vi x1, vi x2], [vi s0, vi s1, vr 33 s2], h) = (if pm_inb s1 5104 = true then pm_ev (266, 49, [vr 8 0, vi x1, vi x2], [], (pm_sI h 33 s2 s1.toNatClampNeg s0)) else none) := (ev_rc [15, 22, 48, 49] 120 _).trans rfl
set_option maxRecDepth 100000 in
set_option maxHeartbeats 400000 in
/-- IllLightModel.again(I)Z -/
theorem E_X9_again_49 (h : PH) (x1 : Int32) (x2 : Int32) : pm_ev (266, 49, [vr 8 0, vi x1, vi x2], [], h) = pm_ev (266, 22, [vr 8 0, vi x1, vi (x2 + 1)], [], h) := (ev_rc [15, 22, 48, 49] 120 _).trans rfl
