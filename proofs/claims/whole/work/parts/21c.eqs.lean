set_option maxRecDepth 100000 in
set_option maxHeartbeats 400000 in
/-- IllLight$Rows.prize(LIllLight$Coast;I)I -/
theorem E_X5_prize (h : PH) (a : Nat) (b : Int32) : pm_ev (84, 0, [vr 0 a, vi b, none, none], [], h) = (pm_bL (pm_ev (10, 0, [vr 0 a, none, none, none, none, none], [], h)) fun l2 h1 => (pm_bI (pm_ev (268, 0, [vl ((((l2 &&& ((h1.2 0 a 4) ^^^ (-1))).toUInt64 >>> ((8 * b).toInt64.toUInt64 &&& Int64.toUInt64 63)).toInt64) &&& 255), none], [], h1)) fun r4 h3 => some (some (vi r4), h3))) := (ev_rc [] 120 _).trans rfl
set_option maxRecDepth 100000 in
set_option maxHeartbeats 400000 in
/-- IllLight$Rows.pirateWins(LIllLight$Coast;III)I -/
theorem E_X5_pirateWins (h : PH) (a : Nat) (b : Int32) (c : Int32) (d : Int32) : pm_ev (85, 0, [vr 0 a, vi b, vi c, vi d], [], h) = (if b < (if (0 : Int32) ≤ c - d then c - d else (0 : Int32) - (c - d)) then (pm_bI (pm_ev (84, 0, [vr 0 a, vi c, none, none], [], h)) fun r2 h1 => some (some (vi r2), h1)) else some (some (vi 0), h)) := (ev_rc [] 120 _).trans rfl
set_option maxRecDepth 100000 in
set_option maxHeartbeats 400000 in
/-- IllLight$Rows.guardWins(LIllLight$Coast;III)I -/
theorem E_X5_guardWins (h : PH) (a : Nat) (b : Int32) (c : Int32) (d : Int32) : pm_ev (86, 0, [vr 0 a, vi b, vi c, vi d], [], h) = (if b < (if (0 : Int32) ≤ c - d then c - d else (0 : Int32) - (c - d)) then some (some (vi 0), h) else (pm_bI (pm_ev (84, 0, [vr 0 a, vi c, none, none], [], h)) fun r2 h1 => some (some (vi r2), h1))) := (ev_rc [] 120 _).trans rfl
set_option maxRecDepth 100000 in
set_option maxHeartbeats 400000 in
/-- IllLight$Rows.isRest(LIllLight$Coast;III)Z -/
theorem E_X5_isRest (h : PH) (a : Nat) (b : Int32) (c : Int32) (d : Int32) : pm_ev (87, 0, [vr 0 a, vi b, vi c, vi d, none, none, none], [], h) = (pm_bI (pm_ev (85, 0, [vr 0 a, vi b, vi c, vi d], [], h)) fun r2 h1 => (pm_bI (pm_ev (86, 0, [vr 0 a, vi b, vi c, vi d], [], h1)) fun r4 h3 => pm_ev (87, 21, [vr 0 a, vi b, vi c, vi d, vi r2, vi r4, vi 0], [], h3))) := (ev_rc [21] 120 _).trans rfl
set_option maxRecDepth 100000 in
set_option maxHeartbeats 400000 in
/-- IllLight$Rows.isRest(LIllLight$Coast;III)Z -/
theorem E_X5_isRest_21 (h : PH) (q0 : Nat) (x1 : Int32) (x2 : Int32) (x3 : Int32) (x4 : Int32) (x5 : Int32) (x6 : Int32) : pm_ev (87, 21, [vr 0 q0, vi x1, vi x2, vi x3, vi x4, vi x5, vi x6], [], h) = (if x6 < h.1 0 q0 1 then (pm_bI (pm_ev (85, 0, [vr 0 q0, vi x1, vi x6, vi x3], [], h)) fun r6 h5 => (if x4 < r6 then some (some (vi 0), h5) else (pm_bI (pm_ev (86, 0, [vr 0 q0, vi x1, vi x2, vi x6], [], h5)) fun r8 h7 => (if x5 < r8 then some (some (vi 0), h7) else pm_ev (87, 21, [vr 0 q0, vi x1, vi x2, vi x3, vi x4, vi x5, vi (x6 + 1)], [], h7))))) else some (some (vi 1), h)) := (ev_rc [21] 120 _).trans rfl
set_option maxRecDepth 100000 in
set_option maxHeartbeats 400000 in
/-- IllLight$Rows.rests(LIllLight$Coast;I)I -/
theorem E_X5_rests (h : PH) (a : Nat) (b : Int32) : pm_ev (88, 0, [vr 0 a, vi b, none, none], [], h) = pm_ev (88, 4, [vr 0 a, vi b, vi 0, vi 0], [], h) := (ev_rc [4] 120 _).trans rfl
set_option maxRecDepth 100000 in
set_option maxHeartbeats 400000 in
/-- IllLight$Rows.rests(LIllLight$Coast;I)I -/
theorem E_X5_rests_4 (h : PH) (q0 : Nat) (x1 : Int32) (x2 : Int32) (x3 : Int32) : pm_ev (88, 4, [vr 0 q0, vi x1, vi x2, vi x3], [], h) = (if x3 < 8 * (h.1 0 q0 1) then (if x3 - x3 / 8 * 8 < h.1 0 q0 1 then (pm_bI (pm_ev (87, 0, [vr 0 q0, vi x1, vi (x3 / 8), vi (x3 - x3 / 8 * 8), none, none, none], [], h)) fun r2 h1 => (if r2 = 0 then pm_ev (88, 4, [vr 0 q0, vi x1, vi x2, vi (x3 + 1)], [], h1) else pm_ev (88, 4, [vr 0 q0, vi x1, vi (x2 + 1), vi (x3 + 1)], [], h1))) else pm_ev (88, 4, [vr 0 q0, vi x1, vi x2, vi (x3 + 1)], [], h)) else some (some (vi x2), h)) := (ev_rc [4] 120 _).trans rfl
set_option maxRecDepth 100000 in
set_option maxHeartbeats 400000 in
/-- IllLight$Rows.restAt(LIllLight$Coast;II)I -/
theorem E_X5_restAt (h : PH) (a : Nat) (b : Int32) (c : Int32) : pm_ev (89, 0, [vr 0 a, vi b, vi c, none, none], [], h) = pm_ev (89, 5, [vr 0 a, vi b, vi c, vi 0, vi 0], [], h) := (ev_rc [5] 120 _).trans rfl
set_option maxRecDepth 100000 in
set_option maxHeartbeats 400000 in
/-- IllLight$Rows.restAt(LIllLight$Coast;II)I -/
theorem E_X5_restAt_5 (h : PH) (q0 : Nat) (x1 : Int32) (x2 : Int32) (x3 : Int32) (x4 : Int32) : pm_ev (89, 5, [vr 0 q0, vi x1, vi x2, vi x3, vi x4], [], h) = (if x4 < 8 * (h.1 0 q0 1) then (if x4 - x4 / 8 * 8 < h.1 0 q0 1 then (pm_bI (pm_ev (87, 0, [vr 0 q0, vi x1, vi (x4 / 8), vi (x4 - x4 / 8 * 8), none, none, none], [], h)) fun r2 h1 => (if r2 = 0 then pm_ev (89, 5, [vr 0 q0, vi x1, vi x2, vi x3, vi (x4 + 1)], [], h1) else (if x3 = x2 then some (some (vi x4), h1) else pm_ev (89, 5, [vr 0 q0, vi x1, vi x2, vi (x3 + 1), vi (x4 + 1)], [], h1)))) else pm_ev (89, 5, [vr 0 q0, vi x1, vi x2, vi x3, vi (x4 + 1)], [], h)) else some (some (vi (-1)), h)) := (ev_rc [5] 120 _).trans rfl
set_option maxRecDepth 100000 in
set_option maxHeartbeats 400000 in
/-- IllLight$Rows.safest(LIllLight$Coast;I)I -/
theorem E_X5_safest (h : PH) (a : Nat) (b : Int32) : pm_ev (90, 0, [vr 0 a, vi b, none, none], [], h) = pm_ev (90, 4, [vr 0 a, vi b, vi 0, vi 1], [], h) := (ev_rc [4] 120 _).trans rfl
set_option maxRecDepth 100000 in
set_option maxHeartbeats 400000 in
/-- IllLight$Rows.safest(LIllLight$Coast;I)I -/
theorem E_X5_safest_4 (h : PH) (q0 : Nat) (x1 : Int32) (x2 : Int32) (x3 : Int32) : pm_ev (90, 4, [vr 0 q0, vi x1, vi x2, vi x3], [], h) = (if x3 < h.1 0 q0 1 then (pm_bI (pm_ev (91, 0, [vr 0 q0, vi x1, vi x3, none, none], [], h)) fun r2 h1 => (pm_bI (pm_ev (91, 0, [vr 0 q0, vi x1, vi x2, none, none], [], h1)) fun r4 h3 => (if r4 < r2 then pm_ev (90, 4, [vr 0 q0, vi x1, vi x3, vi (x3 + 1)], [], h3) else pm_ev (90, 4, [vr 0 q0, vi x1, vi x2, vi (x3 + 1)], [], h3)))) else some (some (vi x2), h)) := (ev_rc [4] 120 _).trans rfl
set_option maxRecDepth 100000 in
set_option maxHeartbeats 400000 in
/-- IllLight$Rows.leastWon(LIllLight$Coast;II)I -/
theorem E_X5_leastWon (h : PH) (a : Nat) (b : Int32) (c : Int32) : pm_ev (91, 0, [vr 0 a, vi b, vi c, none, none], [], h) = pm_ev (91, 6, [vr 0 a, vi b, vi c, vi 8, vi 0], [], h) := (ev_rc [6] 120 _).trans rfl
set_option maxRecDepth 100000 in
set_option maxHeartbeats 400000 in
/-- IllLight$Rows.leastWon(LIllLight$Coast;II)I -/
theorem E_X5_leastWon_6 (h : PH) (q0 : Nat) (x1 : Int32) (x2 : Int32) (x3 : Int32) (x4 : Int32) : pm_ev (91, 6, [vr 0 q0, vi x1, vi x2, vi x3, vi x4], [], h) = (if x4 < h.1 0 q0 1 then (pm_bI (pm_ev (85, 0, [vr 0 q0, vi x1, vi x2, vi x4], [], h)) fun r2 h1 => pm_ev (91, 6, [vr 0 q0, vi x1, vi x2, vi (if r2 < x3 then r2 else x3), vi (x4 + 1)], [], h1)) else some (some (vi x3), h)) := (ev_rc [6] 120 _).trans rfl
set_option maxRecDepth 100000 in
set_option maxHeartbeats 400000 in
/-- IllLight$Sea.spread(JJ)J -/
theorem E_X6_spread (h : PH) (a : Int64) (b : Int64) : pm_ev (92, 0, [vl a, none, vl b, none, none, none], [], h) = some (some (vl ((((a ||| (((a &&& 9187201950435737471) <<< ((1 : Int32).toInt64 &&& 63)) ||| (((a &&& (-72340172838076674)).toUInt64 >>> ((1 : Int32).toInt64.toUInt64 &&& Int64.toUInt64 63)).toInt64))) ||| (a <<< ((8 : Int32).toInt64 &&& 63))) ||| ((a.toUInt64 >>> ((8 : Int32).toInt64.toUInt64 &&& Int64.toUInt64 63)).toInt64)) &&& b)), h) := (ev_rc [] 120 _).trans rfl
set_option maxRecDepth 100000 in
set_option maxHeartbeats 400000 in
/-- IllLight$Sea.around(IIJ)J -/
theorem E_X6_around (h : PH) (a : Int32) (b : Int32) (c : Int64) : pm_ev (93, 0, [vi a, vi b, vl c, none, none, none, none], [], h) = pm_ev (93, 8, [none, vi b, vl c, none, vl ((1 : Int64) <<< (a.toInt64 &&& 63)), none, vi 0], [], h) := (ev_rc [8] 120 _).trans rfl
set_option maxRecDepth 100000 in
set_option maxHeartbeats 400000 in
/-- IllLight$Sea.around(IIJ)J -/
theorem E_X6_around_8 (h : PH) (x1 : Int32) (y2 : Int64) (y4 : Int64) (x6 : Int32) : pm_ev (93, 8, [none, vi x1, vl y2, none, vl y4, none, vi x6], [], h) = (if x6 < x1 then (pm_bL (pm_ev (92, 0, [vl y4, none, vl y2, none, none, none], [], h)) fun l2 h1 => pm_ev (93, 8, [none, vi x1, vl y2, none, vl l2, none, vi (x6 + 1)], [], h1)) else some (some (vl y4), h)) := (ev_rc [8] 120 _).trans rfl
set_option maxRecDepth 100000 in
set_option maxHeartbeats 400000 in
/-- IllLight$Sea.chart(LIllLight$Coast;II)V -/
theorem E_X6_chart (h : PH) (a : Nat) (b : Int32) (c : Int32) : pm_ev (94, 0, [vr 5 0, vr 0 a, vi b, vi c], [], h) = (pm_bL (pm_ev (10, 0, [vr 0 a, none, none, none, none, none], [], h)) fun l2 h1 => (pm_bL (pm_ev (11, 0, [vr 0 a, none, none, none, none, none], [], (pm_sL h1 5 0 0 l2))) fun l4 h3 => (pm_bI (pm_ev (5, 0, [vr 0 a, vi b], [], (pm_sL (pm_sL h3 5 0 1 (((pm_sL h1 5 0 0 l2).2 5 0 0) &&& (l4 ^^^ (-1)))) 5 0 2 ((h3.2 5 0 0) &&& ((h3.2 0 a 4) ^^^ (-1)))))) fun r6 h5 => (if r6 = 0 then pm_ev (94, 66, [vr 5 0, none, none, vi c], [], (pm_sL h5 5 0 3 0)) else (if pm_inb b 4 = true then pm_ev (94, 66, [vr 5 0, none, none, vi c], [], (pm_sL h5 5 0 3 ((1 : Int64) <<< ((h5.1 12 a b.toNatClampNeg).toInt64 &&& 63)))) else none))))) := (ev_rc [66] 120 _).trans rfl
set_option maxRecDepth 100000 in
set_option maxHeartbeats 400000 in
/-- IllLight$Sea.chart(LIllLight$Coast;II)V -/
theorem E_X6_chart_66 (h : PH) (x3 : Int32) : pm_ev (94, 66, [vr 5 0, none, none, vi x3], [], h) = some (none, (pm_sL h 5 0 4 ((1 : Int64) <<< (x3.toInt64 &&& 63)))) := (ev_rc [66] 120 _).trans rfl
set_option maxRecDepth 100000 in
set_option maxHeartbeats 400000 in
/-- IllLight$Sea.afterHour(JII)J -/
theorem E_X6_afterHour (h : PH) (a : Int64) (b : Int32) (c : Int32) : pm_ev (95, 0, [vr 5 0, vl a, none, vi b, vi c, none], [], h) = (if (b >>> ((c - c / 24 * 24) &&& 31)) &&& 1 = 0 then (pm_bL (pm_ev (92, 0, [vl a, none, vl (h.2 5 0 0), none, none, none], [], h)) fun l2 h1 => some (some (vl (l2 &&& (h1.2 5 0 2))), h1)) else (pm_bL (pm_ev (92, 0, [vl a, none, vl (h.2 5 0 0), none, none, none], [], h)) fun l4 h3 => some (some (vl (l4 &&& (h3.2 5 0 1))), h3))) := (ev_rc [] 120 _).trans rfl
set_option maxRecDepth 100000 in
set_option maxHeartbeats 400000 in
/-- IllLight$Sea.fewest(III)I -/
theorem E_X6_fewest (h : PH) (a : Int32) (b : Int32) (c : Int32) : pm_ev (96, 0, [vr 5 0, vi a, vi b, vi c, none, none, none], [], h) = pm_ev (96, 9, [vr 5 0, vi a, vi b, vi c, vl (h.2 5 0 3), none, vi 0], [], h) := (ev_rc [9] 120 _).trans rfl
set_option maxRecDepth 100000 in
set_option maxHeartbeats 400000 in
/-- IllLight$Sea.fewest(III)I -/
theorem E_X6_fewest_9 (h : PH) (x1 : Int32) (x2 : Int32) (x3 : Int32) (y4 : Int64) (x6 : Int32) : pm_ev (96, 9, [vr 5 0, vi x1, vi x2, vi x3, vl y4, none, vi x6], [], h) = (if x3 < x6 then some (some (vi (-1)), h) else (if lg_cmp y4 0 = 0 then some (some (vi (-1)), h) else (if lg_cmp (y4 &&& (h.2 5 0 4)) 0 = 0 then (pm_bL (pm_ev (95, 0, [vr 5 0, vl y4, none, vi x1, vi (x2 + x6), none], [], h)) fun l2 h1 => pm_ev (96, 9, [vr 5 0, vi x1, vi x2, vi x3, vl l2, none, vi (x6 + 1)], [], h1)) else some (some (vi x6), h)))) := (ev_rc [9] 120 _).trans rfl
set_option maxRecDepth 100000 in
set_option maxHeartbeats 400000 in
/-- IllLight$Sea.comes(III)Z -/
theorem E_X6_comes (h : PH) (a : Int32) (b : Int32) (c : Int32) : pm_ev (97, 0, [vr 5 0, vi a, vi b, vi c], [], h) = (pm_bI (pm_ev (96, 0, [vr 5 0, vi a, vi b, vi c, none, none, none], [], h)) fun r2 h1 => (if r2 = (-1) then some (some (vi 0), h1) else some (some (vi 1), h1))) := (ev_rc [] 120 _).trans rfl
set_option maxRecDepth 100000 in
set_option maxHeartbeats 400000 in
/-- IllLight$Sea.reached(II)I -/
theorem E_X6_reached (h : PH) (a : Int32) (b : Int32) : pm_ev (98, 0, [vr 5 0, vi a, vi b, none, none, none, none, none], [], h) = pm_ev (98, 14, [vr 5 0, vi a, vi b, vl (h.2 5 0 3), none, vl (h.2 5 0 3), none, vi 0], [], h) := (ev_rc [14] 120 _).trans rfl
set_option maxRecDepth 100000 in
set_option maxHeartbeats 400000 in
/-- IllLight$Sea.reached(II)I -/
theorem E_X6_reached_14 (h : PH) (x1 : Int32) (x2 : Int32) (y3 : Int64) (y5 : Int64) (x7 : Int32) : pm_ev (98, 14, [vr 5 0, vi x1, vi x2, vl y3, none, vl y5, none, vi x7], [], h) = (if x7 < x2 then (if lg_cmp y3 0 = 0 then (pm_bI (pm_ev (268, 0, [vl y5, none], [], h)) fun r2 h1 => some (some (vi r2), h1)) else (pm_bL (pm_ev (95, 0, [vr 5 0, vl y3, none, vi x1, vi x7, none], [], h)) fun l4 h3 => pm_ev (98, 14, [vr 5 0, vi x1, vi x2, vl l4, none, vl (y5 ||| l4), none, vi (x7 + 1)], [], h3))) else (pm_bI (pm_ev (268, 0, [vl y5, none], [], h)) fun r6 h5 => some (some (vi r6), h5))) := (ev_rc [14] 120 _).trans rfl
set_option maxRecDepth 100000 in
set_option maxHeartbeats 400000 in
/-- IllLight$Sea.thereAndBack(II)I -/
theorem E_X6_thereAndBack (h : PH) (a : Int32) (b : Int32) : pm_ev (99, 0, [vr 5 0, vi a, vi b, none, none, none, none, none], [], h) = pm_ev (99, 19, [vr 5 0, vi a, vi b, vl (h.2 5 0 3), none, vl ((h.2 5 0 3) &&& (h.2 5 0 4)), none, vi 0], [], h) := (ev_rc [19] 120 _).trans rfl
set_option maxRecDepth 100000 in
set_option maxHeartbeats 400000 in
/-- IllLight$Sea.thereAndBack(II)I -/
theorem E_X6_thereAndBack_19 (h : PH) (x1 : Int32) (x2 : Int32) (y3 : Int64) (y5 : Int64) (x7 : Int32) : pm_ev (99, 19, [vr 5 0, vi x1, vi x2, vl y3, none, vl y5, none, vi x7], [], h) = (if x2 < x7 then some (some (vi (-1)), h) else (if lg_cmp y3 0 = 0 then some (some (vi (-1)), h) else (if lg_cmp (y5 &&& (h.2 5 0 3)) 0 = 0 then (pm_bL (pm_ev (95, 0, [vr 5 0, vl y3, none, vi x1, vi x7, none], [], h)) fun l2 h1 => (pm_bL (pm_ev (95, 0, [vr 5 0, vl y5, none, vi x1, vi x7, none], [], h1)) fun l4 h3 => pm_ev (99, 19, [vr 5 0, vi x1, vi x2, vl l2, none, vl (l4 ||| (l2 &&& (h3.2 5 0 4))), none, vi (x7 + 1)], [], h3))) else some (some (vi x7), h)))) := (ev_rc [19] 120 _).trans rfl
set_option maxRecDepth 100000 in
set_option maxHeartbeats 400000 in
/-- IllLight$Sea.look(LIllLight$Coast;I)V -/
theorem E_X6_look (h : PH) (a : Nat) (b : Int32) : pm_ev (100, 0, [vr 5 0, vr 0 a, vi b, none], [], h) = (pm_bL (pm_ev (10, 0, [vr 0 a, none, none, none, none, none], [], h)) fun l2 h1 => (pm_bI (pm_ev (7, 0, [vr 0 a], [], (pm_sL h1 5 0 0 l2))) fun r4 h3 => pm_ev (100, 26, [vr 5 0, vr 0 a, vi b, vi 0], [], (pm_sI h3 5 0 5 (if (64 : Int32) < r4 then 64 else r4))))) := (ev_rc [26, 53] 120 _).trans rfl
set_option maxRecDepth 100000 in
set_option maxHeartbeats 400000 in
/-- IllLight$Sea.look(LIllLight$Coast;I)V -/
theorem E_X6_look_26 (h : PH) (q1 : Nat) (x2 : Int32) (x3 : Int32) : pm_ev (100, 26, [vr 5 0, vr 0 q1, vi x2, vi x3], [], h) = (if x3 < h.1 5 0 5 then (pm_bI (pm_ev (8, 0, [vr 0 q1, vi x3], [], h)) fun r6 h5 => (pm_bL (pm_ev (93, 0, [vi r6, vi x2, vl (h5.2 5 0 0), none, none, none, none], [], h5)) fun l8 h7 => (if pm_inb x3 64 = true then pm_ev (100, 53, [vr 5 0, vr 0 q1, vi x2, vi x3], [], (pm_sL h7 25 0 x3.toNatClampNeg l8)) else none))) else some (none, h)) := (ev_rc [26, 53] 120 _).trans rfl
set_option maxRecDepth 100000 in
set_option maxHeartbeats 400000 in
/-- IllLight$Sea.look(LIllLight$Coast;I)V -/
theorem E_X6_look_53 (h : PH) (q1 : Nat) (x2 : Int32) (x3 : Int32) : pm_ev (100, 53, [vr 5 0, vr 0 q1, vi x2, vi x3], [], h) = pm_ev (100, 26, [vr 5 0, vr 0 q1, vi x2, vi (x3 + 1)], [], h) := (ev_rc [26, 53] 120 _).trans rfl
set_option maxRecDepth 100000 in
set_option maxHeartbeats 400000 in
/-- IllLight$Sea.bestFor(J)I -/
theorem E_X6_bestFor (h : PH) (a : Int64) : pm_ev (101, 0, [vr 5 0, vl a, none, none, none], [], h) = pm_ev (101, 5, [vr 5 0, vl a, none, vi 0, vi 1], [], h) := (ev_rc [5] 120 _).trans rfl
set_option maxRecDepth 100000 in
set_option maxHeartbeats 400000 in
/-- IllLight$Sea.bestFor(J)I -/
theorem E_X6_bestFor_5 (h : PH) (y1 : Int64) (x3 : Int32) (x4 : Int32) : pm_ev (101, 5, [vr 5 0, vl y1, none, vi x3, vi x4], [], h) = (if x4 < h.1 5 0 5 then (if pm_inb x4 64 = true then (pm_bI (pm_ev (268, 0, [vl ((h.2 25 0 x4.toNatClampNeg) &&& y1), none], [], h)) fun r2 h1 => (if pm_inb x3 64 = true then (pm_bI (pm_ev (268, 0, [vl ((h1.2 25 0 x3.toNatClampNeg) &&& y1), none], [], h1)) fun r4 h3 => (if r4 < r2 then pm_ev (101, 5, [vr 5 0, vl y1, none, vi x4, vi (x4 + 1)], [], h3) else pm_ev (101, 5, [vr 5 0, vl y1, none, vi x3, vi (x4 + 1)], [], h3))) else none)) else none) else some (some (vi x3), h)) := (ev_rc [5] 120 _).trans rfl
set_option maxRecDepth 100000 in
set_option maxHeartbeats 400000 in
/-- IllLight$Sea.bestPair()I -/
theorem E_X6_bestPair (h : PH)  : pm_ev (102, 0, [vr 5 0, none, none, none, none, none], [], h) = pm_ev (102, 6, [vr 5 0, vi 1, vi 0, vi 0, none, none], [], h) := (ev_rc [6, 19, 34, 41] 120 _).trans rfl
set_option maxRecDepth 100000 in
set_option maxHeartbeats 400000 in
/-- IllLight$Sea.bestPair()I -/
theorem E_X6_bestPair_6 (h : PH) (x1 : Int32) (x2 : Int32) (x3 : Int32) : pm_ev (102, 6, [vr 5 0, vi x1, vi x2, vi x3, none, none], [], h) = (if x3 < h.1 5 0 5 then pm_ev (102, 19, [vr 5 0, vi x1, vi x2, vi x3, vi (x3 + 1), none], [], h) else some (some (vi x1), h)) := (ev_rc [6, 19, 34, 41] 120 _).trans rfl
set_option maxRecDepth 100000 in
set_option maxHeartbeats 400000 in
/-- IllLight$Sea.bestPair()I -/
theorem E_X6_bestPair_19 (h : PH) (x1 : Int32) (x2 : Int32) (x3 : Int32) (x4 : Int32) : pm_ev (102, 19, [vr 5 0, vi x1, vi x2, vi x3, vi x4, none], [], h) = (if x4 < h.1 5 0 5 then (if pm_inb x3 64 = true then pm_ev (102, 34, [vr 5 0, vi x1, vi x2, vi x3, vi x4, none], [vl (h.2 25 0 x3.toNatClampNeg)], h) else none) else pm_ev (102, 6, [vr 5 0, vi x1, vi x2, vi (x3 + 1), none, none], [], h)) := (ev_rc [6, 19, 34, 41] 120 _).trans rfl
set_option maxRecDepth 100000 in
set_option maxHeartbeats 400000 in
/-- IllLight$Sea.bestPair()I -/
theorem E_X6_bestPair_34 (h : PH) (x1 : Int32) (x2 : Int32) (x3 : Int32) (x4 : Int32) (s0 : Int64) : pm_ev (102, 34, [vr 5 0, vi x1, vi x2, vi x3, vi x4, none], [vl s0], h) = (if pm_inb x4 64 = true then pm_ev (102, 41, [vr 5 0, vi x1, vi x2, vi x3, vi x4, none], [vl (h.2 25 0 x4.toNatClampNeg), vl s0], h) else none) := (ev_rc [6, 19, 34, 41] 120 _).trans rfl
set_option maxRecDepth 100000 in
set_option maxHeartbeats 400000 in
/-- IllLight$Sea.bestPair()I -/
theorem E_X6_bestPair_41 (h : PH) (x1 : Int32) (x2 : Int32) (x3 : Int32) (x4 : Int32) (s0 : Int64) (s1 : Int64) : pm_ev (102, 41, [vr 5 0, vi x1, vi x2, vi x3, vi x4, none], [vl s0, vl s1], h) = (pm_bI (pm_ev (268, 0, [vl (s1 ||| s0), none], [], h)) fun r2 h1 => (if x2 < r2 then pm_ev (102, 19, [vr 5 0, vi ((64 * x3) + x4), vi r2, vi x3, vi (x4 + 1), none], [], h1) else pm_ev (102, 19, [vr 5 0, vi x1, vi x2, vi x3, vi (x4 + 1), none], [], h1))) := (ev_rc [6, 19, 34, 41] 120 _).trans rfl
set_option maxRecDepth 100000 in
set_option maxHeartbeats 400000 in
/-- IllLight$Sea.seenByBoth(I)I -/
theorem E_X6_seenByBoth (h : PH) (a : Int32) : pm_ev (103, 0, [vr 5 0, vi a, none, none], [], h) = pm_ev (103, 10, [vr 5 0, vi a, vi (a / 64), vi (a - a / 64 * 64)], [], h) := (ev_rc [10, 34, 44, 50, 54] 120 _).trans rfl
set_option maxRecDepth 100000 in
set_option maxHeartbeats 400000 in
/-- IllLight$Sea.seenByBoth(I)I -/
theorem E_X6_seenByBoth_10 (h : PH) (x1 : Int32) (x2 : Int32) (x3 : Int32) : pm_ev (103, 10, [vr 5 0, vi x1, vi x2, vi x3], [], h) = (if x2 < 0 then pm_ev (103, 34, [none, none, none, none], [], h) else (if x3 < 0 then pm_ev (103, 34, [none, none, none, none], [], h) else (if x2 < h.1 5 0 5 then (if x3 < h.1 5 0 5 then (if pm_inb x2 64 = true then pm_ev (103, 44, [vr 5 0, none, vi x2, vi x3], [vl (h.2 25 0 x2.toNatClampNeg)], h) else none) else pm_ev (103, 34, [none, none, none, none], [], h)) else pm_ev (103, 34, [none, none, none, none], [], h)))) := (ev_rc [10, 34, 44, 50, 54] 120 _).trans rfl
set_option maxRecDepth 100000 in
set_option maxHeartbeats 400000 in
/-- IllLight$Sea.seenByBoth(I)I -/
theorem E_X6_seenByBoth_34 (h : PH)  : pm_ev (103, 34, [none, none, none, none], [], h) = pm_ev (103, 54, [none, none, none, none], [vi 0], h) := (ev_rc [10, 34, 44, 50, 54] 120 _).trans rfl
set_option maxRecDepth 100000 in
set_option maxHeartbeats 400000 in
/-- IllLight$Sea.seenByBoth(I)I -/
theorem E_X6_seenByBoth_44 (h : PH) (x2 : Int32) (x3 : Int32) (s0 : Int64) : pm_ev (103, 44, [vr 5 0, none, vi x2, vi x3], [vl s0], h) = (if pm_inb x3 64 = true then pm_ev (103, 50, [vr 5 0, none, vi x2, vi x3], [vl (h.2 25 0 x3.toNatClampNeg), vl s0], h) else none) := (ev_rc [10, 34, 44, 50, 54] 120 _).trans rfl
set_option maxRecDepth 100000 in
set_option maxHeartbeats 400000 in
/-- IllLight$Sea.seenByBoth(I)I -/
theorem E_X6_seenByBoth_54 (h : PH) (s0 : Int32) : pm_ev (103, 54, [none, none, none, none], [vi s0], h) = some (some (vi s0), h) := (ev_rc [10, 34, 44, 50, 54] 120 _).trans rfl
set_option maxRecDepth 100000 in
set_option maxHeartbeats 400000 in
/-- IllLight$Sea.seenByBoth(I)I -/
theorem E_X6_seenByBoth_50 (h : PH) (x2 : Int32) (x3 : Int32) (s0 : Int64) (s1 : Int64) : pm_ev (103, 50, [vr 5 0, none, vi x2, vi x3], [vl s0, vl s1], h) = (pm_bI (pm_ev (268, 0, [vl (s1 ||| s0), none], [], h)) fun r2 h1 => pm_ev (103, 54, [none, none, none, none], [vi r2], h1)) := (ev_rc [10, 34, 44, 50, 54] 120 _).trans rfl
set_option maxRecDepth 100000 in
set_option maxHeartbeats 400000 in
/-- IllLight$Told.held(I)I -/
theorem E_X7_held (h : PH) (o : Nat) (a : Int32) : pm_ev (104, 0, [vr 6 o, vi a], [], h) = (if a < 0 then some (some (vi (-2)), h) else (if a < 3 then (if pm_inb a 3 = true then some (some (vi (h.1 27 o a.toNatClampNeg)), h) else none) else some (some (vi (-2)), h))) := (ev_rc [] 120 _).trans rfl
set_option maxRecDepth 100000 in
set_option maxHeartbeats 400000 in
/-- IllLight$Told.put(I)V -/
theorem E_X7_put (h : PH) (o : Nat) (a : Int32) : pm_ev (105, 0, [vr 6 o, vi a, none], [], h) = pm_ev (105, 3, [vr 6 o, vi a, vi 24], [], h) := (ev_rc [3, 33] 120 _).trans rfl
set_option maxRecDepth 100000 in
set_option maxHeartbeats 400000 in
/-- IllLight$Told.put(I)V -/
theorem E_X7_put_3 (h : PH) (q0 : Nat) (x1 : Int32) (x2 : Int32) : pm_ev (105, 3, [vr 6 q0, vi x1, vi x2], [], h) = (if x2 < 0 then some (none, h) else (if h.1 6 q0 1 < 600 then (if pm_inb (h.1 6 q0 1) 600 = true then pm_ev (105, 33, [vr 6 q0, vi x1, vi x2], [], (pm_sI h 26 q0 ((h.1 6 q0 1).toNatClampNeg) (((x1.toUInt32 >>> (x2.toUInt32 &&& Int32.toUInt32 31)).toInt32) &&& 255))) else none) else some (none, h))) := (ev_rc [3, 33] 120 _).trans rfl
set_option maxRecDepth 100000 in
set_option maxHeartbeats 400000 in
/-- IllLight$Told.put(I)V -/
theorem E_X7_put_33 (h : PH) (q0 : Nat) (x1 : Int32) (x2 : Int32) : pm_ev (105, 33, [vr 6 q0, vi x1, vi x2], [], h) = pm_ev (105, 3, [vr 6 q0, vi x1, vi (x2 + (-8))], [], (pm_sI h 6 q0 1 ((h.1 6 q0 1) + 1))) := (ev_rc [3, 33] 120 _).trans rfl
set_option maxRecDepth 100000 in
set_option maxHeartbeats 400000 in
/-- IllLight$Told.take(LIllLight$Reader;II)V -/
theorem E_X7_take (h : PH) (o : Nat) (b : Int32) (c : Int32) : pm_ev (106, 0, [vr 6 o, vr 4 0, vi b, vi c], [], h) = (if c < 0 then pm_ev (106, 19, [none, none, none, none], [], h) else (if c < 2 then (pm_bI (pm_ev (104, 0, [vr 6 o, vi b], [], h)) fun r2 h1 => (if r2 = (-2) then pm_ev (106, 19, [none, none, none, none], [], h1) else pm_ev (106, 20, [vr 6 o, vr 4 0, vi b, vi c], [], h1))) else pm_ev (106, 19, [none, none, none, none], [], h))) := (ev_rc [19, 20, 40, 61, 74] 120 _).trans rfl
set_option maxRecDepth 100000 in
set_option maxHeartbeats 400000 in
/-- IllLight$Told.take(LIllLight$Reader;II)V -/
theorem E_X7_take_19 (h : PH)  : pm_ev (106, 19, [none, none, none, none], [], h) = some (none, h) := (ev_rc [19, 20, 40, 61, 74] 120 _).trans rfl
set_option maxRecDepth 100000 in
set_option maxHeartbeats 400000 in
/-- IllLight$Told.take(LIllLight$Reader;II)V -/
theorem E_X7_take_20 (h : PH) (q0 : Nat) (x2 : Int32) (x3 : Int32) : pm_ev (106, 20, [vr 6 q0, vr 4 0, vi x2, vi x3], [], h) = (if x2 = 0 then (if pm_inb x3 2 = true then (pm_bV (pm_ev (1, 0, [vr 0 (x3.toNatClampNeg + (2 * q0 + 0)), vr 0 8], [], h)) fun h3 => pm_ev (106, 74, [vr 6 q0, none, vi x2, vi x3], [], h3)) else none) else pm_ev (106, 40, [vr 6 q0, vr 4 0, vi x2, vi x3], [], h)) := (ev_rc [19, 20, 40, 61, 74] 120 _).trans rfl
set_option maxRecDepth 100000 in
set_option maxHeartbeats 400000 in
/-- IllLight$Told.take(LIllLight$Reader;II)V -/
theorem E_X7_take_74 (h : PH) (q0 : Nat) (x2 : Int32) (x3 : Int32) : pm_ev (106, 74, [vr 6 q0, none, vi x2, vi x3], [], h) = (if pm_inb x2 3 = true then (if pm_inb x2 3 = true then some (none, (pm_sI h 27 q0 x2.toNatClampNeg (if h.1 27 q0 x2.toNatClampNeg < x3 + 1 then x3 + 1 else h.1 27 q0 x2.toNatClampNeg))) else none) else none) := (ev_rc [19, 20, 40, 61, 74] 120 _).trans rfl
set_option maxRecDepth 100000 in
set_option maxHeartbeats 400000 in
/-- IllLight$Told.take(LIllLight$Reader;II)V -/
theorem E_X7_take_40 (h : PH) (q0 : Nat) (x2 : Int32) (x3 : Int32) : pm_ev (106, 40, [vr 6 q0, vr 4 0, vi x2, vi x3], [], h) = (if x2 = 1 then (if pm_inb x3 2 = true then (pm_bV (pm_ev (62, 0, [vr 3 (x3.toNatClampNeg + (2 * q0 + 0)), vr 3 8], [], h)) fun h4 => pm_ev (106, 74, [vr 6 q0, none, vi x2, vi x3], [], h4)) else none) else pm_ev (106, 61, [vr 6 q0, vr 4 0, vi x2, vi x3], [], h)) := (ev_rc [19, 20, 40, 61, 74] 120 _).trans rfl
set_option maxRecDepth 100000 in
set_option maxHeartbeats 400000 in
/-- IllLight$Told.take(LIllLight$Reader;II)V -/
theorem E_X7_take_61 (h : PH) (q0 : Nat) (x2 : Int32) (x3 : Int32) : pm_ev (106, 61, [vr 6 q0, vr 4 0, vi x2, vi x3], [], h) = (if pm_inb x3 2 = true then (pm_bV (pm_ev (44, 0, [vr 2 (x3.toNatClampNeg + (2 * q0 + 0)), vr 2 8], [], h)) fun h5 => pm_ev (106, 74, [vr 6 q0, none, vi x2, vi x3], [], h5)) else none) := (ev_rc [19, 20, 40, 61, 74] 120 _).trans rfl
set_option maxRecDepth 100000 in
set_option maxHeartbeats 400000 in
/-- IllLight$Told.copyFrom(LIllLight$Told;)V -/
theorem E_X7_copyFrom (h : PH) (o : Nat) (a : Nat) : pm_ev (107, 0, [vr 6 o, vr 6 a, none], [], h) = pm_ev (107, 16, [vr 6 o, vr 6 a, none], [], (pm_cp h 26 a ((0 : Int32).toNatClampNeg) 26 o ((0 : Int32).toNatClampNeg) ((600 : Int32).toNatClampNeg))) := (ev_rc [16, 58, 60] 120 _).trans rfl
set_option maxRecDepth 100000 in
set_option maxHeartbeats 400000 in
/-- IllLight$Told.copyFrom(LIllLight$Told;)V -/
theorem E_X7_copyFrom_16 (h : PH) (q0 : Nat) (q1 : Nat) : pm_ev (107, 16, [vr 6 q0, vr 6 q1, none], [], h) = pm_ev (107, 58, [vr 6 q0, vr 6 q1, none], [], (pm_cp (pm_sI (pm_sI (pm_sI h 6 q0 1 (h.1 6 q1 1)) 6 q0 2 (h.1 6 q1 2)) 6 q0 3 (h.1 6 q1 3)) 27 q1 ((0 : Int32).toNatClampNeg) 27 q0 ((0 : Int32).toNatClampNeg) ((3 : Int32).toNatClampNeg))) := (ev_rc [16, 58, 60] 120 _).trans rfl
set_option maxRecDepth 100000 in
set_option maxHeartbeats 400000 in
/-- IllLight$Told.copyFrom(LIllLight$Told;)V -/
theorem E_X7_copyFrom_58 (h : PH) (q0 : Nat) (q1 : Nat) : pm_ev (107, 58, [vr 6 q0, vr 6 q1, none], [], h) = pm_ev (107, 60, [vr 6 q0, vr 6 q1, vi 0], [], h) := (ev_rc [16, 58, 60] 120 _).trans rfl
set_option maxRecDepth 100000 in
set_option maxHeartbeats 400000 in
/-- IllLight$Told.copyFrom(LIllLight$Told;)V -/
theorem E_X7_copyFrom_60 (h : PH) (q0 : Nat) (q1 : Nat) (x2 : Int32) : pm_ev (107, 60, [vr 6 q0, vr 6 q1, vi x2], [], h) = (if x2 < 2 then (if pm_inb x2 2 = true then (if pm_inb x2 2 = true then (pm_bV (pm_ev (1, 0, [vr 0 (x2.toNatClampNeg + (2 * q0 + 0)), vr 0 (x2.toNatClampNeg + (2 * q1 + 0))], [], h)) fun h1 => (if pm_inb x2 2 = true then (if pm_inb x2 2 = true then (pm_bV (pm_ev (62, 0, [vr 3 (x2.toNatClampNeg + (2 * q0 + 0)), vr 3 (x2.toNatClampNeg + (2 * q1 + 0))], [], h1)) fun h2 => (if pm_inb x2 2 = true then (if pm_inb x2 2 = true then (pm_bV (pm_ev (44, 0, [vr 2 (x2.toNatClampNeg + (2 * q0 + 0)), vr 2 (x2.toNatClampNeg + (2 * q1 + 0))], [], h2)) fun h3 => pm_ev (107, 60, [vr 6 q0, vr 6 q1, vi (x2 + 1)], [], h3)) else none) else none)) else none) else none)) else none) else none) else some (none, h)) := (ev_rc [16, 58, 60] 120 _).trans rfl
