set_option maxRecDepth 100000 in
set_option maxHeartbeats 400000 in
/-- IllLight.feed(IIIII)I -/
theorem E_X8_feed (h : PH) (a : Int32) (b : Int32) (c : Int32) (d : Int32) (e : Int32) : pm_ev (108, 0, [vr 7 0, vi a, vi b, vi c, vi d, vi e], [], h) = (if (600 : Int32) < (h.1 6 0 1) + 20 then some (some (vi (-1)), h) else (pm_bV (pm_ev (105, 0, [vr 6 0, vi a, none], [], h)) fun h1 => (pm_bV (pm_ev (105, 0, [vr 6 0, vi b, none], [], h1)) fun h2 => (pm_bV (pm_ev (105, 0, [vr 6 0, vi c, none], [], h2)) fun h3 => (pm_bV (pm_ev (105, 0, [vr 6 0, vi d, none], [], h3)) fun h4 => pm_ev (108, 51, [vr 7 0, vi a, vi b, vi c, vi d, vi e], [], h4)))))) := (ev_rc [51] 120 _).trans rfl
set_option maxRecDepth 100000 in
set_option maxHeartbeats 400000 in
/-- IllLight.feed(IIIII)I -/
theorem E_X8_feed_51 (h : PH) (x1 : Int32) (x2 : Int32) (x3 : Int32) (x4 : Int32) (x5 : Int32) : pm_ev (108, 51, [vr 7 0, vi x1, vi x2, vi x3, vi x4, vi x5], [], h) = (pm_bV (pm_ev (105, 0, [vr 6 0, vi x5, none], [], h)) fun h5 => some (some (vi (h5.1 6 0 1)), h5)) := (ev_rc [51] 120 _).trans rfl
set_option maxRecDepth 100000 in
set_option maxHeartbeats 400000 in
/-- IllLight.end(I)I -/
theorem E_X8_end (h : PH) (a : Int32) : pm_ev (109, 0, [vr 7 0, vi a], [], h) = (if a < 0 then some (some (vi (-1)), h) else (if h.1 6 0 1 < a then some (some (vi (-1)), h) else some (some (vi a), (pm_sI h 6 0 1 a)))) := (ev_rc [] 120 _).trans rfl
set_option maxRecDepth 100000 in
set_option maxHeartbeats 400000 in
/-- IllLight.text(II)I -/
theorem E_X8_text (h : PH) (a : Int32) (b : Int32) : pm_ev (110, 0, [vr 7 0, vi a, vi b, none, none, none, none], [], h) = (pm_bI (pm_ev (104, 0, [vr 6 0, vi a], [], (pm_sI (pm_sI (pm_sI h 6 0 2 0) 6 0 3 (-1)) 6 0 1 0))) fun r2 h1 => (if b = (-1) then (if r2 = (-2) then pm_ev (110, 85, [none, none, none, none, none, none, none], [], h1) else pm_ev (110, 66, [vr 7 0, vi a, vi b, vi (h.1 6 0 1), vi r2, vi 1, none], [], h1)) else (if r2 = (-2) then pm_ev (110, 85, [none, none, none, none, none, none, none], [], h1) else (if b < 0 then pm_ev (110, 85, [none, none, none, none, none, none, none], [], h1) else pm_ev (110, 79, [vr 7 0, vi a, vi b, vi (h.1 6 0 1), vi r2, vi 0, none], [], h1))))) := (ev_rc [66, 79, 85, 157, 171] 120 _).trans rfl
set_option maxRecDepth 100000 in
set_option maxHeartbeats 400000 in
/-- IllLight.text(II)I -/
theorem E_X8_text_85 (h : PH)  : pm_ev (110, 85, [none, none, none, none, none, none, none], [], h) = some (some (vi (-2)), h) := (ev_rc [66, 79, 85, 157, 171] 120 _).trans rfl
set_option maxRecDepth 100000 in
set_option maxHeartbeats 400000 in
/-- IllLight.text(II)I -/
theorem E_X8_text_66 (h : PH) (x1 : Int32) (x2 : Int32) (x3 : Int32) (x4 : Int32) (x5 : Int32) : pm_ev (110, 66, [vr 7 0, vi x1, vi x2, vi x3, vi x4, vi x5, none], [], h) = (if x4 < 2 then (pm_bV (pm_ev (64, 0, [vr 4 0, vr 26 0, vi x3, vi x1, none], [], h)) fun h3 => (if h3.1 4 0 3 = 0 then (if x5 = 0 then pm_ev (110, 157, [vr 7 0, vi x1, none, none, none, none, vi x2], [], (pm_sI (pm_sI h3 6 0 2 (h3.1 4 0 3)) 6 0 3 (h3.1 4 0 4))) else pm_ev (110, 157, [vr 7 0, vi x1, none, none, none, none, vi x4], [], (pm_sI (pm_sI h3 6 0 2 (h3.1 4 0 3)) 6 0 3 (h3.1 4 0 4)))) else some (some (vi (-1)), (pm_sI (pm_sI h3 6 0 2 (h3.1 4 0 3)) 6 0 3 (h3.1 4 0 4))))) else pm_ev (110, 85, [none, none, none, none, none, none, none], [], h)) := (ev_rc [66, 79, 85, 157, 171] 120 _).trans rfl
set_option maxRecDepth 100000 in
set_option maxHeartbeats 400000 in
/-- IllLight.text(II)I -/
theorem E_X8_text_79 (h : PH) (x1 : Int32) (x2 : Int32) (x3 : Int32) (x4 : Int32) (x5 : Int32) : pm_ev (110, 79, [vr 7 0, vi x1, vi x2, vi x3, vi x4, vi x5, none], [], h) = (if x2 < x4 then (pm_bV (pm_ev (64, 0, [vr 4 0, vr 26 0, vi x3, vi x1, none], [], h)) fun h4 => (if h4.1 4 0 3 = 0 then (if x5 = 0 then pm_ev (110, 157, [vr 7 0, vi x1, none, none, none, none, vi x2], [], (pm_sI (pm_sI h4 6 0 2 (h4.1 4 0 3)) 6 0 3 (h4.1 4 0 4))) else pm_ev (110, 157, [vr 7 0, vi x1, none, none, none, none, vi x4], [], (pm_sI (pm_sI h4 6 0 2 (h4.1 4 0 3)) 6 0 3 (h4.1 4 0 4)))) else some (some (vi (-1)), (pm_sI (pm_sI h4 6 0 2 (h4.1 4 0 3)) 6 0 3 (h4.1 4 0 4))))) else pm_ev (110, 85, [none, none, none, none, none, none, none], [], h)) := (ev_rc [66, 79, 85, 157, 171] 120 _).trans rfl
set_option maxRecDepth 100000 in
set_option maxHeartbeats 400000 in
/-- IllLight.text(II)I -/
theorem E_X8_text_157 (h : PH) (x1 : Int32) (x6 : Int32) : pm_ev (110, 157, [vr 7 0, vi x1, none, none, none, none, vi x6], [], h) = (pm_bV (pm_ev (106, 0, [vr 6 0, vr 4 0, vi x1, vi x6], [], h)) fun h5 => pm_ev (110, 171, [vr 7 0, vi x1, none, none, none, none, vi x6], [], h5)) := (ev_rc [66, 79, 85, 157, 171] 120 _).trans rfl
set_option maxRecDepth 100000 in
set_option maxHeartbeats 400000 in
/-- IllLight.text(II)I -/
theorem E_X8_text_171 (h : PH) (x1 : Int32) (x6 : Int32) : pm_ev (110, 171, [vr 7 0, vi x1, none, none, none, none, vi x6], [], h) = some (some (vi x6), h) := (ev_rc [66, 79, 85, 157, 171] 120 _).trans rfl
set_option maxRecDepth 100000 in
set_option maxHeartbeats 400000 in
/-- IllLight.fault(I)I -/
theorem E_X8_fault (h : PH) (a : Int32) : pm_ev (111, 0, [vr 7 0, vi a], [], h) = (if a = 0 then some (some (vi (h.1 6 0 2)), h) else (if a = 1 then some (some (vi (h.1 6 0 3)), h) else some (some (vi (-1)), h))) := (ev_rc [] 120 _).trans rfl
set_option maxRecDepth 100000 in
set_option maxHeartbeats 400000 in
/-- IllLight.coast(II)I -/
theorem E_X8_coast (h : PH) (a : Int32) (b : Int32) : pm_ev (112, 0, [vr 7 0, vi a, vi b, none], [], h) = (pm_bR (pm_ev (138, 0, [vr 7 0, vi a], [], h)) 0 (fun h1 => some (some (vi (-1)), h1)) fun o2 h1 => (pm_bI (pm_ev (12, 0, [vr 0 o2, vi b], [], h1)) fun r4 h3 => some (some (vi r4), h3))) := (ev_rc [] 120 _).trans rfl
set_option maxRecDepth 100000 in
set_option maxHeartbeats 400000 in
/-- IllLight.man(IIII)I -/
theorem E_X8_man (h : PH) (a : Int32) (b : Int32) (c : Int32) (d : Int32) : pm_ev (113, 0, [vr 7 0, vi a, vi b, vi c, vi d, none, none], [], h) = (pm_bR (pm_ev (138, 0, [vr 7 0, vi a], [], h)) 0 (fun h1 => some (some (vi (-1)), h1)) fun o2 h1 => (pm_bI (pm_ev (6, 0, [vr 0 o2, vi b, vi c], [], h1)) fun r4 h3 => (if r4 = 0 then some (some (vi (-1)), h3) else (if d = 0 then (if pm_inb ((4 * b) + c) 16 = true then some (some (vi (h3.1 16 o2 (((4 * b) + c).toNatClampNeg))), h3) else none) else (if d = 1 then (if pm_inb ((4 * b) + c) 16 = true then some (some (vi (h3.1 17 o2 (((4 * b) + c).toNatClampNeg))), h3) else none) else (if d = 2 then (if pm_inb ((4 * b) + c) 16 = true then some (some (vi (h3.1 18 o2 (((4 * b) + c).toNatClampNeg))), h3) else none) else some (some (vi (-1)), h3))))))) := (ev_rc [] 120 _).trans rfl
set_option maxRecDepth 100000 in
set_option maxHeartbeats 400000 in
/-- IllLight.deed(III)I -/
theorem E_X8_deed (h : PH) (a : Int32) (b : Int32) (c : Int32) : pm_ev (114, 0, [vr 7 0, vi a, vi b, vi c, none], [], h) = (pm_bR (pm_ev (139, 0, [vr 7 0, vi a], [], h)) 3 (fun h1 => some (some (vi (-2)), h1)) fun o2 h1 => (if b = (-1) then (if c = 0 then some (some (vi (h1.1 3 o2 0)), h1) else some (some (vi (-2)), h1)) else (pm_bI (pm_ev (63, 0, [vr 3 o2, vi b, vi c], [], h1)) fun r4 h3 => some (some (vi r4), h3)))) := (ev_rc [] 120 _).trans rfl
set_option maxRecDepth 100000 in
set_option maxHeartbeats 400000 in
/-- IllLight.light(IIII)I -/
theorem E_X8_light (h : PH) (a : Int32) (b : Int32) (c : Int32) (d : Int32) : pm_ev (115, 0, [vr 7 0, vi a, vi b, vi c, vi d, none, none], [], h) = (pm_bR (pm_ev (138, 0, [vr 7 0, vi a], [], h)) 0 (fun h1 => pm_ev (115, 28, [none, none, none, none, none, none, none], [], h1)) fun o2 h1 => (pm_bI (pm_ev (5, 0, [vr 0 o2, vi b], [], h1)) fun r4 h3 => (if r4 = 0 then pm_ev (115, 28, [none, none, none, none, none, none, none], [], h3) else (pm_bI (pm_ev (141, 0, [vi c], [], h3)) fun r6 h5 => (if r6 = 0 then pm_ev (115, 28, [none, none, none, none, none, none, none], [], h5) else pm_ev (115, 30, [none, none, vi b, vi c, vi d, vr 0 o2, none], [], h5)))))) := (ev_rc [28, 30, 32, 60, 68, 76, 94, 95, 96, 107, 112, 137, 138] 120 _).trans rfl
set_option maxRecDepth 100000 in
set_option maxHeartbeats 400000 in
/-- IllLight.light(IIII)I -/
theorem E_X8_light_28 (h : PH)  : pm_ev (115, 28, [none, none, none, none, none, none, none], [], h) = some (some (vi (-1)), h) := (ev_rc [28, 30, 32, 60, 68, 76, 94, 95, 96, 107, 112, 137, 138] 120 _).trans rfl
set_option maxRecDepth 100000 in
set_option maxHeartbeats 400000 in
/-- IllLight.light(IIII)I -/
theorem E_X8_light_30 (h : PH) (x2 : Int32) (x3 : Int32) (x4 : Int32) (q5 : Nat) : pm_ev (115, 30, [none, none, vi x2, vi x3, vi x4, vr 0 q5, none], [], h) = pm_ev (115, 32, [none, none, vi x2, vi x3, vi x4, vr 0 q5, none], [vi x4], h) := (ev_rc [28, 30, 32, 60, 68, 76, 94, 95, 96, 107, 112, 137, 138] 120 _).trans rfl
set_option maxRecDepth 100000 in
set_option maxHeartbeats 400000 in
/-- IllLight.light(IIII)I -/
theorem E_X8_light_32 (h : PH) (x2 : Int32) (x3 : Int32) (x4 : Int32) (q5 : Nat) (s0 : Int32) : pm_ev (115, 32, [none, none, vi x2, vi x3, vi x4, vr 0 q5, none], [vi s0], h) = (if s0 = 0 then pm_ev (115, 60, [none, none, vi x2, vi x3, none, vr 0 q5, none], [], h) else (if s0 = 1 then pm_ev (115, 68, [none, none, vi x2, vi x3, none, vr 0 q5, none], [], h) else (if s0 = 2 then pm_ev (115, 76, [none, none, vi x2, vi x3, none, vr 0 q5, none], [], h) else pm_ev (115, 96, [none, none, vi x2, vi x3, vi x4, vr 0 q5, none], [], h)))) := (ev_rc [28, 30, 32, 60, 68, 76, 94, 95, 96, 107, 112, 137, 138] 120 _).trans rfl
set_option maxRecDepth 100000 in
set_option maxHeartbeats 400000 in
/-- IllLight.light(IIII)I -/
theorem E_X8_light_96 (h : PH) (x2 : Int32) (x3 : Int32) (x4 : Int32) (q5 : Nat) : pm_ev (115, 96, [none, none, vi x2, vi x3, vi x4, vr 0 q5, none], [], h) = (if x4 < 10 then pm_ev (115, 112, [none, none, vi x2, vi x3, none, vr 0 q5, none], [vi (-1)], h) else pm_ev (115, 107, [none, none, vi x2, vi x3, vi x4, vr 0 q5, none], [], h)) := (ev_rc [28, 30, 32, 60, 68, 76, 94, 95, 96, 107, 112, 137, 138] 120 _).trans rfl
set_option maxRecDepth 100000 in
set_option maxHeartbeats 400000 in
/-- IllLight.light(IIII)I -/
theorem E_X8_light_76 (h : PH) (x2 : Int32) (x3 : Int32) (q5 : Nat) : pm_ev (115, 76, [none, none, vi x2, vi x3, none, vr 0 q5, none], [], h) = (pm_bI (pm_ev (17, 0, [vr 0 q5, vi x2, vi x3, none], [], h)) fun r8 h7 => (pm_bI (pm_ev (18, 0, [vi r8, vi x3], [], h7)) fun r10 h9 => (if r10 = 0 then pm_ev (115, 94, [none, none, none, none, none, none, none], [], h9) else pm_ev (115, 95, [none, none, none, none, none, none, none], [vi 1], h9)))) := (ev_rc [28, 30, 32, 60, 68, 76, 94, 95, 96, 107, 112, 137, 138] 120 _).trans rfl
set_option maxRecDepth 100000 in
set_option maxHeartbeats 400000 in
/-- IllLight.light(IIII)I -/
theorem E_X8_light_68 (h : PH) (x2 : Int32) (x3 : Int32) (q5 : Nat) : pm_ev (115, 68, [none, none, vi x2, vi x3, none, vr 0 q5, none], [], h) = (pm_bI (pm_ev (17, 0, [vr 0 q5, vi x2, vi x3, none], [], h)) fun r12 h11 => some (some (vi r12), h11)) := (ev_rc [28, 30, 32, 60, 68, 76, 94, 95, 96, 107, 112, 137, 138] 120 _).trans rfl
set_option maxRecDepth 100000 in
set_option maxHeartbeats 400000 in
/-- IllLight.light(IIII)I -/
theorem E_X8_light_60 (h : PH) (x2 : Int32) (x3 : Int32) (q5 : Nat) : pm_ev (115, 60, [none, none, vi x2, vi x3, none, vr 0 q5, none], [], h) = (pm_bI (pm_ev (16, 0, [vr 0 q5, vi x2, vi x3, none, none], [], h)) fun r14 h13 => some (some (vi r14), h13)) := (ev_rc [28, 30, 32, 60, 68, 76, 94, 95, 96, 107, 112, 137, 138] 120 _).trans rfl
set_option maxRecDepth 100000 in
set_option maxHeartbeats 400000 in
/-- IllLight.light(IIII)I -/
theorem E_X8_light_112 (h : PH) (x2 : Int32) (x3 : Int32) (q5 : Nat) (s0 : Int32) : pm_ev (115, 112, [none, none, vi x2, vi x3, none, vr 0 q5, none], [vi s0], h) = (pm_bI (pm_ev (6, 0, [vr 0 q5, vi x2, vi s0], [], h)) fun r16 h15 => (if r16 = 0 then pm_ev (115, 137, [none, none, none, none, none, none, none], [], h15) else (pm_bI (pm_ev (15, 0, [vr 0 q5, vi x2, vi s0, vi x3, none, none], [], h15)) fun r18 h17 => pm_ev (115, 138, [none, none, none, none, none, none, none], [vi r18], h17)))) := (ev_rc [28, 30, 32, 60, 68, 76, 94, 95, 96, 107, 112, 137, 138] 120 _).trans rfl
set_option maxRecDepth 100000 in
set_option maxHeartbeats 400000 in
/-- IllLight.light(IIII)I -/
theorem E_X8_light_107 (h : PH) (x2 : Int32) (x3 : Int32) (x4 : Int32) (q5 : Nat) : pm_ev (115, 107, [none, none, vi x2, vi x3, vi x4, vr 0 q5, none], [], h) = pm_ev (115, 112, [none, none, vi x2, vi x3, none, vr 0 q5, none], [vi (x4 - 10)], h) := (ev_rc [28, 30, 32, 60, 68, 76, 94, 95, 96, 107, 112, 137, 138] 120 _).trans rfl
set_option maxRecDepth 100000 in
set_option maxHeartbeats 400000 in
/-- IllLight.light(IIII)I -/
theorem E_X8_light_94 (h : PH)  : pm_ev (115, 94, [none, none, none, none, none, none, none], [], h) = pm_ev (115, 95, [none, none, none, none, none, none, none], [vi 0], h) := (ev_rc [28, 30, 32, 60, 68, 76, 94, 95, 96, 107, 112, 137, 138] 120 _).trans rfl
set_option maxRecDepth 100000 in
set_option maxHeartbeats 400000 in
/-- IllLight.light(IIII)I -/
theorem E_X8_light_95 (h : PH) (s0 : Int32) : pm_ev (115, 95, [none, none, none, none, none, none, none], [vi s0], h) = some (some (vi s0), h) := (ev_rc [28, 30, 32, 60, 68, 76, 94, 95, 96, 107, 112, 137, 138] 120 _).trans rfl
set_option maxRecDepth 100000 in
set_option maxHeartbeats 400000 in
/-- IllLight.light(IIII)I -/
theorem E_X8_light_137 (h : PH)  : pm_ev (115, 137, [none, none, none, none, none, none, none], [], h) = pm_ev (115, 138, [none, none, none, none, none, none, none], [vi (-1)], h) := (ev_rc [28, 30, 32, 60, 68, 76, 94, 95, 96, 107, 112, 137, 138] 120 _).trans rfl
set_option maxRecDepth 100000 in
set_option maxHeartbeats 400000 in
/-- IllLight.light(IIII)I -/
theorem E_X8_light_138 (h : PH) (s0 : Int32) : pm_ev (115, 138, [none, none, none, none, none, none, none], [vi s0], h) = some (some (vi s0), h) := (ev_rc [28, 30, 32, 60, 68, 76, 94, 95, 96, 107, 112, 137, 138] 120 _).trans rfl
set_option maxRecDepth 100000 in
set_option maxHeartbeats 400000 in
/-- IllLight.stop(II)I -/
theorem E_X8_stop (h : PH) (a : Int32) (b : Int32) : pm_ev (116, 0, [vr 7 0, vi a, vi b, none, none], [], h) = (pm_bR (pm_ev (138, 0, [vr 7 0, vi a], [], h)) 0 (fun h1 => (pm_bR (pm_ev (139, 0, [vr 7 0, vi b], [], h1)) 3 (fun h3 => some (some (vi (-1)), h3)) fun o4 h3 => some (some (vi (-1)), h3))) fun o2 h1 => (pm_bR (pm_ev (139, 0, [vr 7 0, vi b], [], h1)) 3 (fun h5 => some (some (vi (-1)), h5)) fun o6 h5 => (pm_bI (pm_ev (30, 0, [vr 1 0, vr 0 o2, vr 3 o6, vi (h5.1 3 o6 0), none, none, none, none], [], h5)) fun r8 h7 => some (some (vi r8), h7)))) := (ev_rc [] 120 _).trans rfl
set_option maxRecDepth 100000 in
set_option maxHeartbeats 400000 in
/-- IllLight.state(IIII)I -/
theorem E_X8_state (h : PH) (a : Int32) (b : Int32) (c : Int32) (d : Int32) : pm_ev (117, 0, [vr 7 0, vi a, vi b, vi c, vi d, none, none], [], h) = (pm_bR (pm_ev (138, 0, [vr 7 0, vi a], [], h)) 0 (fun h1 => (pm_bR (pm_ev (139, 0, [vr 7 0, vi b], [], h1)) 3 (fun h3 => some (some (vi (-2)), h3)) fun o4 h3 => some (some (vi (-2)), h3))) fun o2 h1 => (pm_bR (pm_ev (139, 0, [vr 7 0, vi b], [], h1)) 3 (fun h5 => some (some (vi (-2)), h5)) fun o6 h5 => (if c < 0 then some (some (vi (-2)), h5) else (pm_bI (pm_ev (30, 0, [vr 1 0, vr 0 o2, vr 3 o6, vi c, none, none, none, none], [], h5)) fun r8 h7 => (if r8 < c then some (some (vi (-2)), h7) else (pm_bI (pm_ev (40, 0, [vr 1 0, vi d], [], h7)) fun r10 h9 => some (some (vi r10), h9))))))) := (ev_rc [] 120 _).trans rfl
set_option maxRecDepth 100000 in
set_option maxHeartbeats 400000 in
/-- IllLight.way(III)I -/
theorem E_X8_way (h : PH) (a : Int32) (b : Int32) (c : Int32) : pm_ev (118, 0, [vr 7 0, vi a, vi b, vi c, none], [], h) = (pm_bR (pm_ev (138, 0, [vr 7 0, vi a], [], h)) 0 (fun h1 => (pm_bI (pm_ev (144, 0, [vn, vi b, vi c], [], h1)) fun r4 h3 => (if r4 = 0 then some (some (vi (-1)), h3) else none))) fun o2 h1 => (pm_bI (pm_ev (144, 0, [vr 0 o2, vi b, vi c], [], h1)) fun r6 h5 => (if r6 = 0 then some (some (vi (-1)), h5) else (pm_bI (pm_ev (8, 0, [vr 0 o2, vi c], [], h5)) fun r8 h7 => (pm_bV (pm_ev (94, 0, [vr 5 0, vr 0 o2, vi b, vi r8], [], h7)) fun h9 => pm_ev (118, 35, [vr 7 0, none, vi b, vi c, vr 0 o2], [], h9)))))) := (ev_rc [35] 120 _).trans rfl
set_option maxRecDepth 100000 in
set_option maxHeartbeats 400000 in
/-- IllLight.way(III)I -/
theorem E_X8_way_35 (h : PH) (x2 : Int32) (x3 : Int32) (q4 : Nat) : pm_ev (118, 35, [vr 7 0, none, vi x2, vi x3, vr 0 q4], [], h) = (pm_bI (pm_ev (20, 0, [vr 0 q4, vi x2, none, none], [], h)) fun r11 h10 => (pm_bI (pm_ev (96, 0, [vr 5 0, vi r11, vi 0, vi 60, none, none, none], [], h10)) fun r13 h12 => some (some (vi r13), h12))) := (ev_rc [35] 120 _).trans rfl
set_option maxRecDepth 100000 in
set_option maxHeartbeats 400000 in
/-- IllLight.free(IIII)I -/
theorem E_X8_free (h : PH) (a : Int32) (b : Int32) (c : Int32) (d : Int32) : pm_ev (119, 0, [vr 7 0, vi a, vi b, vi c, vi d, none], [], h) = (pm_bR (pm_ev (138, 0, [vr 7 0, vi a], [], h)) 0 (fun h1 => pm_ev (119, 28, [none, none, none, none, none, none], [], h1)) fun o2 h1 => (pm_bI (pm_ev (5, 0, [vr 0 o2, vi b], [], h1)) fun r4 h3 => (if r4 = 0 then pm_ev (119, 28, [none, none, none, none, none, none], [], h3) else (pm_bI (pm_ev (142, 0, [vi c], [], h3)) fun r6 h5 => (if r6 = 0 then pm_ev (119, 28, [none, none, none, none, none, none], [], h5) else pm_ev (119, 30, [vr 7 0, none, vi b, vi c, vi d, vr 0 o2], [], h5)))))) := (ev_rc [28, 30, 49, 76, 91, 102, 112] 120 _).trans rfl
set_option maxRecDepth 100000 in
set_option maxHeartbeats 400000 in
/-- IllLight.free(IIII)I -/
theorem E_X8_free_28 (h : PH)  : pm_ev (119, 28, [none, none, none, none, none, none], [], h) = some (some (vi (-1)), h) := (ev_rc [28, 30, 49, 76, 91, 102, 112] 120 _).trans rfl
set_option maxRecDepth 100000 in
set_option maxHeartbeats 400000 in
/-- IllLight.free(IIII)I -/
theorem E_X8_free_30 (h : PH) (x2 : Int32) (x3 : Int32) (x4 : Int32) (q5 : Nat) : pm_ev (119, 30, [vr 7 0, none, vi x2, vi x3, vi x4, vr 0 q5], [], h) = (if pm_inb x2 4 = true then (pm_bV (pm_ev (94, 0, [vr 5 0, vr 0 q5, vi x2, vi (h.1 12 q5 x2.toNatClampNeg)], [], h)) fun h7 => pm_ev (119, 49, [vr 7 0, none, vi x2, vi x3, vi x4, vr 0 q5], [vi x4], h7)) else none) := (ev_rc [28, 30, 49, 76, 91, 102, 112] 120 _).trans rfl
set_option maxRecDepth 100000 in
set_option maxHeartbeats 400000 in
/-- IllLight.free(IIII)I -/
theorem E_X8_free_49 (h : PH) (x2 : Int32) (x3 : Int32) (x4 : Int32) (q5 : Nat) (s0 : Int32) : pm_ev (119, 49, [vr 7 0, none, vi x2, vi x3, vi x4, vr 0 q5], [vi s0], h) = (if s0 = 0 then pm_ev (119, 76, [vr 7 0, none, vi x2, vi x3, none, vr 0 q5], [], h) else (if s0 = 1 then pm_ev (119, 91, [vr 7 0, none, none, vi x3, none, none], [], h) else (if s0 = 2 then pm_ev (119, 102, [vr 7 0, none, none, vi x3, none, none], [], h) else pm_ev (119, 112, [none, none, none, none, none, none], [], h)))) := (ev_rc [28, 30, 49, 76, 91, 102, 112] 120 _).trans rfl
set_option maxRecDepth 100000 in
set_option maxHeartbeats 400000 in
/-- IllLight.free(IIII)I -/
theorem E_X8_free_112 (h : PH)  : pm_ev (119, 112, [none, none, none, none, none, none], [], h) = some (some (vi (-1)), h) := (ev_rc [28, 30, 49, 76, 91, 102, 112] 120 _).trans rfl
set_option maxRecDepth 100000 in
set_option maxHeartbeats 400000 in
/-- IllLight.free(IIII)I -/
theorem E_X8_free_102 (h : PH) (x3 : Int32) : pm_ev (119, 102, [vr 7 0, none, none, vi x3, none, none], [], h) = (pm_bI (pm_ev (98, 0, [vr 5 0, vi 0, vi x3, none, none, none, none, none], [], h)) fun r9 h8 => some (some (vi r9), h8)) := (ev_rc [28, 30, 49, 76, 91, 102, 112] 120 _).trans rfl
set_option maxRecDepth 100000 in
set_option maxHeartbeats 400000 in
/-- IllLight.free(IIII)I -/
theorem E_X8_free_91 (h : PH) (x3 : Int32) : pm_ev (119, 91, [vr 7 0, none, none, vi x3, none, none], [], h) = (pm_bI (pm_ev (98, 0, [vr 5 0, vi 16777215, vi x3, none, none, none, none, none], [], h)) fun r11 h10 => some (some (vi r11), h10)) := (ev_rc [28, 30, 49, 76, 91, 102, 112] 120 _).trans rfl
set_option maxRecDepth 100000 in
set_option maxHeartbeats 400000 in
/-- IllLight.free(IIII)I -/
theorem E_X8_free_76 (h : PH) (x2 : Int32) (x3 : Int32) (q5 : Nat) : pm_ev (119, 76, [vr 7 0, none, vi x2, vi x3, none, vr 0 q5], [], h) = (pm_bI (pm_ev (20, 0, [vr 0 q5, vi x2, none, none], [], h)) fun r13 h12 => (pm_bI (pm_ev (98, 0, [vr 5 0, vi r13, vi x3, none, none, none, none, none], [], h12)) fun r15 h14 => some (some (vi r15), h14))) := (ev_rc [28, 30, 49, 76, 91, 102, 112] 120 _).trans rfl
set_option maxRecDepth 100000 in
set_option maxHeartbeats 400000 in
/-- IllLight.helps(IIIII)I -/
theorem E_X8_helps (h : PH) (a : Int32) (b : Int32) (c : Int32) (d : Int32) (e : Int32) : pm_ev (120, 0, [vr 7 0, vi a, vi b, vi c, vi d, vi e, none], [], h) = (pm_bR (pm_ev (138, 0, [vr 7 0, vi a], [], h)) 0 (fun h1 => (pm_bI (pm_ev (144, 0, [vn, vi b, vi c], [], h1)) fun r4 h3 => (if r4 = 0 then pm_ev (120, 25, [none, none, none, none, none, none, none], [], h3) else (pm_bI (pm_ev (142, 0, [vi d], [], h3)) fun r6 h5 => (if r6 = 0 then pm_ev (120, 25, [none, none, none, none, none, none, none], [], h5) else pm_ev (120, 27, [vr 7 0, none, vi b, vi c, vi d, vi e, vn], [], h5)))))) fun o2 h1 => (pm_bI (pm_ev (144, 0, [vr 0 o2, vi b, vi c], [], h1)) fun r8 h7 => (if r8 = 0 then pm_ev (120, 25, [none, none, none, none, none, none, none], [], h7) else (pm_bI (pm_ev (142, 0, [vi d], [], h7)) fun r10 h9 => (if r10 = 0 then pm_ev (120, 25, [none, none, none, none, none, none, none], [], h9) else pm_ev (120, 27, [vr 7 0, none, vi b, vi c, vi d, vi e, vr 0 o2], [], h9)))))) := (ev_rc [25, 27, 45, 80, 91, 101, 111, 124, 135] 120 _).trans rfl
set_option maxRecDepth 100000 in
set_option maxHeartbeats 400000 in
/-- IllLight.helps(IIIII)I -/
theorem E_X8_helps_25 (h : PH)  : pm_ev (120, 25, [none, none, none, none, none, none, none], [], h) = some (some (vi (-1)), h) := (ev_rc [25, 27, 45, 80, 91, 101, 111, 124, 135] 120 _).trans rfl
set_option maxRecDepth 100000 in
set_option maxHeartbeats 400000 in
/-- IllLight.helps(IIIII)I -/
theorem E_X8_helps_27 (h : PH) (x2 : Int32) (x3 : Int32) (x4 : Int32) (x5 : Int32) : pm_ev (120, 27, [vr 7 0, none, vi x2, vi x3, vi x4, vi x5, vn], [], h) = none := (ev_rc [25, 27, 45, 80, 91, 101, 111, 124, 135] 120 _).trans rfl
set_option maxRecDepth 100000 in
set_option maxHeartbeats 400000 in
/-- IllLight.helps(IIIII)I -/
theorem E_X8_helps_27_v1 (h : PH) (x2 : Int32) (x3 : Int32) (x4 : Int32) (x5 : Int32) (q6 : Nat) : pm_ev (120, 27, [vr 7 0, none, vi x2, vi x3, vi x4, vi x5, vr 0 q6], [], h) = (pm_bI (pm_ev (8, 0, [vr 0 q6, vi x3], [], h)) fun r12 h11 => (pm_bV (pm_ev (94, 0, [vr 5 0, vr 0 q6, vi x2, vi r12], [], h11)) fun h13 => pm_ev (120, 45, [vr 7 0, none, vi x2, vi x3, vi x4, vi x5, vr 0 q6], [vi x5], h13))) := (ev_rc [25, 27, 45, 80, 91, 101, 111, 124, 135] 120 _).trans rfl
set_option maxRecDepth 100000 in
set_option maxHeartbeats 400000 in
/-- IllLight.helps(IIIII)I -/
theorem E_X8_helps_45 (h : PH) (x2 : Int32) (x3 : Int32) (x4 : Int32) (x5 : Int32) (q6 : Nat) (s0 : Int32) : pm_ev (120, 45, [vr 7 0, none, vi x2, vi x3, vi x4, vi x5, vr 0 q6], [vi s0], h) = (if s0 = 0 then pm_ev (120, 80, [vr 7 0, none, vi x2, none, vi x4, none, vr 0 q6], [], h) else (if s0 = 1 then pm_ev (120, 91, [vr 7 0, none, vi x2, none, vi x4, none, vr 0 q6], [], h) else (if s0 = 2 then pm_ev (120, 101, [vr 7 0, none, vi x2, none, vi x4, none, vr 0 q6], [], h) else (if s0 = 3 then pm_ev (120, 111, [vr 7 0, none, vi x2, none, vi x4, none, vr 0 q6], [], h) else (if s0 = 4 then pm_ev (120, 124, [vr 7 0, none, vi x2, none, vi x4, none, vr 0 q6], [], h) else pm_ev (120, 135, [none, none, none, none, none, none, none], [], h)))))) := (ev_rc [25, 27, 45, 80, 91, 101, 111, 124, 135] 120 _).trans rfl
set_option maxRecDepth 100000 in
set_option maxHeartbeats 400000 in
/-- IllLight.helps(IIIII)I -/
theorem E_X8_helps_135 (h : PH)  : pm_ev (120, 135, [none, none, none, none, none, none, none], [], h) = some (some (vi (-1)), h) := (ev_rc [25, 27, 45, 80, 91, 101, 111, 124, 135] 120 _).trans rfl
set_option maxRecDepth 100000 in
set_option maxHeartbeats 400000 in
/-- IllLight.helps(IIIII)I -/
theorem E_X8_helps_124 (h : PH) (x2 : Int32) (x4 : Int32) (q6 : Nat) : pm_ev (120, 124, [vr 7 0, none, vi x2, none, vi x4, none, vr 0 q6], [], h) = (pm_bI (pm_ev (145, 0, [vr 7 0, vr 0 q6, vi x2, vi x4, vi 0, none, none, none, none], [], h)) fun r15 h14 => some (some (vi r15), h14)) := (ev_rc [25, 27, 45, 80, 91, 101, 111, 124, 135] 120 _).trans rfl
set_option maxRecDepth 100000 in
set_option maxHeartbeats 400000 in
/-- IllLight.helps(IIIII)I -/
theorem E_X8_helps_111 (h : PH) (x2 : Int32) (x4 : Int32) (q6 : Nat) : pm_ev (120, 111, [vr 7 0, none, vi x2, none, vi x4, none, vr 0 q6], [], h) = (pm_bI (pm_ev (148, 0, [vr 7 0, vr 0 q6, vi x2, vi x4, none, none, none], [], h)) fun r17 h16 => (pm_bI (pm_ev (149, 0, [vi r17, none], [], h16)) fun r19 h18 => some (some (vi r19), h18))) := (ev_rc [25, 27, 45, 80, 91, 101, 111, 124, 135] 120 _).trans rfl
set_option maxRecDepth 100000 in
set_option maxHeartbeats 400000 in
/-- IllLight.helps(IIIII)I -/
theorem E_X8_helps_101 (h : PH) (x2 : Int32) (x4 : Int32) (q6 : Nat) : pm_ev (120, 101, [vr 7 0, none, vi x2, none, vi x4, none, vr 0 q6], [], h) = (pm_bI (pm_ev (147, 0, [vr 7 0, vr 0 q6, vi x2, vi x4, none], [], h)) fun r21 h20 => some (some (vi r21), h20)) := (ev_rc [25, 27, 45, 80, 91, 101, 111, 124, 135] 120 _).trans rfl
set_option maxRecDepth 100000 in
set_option maxHeartbeats 400000 in
/-- IllLight.helps(IIIII)I -/
theorem E_X8_helps_91 (h : PH) (x2 : Int32) (x4 : Int32) (q6 : Nat) : pm_ev (120, 91, [vr 7 0, none, vi x2, none, vi x4, none, vr 0 q6], [], h) = (pm_bI (pm_ev (146, 0, [vr 7 0, vr 0 q6, vi x2, vi x4, none], [], h)) fun r23 h22 => some (some (vi r23), h22)) := (ev_rc [25, 27, 45, 80, 91, 101, 111, 124, 135] 120 _).trans rfl
set_option maxRecDepth 100000 in
set_option maxHeartbeats 400000 in
/-- IllLight.helps(IIIII)I -/
theorem E_X8_helps_80 (h : PH) (x2 : Int32) (x4 : Int32) (q6 : Nat) : pm_ev (120, 80, [vr 7 0, none, vi x2, none, vi x4, none, vr 0 q6], [], h) = (pm_bI (pm_ev (145, 0, [vr 7 0, vr 0 q6, vi x2, vi x4, vi 1, none, none, none, none], [], h)) fun r25 h24 => some (some (vi r25), h24)) := (ev_rc [25, 27, 45, 80, 91, 101, 111, 124, 135] 120 _).trans rfl
set_option maxRecDepth 100000 in
set_option maxHeartbeats 400000 in
/-- IllLight.rest(III)I -/
theorem E_X8_rest (h : PH) (a : Int32) (b : Int32) (c : Int32) : pm_ev (121, 0, [vr 7 0, vi a, vi b, vi c, none], [], h) = (pm_bR (pm_ev (138, 0, [vr 7 0, vi a], [], h)) 0 (fun h1 => some (some (vi (-1)), h1)) fun o2 h1 => (pm_bI (pm_ev (143, 0, [vi b], [], h1)) fun r4 h3 => (if r4 = 0 then some (some (vi (-1)), h3) else (if c = (-2) then (pm_bI (pm_ev (90, 0, [vr 0 o2, vi b, none, none], [], h3)) fun r6 h5 => some (some (vi r6), h5)) else (if c = (-1) then (pm_bI (pm_ev (88, 0, [vr 0 o2, vi b, none, none], [], h3)) fun r8 h7 => some (some (vi r8), h7)) else (pm_bI (pm_ev (89, 0, [vr 0 o2, vi b, vi c, none, none], [], h3)) fun r10 h9 => some (some (vi r10), h9))))))) := (ev_rc [] 120 _).trans rfl
set_option maxRecDepth 100000 in
set_option maxHeartbeats 400000 in
/-- IllLight.premium(IIIZ)J -/
theorem E_X8_premium (h : PH) (a : Int32) (b : Int32) (c : Int32) (d : Int32) : pm_ev (122, 0, [vr 7 0, vi a, vi b, vi c, vi d, none, none, none, none, none], [], h) = (if a < 1 then some (some (vl (-1)), h) else (if (9 : Int32) < a then some (some (vl (-1)), h) else (if b < 0 then some (some (vl (-1)), h) else (if (10 : Int32) < b then some (some (vl (-1)), h) else (if c < 0 then some (some (vl (-1)), h) else (if (99 : Int32) < c then some (some (vl (-1)), h) else pm_ev (122, 44, [none, vi a, vi b, vi c, vi d, vl 1, none, vl 1, none, vi 0], [], h))))))) := (ev_rc [44] 120 _).trans rfl
set_option maxRecDepth 100000 in
set_option maxHeartbeats 400000 in
/-- IllLight.premium(IIIZ)J -/
theorem E_X8_premium_44 (h : PH) (x1 : Int32) (x2 : Int32) (x3 : Int32) (x4 : Int32) (y5 : Int64) (y7 : Int64) (x9 : Int32) : pm_ev (122, 44, [none, vi x1, vi x2, vi x3, vi x4, vl y5, none, vl y7, none, vi x9], [], h) = (if x9 < x1 then pm_ev (122, 44, [none, vi x1, vi x2, vi x3, vi x4, vl (y5 * 10), none, vl (y7 * ((10 - x2 : Int32).toInt64)), none, vi (x9 + 1)], [], h) else (pm_bL (pm_ev (151, 0, [vl (((x3 : Int32).toInt64) * (y5 - y7)), none, vl y5, none, vi x4, none, none], [], h)) fun l2 h1 => some (some (vl l2), h1))) := (ev_rc [44] 120 _).trans rfl
set_option maxRecDepth 100000 in
set_option maxHeartbeats 400000 in
/-- IllLight.log(II)I -/
theorem E_X8_log (h : PH) (a : Int32) (b : Int32) : pm_ev (123, 0, [vr 7 0, vi a, vi b, none], [], h) = (pm_bR (pm_ev (140, 0, [vr 7 0, vi a], [], h)) 2 (fun h1 => some (some (vi (-1)), h1)) fun o2 h1 => (pm_bI (pm_ev (48, 0, [vr 2 o2, vi b], [], h1)) fun r4 h3 => some (some (vi r4), h3))) := (ev_rc [] 120 _).trans rfl
set_option maxRecDepth 100000 in
set_option maxHeartbeats 400000 in
/-- IllLight.fits(II)I -/
theorem E_X8_fits (h : PH) (a : Int32) (b : Int32) : pm_ev (124, 0, [vr 7 0, vi a, vi b, none, none, none], [], h) = (pm_bR (pm_ev (140, 0, [vr 7 0, vi a], [], h)) 2 (fun h1 => some (some (vi (-2)), h1)) fun o2 h1 => (pm_bL (pm_ev (54, 0, [vr 2 o2, none, none, none], [], h1)) fun l4 h3 => (if b = 0 then (pm_bI (pm_ev (268, 0, [vl l4, none], [], h3)) fun r12 h11 => some (some (vi r12), h11)) else (if b = 1 then (pm_bI (pm_ev (55, 0, [vr 2 o2, vl l4, none, none, none], [], h3)) fun r10 h9 => some (some (vi r10), h9)) else (if b = 2 then (pm_bI (pm_ev (57, 0, [vr 2 o2, vl l4, none, none, none, none, none, none, none], [], h3)) fun r8 h7 => some (some (vi r8), h7)) else (if b < 10 then some (some (vi (-2)), h3) else (pm_bI (pm_ev (56, 0, [vr 2 o2, vl l4, none, vi (b - 10), none, none], [], h3)) fun r6 h5 => some (some (vi r6), h5)))))))) := (ev_rc [] 120 _).trans rfl
set_option maxRecDepth 100000 in
set_option maxHeartbeats 400000 in
/-- IllLight.belief(IIZ)J -/
theorem E_X8_belief (h : PH) (a : Int32) (b : Int32) (c : Int32) : pm_ev (125, 0, [vr 7 0, vi a, vi b, vi c, none], [], h) = (pm_bR (pm_ev (140, 0, [vr 7 0, vi a], [], h)) 2 (fun h1 => some (some (vl (-1)), h1)) fun o2 h1 => (pm_bI (pm_ev (47, 0, [vr 2 o2, vi b], [], h1)) fun r4 h3 => (if r4 = 0 then some (some (vl (-1)), h3) else (pm_bL (pm_ev (59, 0, [vr 2 o2, vi ((1 : Int32) <<< (b &&& 31)), vi (-1), none, none, none], [], h3)) fun l6 h5 => (pm_bL (pm_ev (59, 0, [vr 2 o2, vi 0, vi (-1), none, none, none], [], h5)) fun l8 h7 => pm_ev (125, 41, [none, none, vi b, vi c, vr 2 o2], [vl l8, vl l6], h7)))))) := (ev_rc [41] 120 _).trans rfl
set_option maxRecDepth 100000 in
set_option maxHeartbeats 400000 in
/-- IllLight.belief(IIZ)J -/
theorem E_X8_belief_41 (h : PH) (x2 : Int32) (x3 : Int32) (q4 : Nat) (s0 : Int64) (s1 : Int64) : pm_ev (125, 41, [none, none, vi x2, vi x3, vr 2 q4], [vl s0, vl s1], h) = (pm_bL (pm_ev (151, 0, [vl s1, none, vl s0, none, vi x3, none, none], [], h)) fun l10 h9 => some (some (vl l10), h9)) := (ev_rc [41] 120 _).trans rfl
set_option maxRecDepth 100000 in
set_option maxHeartbeats 400000 in
/-- IllLight.drawn(IIII)I -/
theorem E_X8_drawn (h : PH) (a : Int32) (b : Int32) (c : Int32) (d : Int32) : pm_ev (126, 0, [vr 7 0, vi a, vi b, vi c, vi d, none], [], h) = (pm_bR (pm_ev (138, 0, [vr 7 0, vi a], [], h)) 0 (fun h1 => some (some (vi (-2)), h1)) fun o2 h1 => (if h1.1 0 o2 8 = 0 then some (some (vi (-2)), h1) else (pm_bI (pm_ev (142, 0, [vi c], [], h1)) fun r4 h3 => (if r4 = 0 then some (some (vi (-2)), h3) else (pm_bV (pm_ev (31, 0, [vr 1 0, vr 0 o2, vi b, vi c, none, none, none, none, none], [], h3)) fun h5 => (pm_bI (pm_ev (40, 0, [vr 1 0, vi d], [], h5)) fun r7 h6 => some (some (vi r7), h6))))))) := (ev_rc [] 120 _).trans rfl
set_option maxRecDepth 100000 in
set_option maxHeartbeats 400000 in
/-- IllLight.hours(III)I -/
theorem E_X8_hours (h : PH) (a : Int32) (b : Int32) (c : Int32) : pm_ev (127, 0, [vr 7 0, vi a, vi b, vi c, none], [], h) = (pm_bR (pm_ev (138, 0, [vr 7 0, vi a], [], h)) 0 (fun h1 => some (some (vi (-1)), h1)) fun o2 h1 => (pm_bI (pm_ev (5, 0, [vr 0 o2, vi b], [], h1)) fun r4 h3 => (if r4 = 0 then some (some (vi (-1)), h3) else (if c = 0 then (pm_bI (pm_ev (20, 0, [vr 0 o2, vi b, none, none], [], h3)) fun r18 h17 => some (some (vi r18), h17)) else (if c = 1 then (pm_bI (pm_ev (19, 0, [vr 0 o2, vi b, vi 1, none, none], [], h3)) fun r16 h15 => some (some (vi r16), h15)) else (if c = 2 then (pm_bI (pm_ev (20, 0, [vr 0 o2, vi b, none, none], [], h3)) fun r12 h11 => (pm_bI (pm_ev (150, 0, [vi (16777215 &&& (r12 ^^^ (-1))), none, none, none], [], h11)) fun r14 h13 => some (some (vi r14), h13))) else (if c = 3 then (pm_bI (pm_ev (21, 0, [vr 0 o2, vi b, none, none], [], h3)) fun r10 h9 => some (some (vi r10), h9)) else (if c = 4 then (pm_bI (pm_ev (19, 0, [vr 0 o2, vi b, vi 2, none, none], [], h3)) fun r6 h5 => (pm_bI (pm_ev (267, 0, [vi r6], [], h5)) fun r8 h7 => some (some (vi r8), h7))) else some (some (vi (-1)), h3))))))))) := (ev_rc [] 120 _).trans rfl
set_option maxRecDepth 100000 in
set_option maxHeartbeats 400000 in
/-- IllLight.shade(II)I -/
theorem E_X8_shade (h : PH) (a : Int32) (b : Int32) : pm_ev (128, 0, [vr 7 0, vi a, vi b, none], [], h) = (pm_bR (pm_ev (138, 0, [vr 7 0, vi a], [], h)) 0 (fun h1 => some (some (vi (-1)), h1)) fun o2 h1 => (pm_bI (pm_ev (5, 0, [vr 0 o2, vi b], [], h1)) fun r4 h3 => (if r4 = 0 then some (some (vi (-1)), h3) else (pm_bI (pm_ev (26, 0, [vr 0 o2, vi b], [], h3)) fun r6 h5 => some (some (vi r6), h5))))) := (ev_rc [] 120 _).trans rfl
set_option maxRecDepth 100000 in
set_option maxHeartbeats 400000 in
/-- IllLight.leaves(IIII)I -/
theorem E_X8_leaves (h : PH) (a : Int32) (b : Int32) (c : Int32) (d : Int32) : pm_ev (129, 0, [vr 7 0, vi a, vi b, vi c, vi d, none], [], h) = (pm_bR (pm_ev (138, 0, [vr 7 0, vi a], [], h)) 0 (fun h1 => (pm_bI (pm_ev (144, 0, [vn, vi b, vi c], [], h1)) fun r4 h3 => (if r4 = 0 then some (some (vi (-1)), h3) else (pm_bI (pm_ev (142, 0, [vi d], [], h3)) fun r6 h5 => (if r6 = 0 then some (some (vi (-1)), h5) else none))))) fun o2 h1 => (pm_bI (pm_ev (144, 0, [vr 0 o2, vi b, vi c], [], h1)) fun r8 h7 => (if r8 = 0 then some (some (vi (-1)), h7) else (pm_bI (pm_ev (142, 0, [vi d], [], h7)) fun r10 h9 => (if r10 = 0 then some (some (vi (-1)), h9) else (pm_bI (pm_ev (8, 0, [vr 0 o2, vi c], [], h9)) fun r12 h11 => pm_ev (129, 40, [vr 7 0, none, vi b, vi c, vi d, vr 0 o2], [vi r12, vi b, vr 0 o2, vr 5 0], h11))))))) := (ev_rc [40] 120 _).trans rfl
set_option maxRecDepth 100000 in
set_option maxHeartbeats 400000 in
/-- IllLight.leaves(IIII)I -/
theorem E_X8_leaves_40 (h : PH) (x2 : Int32) (x3 : Int32) (x4 : Int32) (q5 : Nat) (s0 : Int32) (s1 : Int32) (s2 : Nat) (s3 : Nat) : pm_ev (129, 40, [vr 7 0, none, vi x2, vi x3, vi x4, vr 0 q5], [vi s0, vi s1, vr 0 s2, vr 5 s3], h) = (pm_bV (pm_ev (94, 0, [vr 5 s3, vr 0 s2, vi s1, vi s0], [], h)) fun h13 => (pm_bI (pm_ev (148, 0, [vr 7 0, vr 0 q5, vi x2, vi x4, none, none, none], [], h13)) fun r15 h14 => some (some (vi r15), h14))) := (ev_rc [40] 120 _).trans rfl
set_option maxRecDepth 100000 in
set_option maxHeartbeats 400000 in
/-- IllLight.back(III)I -/
theorem E_X8_back (h : PH) (a : Int32) (b : Int32) (c : Int32) : pm_ev (130, 0, [vr 7 0, vi a, vi b, vi c, none], [], h) = (pm_bR (pm_ev (138, 0, [vr 7 0, vi a], [], h)) 0 (fun h1 => (pm_bI (pm_ev (144, 0, [vn, vi b, vi c], [], h1)) fun r4 h3 => (if r4 = 0 then some (some (vi (-1)), h3) else none))) fun o2 h1 => (pm_bI (pm_ev (144, 0, [vr 0 o2, vi b, vi c], [], h1)) fun r6 h5 => (if r6 = 0 then some (some (vi (-1)), h5) else (pm_bI (pm_ev (8, 0, [vr 0 o2, vi c], [], h5)) fun r8 h7 => (pm_bV (pm_ev (94, 0, [vr 5 0, vr 0 o2, vi b, vi r8], [], h7)) fun h9 => pm_ev (130, 35, [vr 7 0, none, vi b, vi c, vr 0 o2], [], h9)))))) := (ev_rc [35] 120 _).trans rfl
set_option maxRecDepth 100000 in
set_option maxHeartbeats 400000 in
/-- IllLight.back(III)I -/
theorem E_X8_back_35 (h : PH) (x2 : Int32) (x3 : Int32) (q4 : Nat) : pm_ev (130, 35, [vr 7 0, none, vi x2, vi x3, vr 0 q4], [], h) = (pm_bI (pm_ev (20, 0, [vr 0 q4, vi x2, none, none], [], h)) fun r11 h10 => (pm_bI (pm_ev (99, 0, [vr 5 0, vi r11, vi 60, none, none, none, none, none], [], h10)) fun r13 h12 => some (some (vi r13), h12))) := (ev_rc [35] 120 _).trans rfl
set_option maxRecDepth 100000 in
set_option maxHeartbeats 400000 in
/-- IllLight.watch(III)I -/
theorem E_X8_watch (h : PH) (a : Int32) (b : Int32) (c : Int32) : pm_ev (131, 0, [vr 7 0, vi a, vi b, vi c, none, none], [], h) = (pm_bR (pm_ev (138, 0, [vr 7 0, vi a], [], h)) 0 (fun h1 => pm_ev (131, 28, [none, none, none, none, none, none], [], h1)) fun o2 h1 => (pm_bI (pm_ev (143, 0, [vi b], [], h1)) fun r4 h3 => (if r4 = 0 then pm_ev (131, 28, [none, none, none, none, none, none], [], h3) else (if c < 0 then pm_ev (131, 28, [none, none, none, none, none, none], [], h3) else (if (3 : Int32) < c then pm_ev (131, 28, [none, none, none, none, none, none], [], h3) else pm_ev (131, 30, [vr 7 0, none, vi b, vi c, vr 0 o2, none], [], h3)))))) := (ev_rc [28, 30, 58, 81, 94, 99] 120 _).trans rfl
set_option maxRecDepth 100000 in
set_option maxHeartbeats 400000 in
/-- IllLight.watch(III)I -/
theorem E_X8_watch_28 (h : PH)  : pm_ev (131, 28, [none, none, none, none, none, none], [], h) = some (some (vi (-1)), h) := (ev_rc [28, 30, 58, 81, 94, 99] 120 _).trans rfl
set_option maxRecDepth 100000 in
set_option maxHeartbeats 400000 in
/-- IllLight.watch(III)I -/
theorem E_X8_watch_30 (h : PH) (x2 : Int32) (x3 : Int32) (q4 : Nat) : pm_ev (131, 30, [vr 7 0, none, vi x2, vi x3, vr 0 q4, none], [], h) = (pm_bV (pm_ev (100, 0, [vr 5 0, vr 0 q4, vi x2, none], [], h)) fun h5 => (if x3 = 3 then (pm_bI (pm_ev (101, 0, [vr 5 0, vl (h5.2 0 q4 4), none, none, none], [], h5)) fun r7 h6 => some (some (vi r7), h6)) else pm_ev (131, 58, [vr 7 0, none, none, vi x3, none, none], [], h5))) := (ev_rc [28, 30, 58, 81, 94, 99] 120 _).trans rfl
set_option maxRecDepth 100000 in
set_option maxHeartbeats 400000 in
/-- IllLight.watch(III)I -/
theorem E_X8_watch_58 (h : PH) (x3 : Int32) : pm_ev (131, 58, [vr 7 0, none, none, vi x3, none, none], [], h) = (pm_bI (pm_ev (102, 0, [vr 5 0, none, none, none, none, none], [], h)) fun r9 h8 => (if x3 = 0 then (pm_bI (pm_ev (103, 0, [vr 5 0, vi r9, none, none], [], h8)) fun r11 h10 => some (some (vi r11), h10)) else pm_ev (131, 81, [none, none, none, vi x3, none, vi r9], [], h8))) := (ev_rc [28, 30, 58, 81, 94, 99] 120 _).trans rfl
set_option maxRecDepth 100000 in
set_option maxHeartbeats 400000 in
/-- IllLight.watch(III)I -/
theorem E_X8_watch_81 (h : PH) (x3 : Int32) (x5 : Int32) : pm_ev (131, 81, [none, none, none, vi x3, none, vi x5], [], h) = (if x3 = 1 then pm_ev (131, 99, [none, none, none, none, none, none], [vi (x5 / 64)], h) else pm_ev (131, 94, [none, none, none, none, none, vi x5], [], h)) := (ev_rc [28, 30, 58, 81, 94, 99] 120 _).trans rfl
set_option maxRecDepth 100000 in
set_option maxHeartbeats 400000 in
/-- IllLight.watch(III)I -/
theorem E_X8_watch_99 (h : PH) (s0 : Int32) : pm_ev (131, 99, [none, none, none, none, none, none], [vi s0], h) = some (some (vi s0), h) := (ev_rc [28, 30, 58, 81, 94, 99] 120 _).trans rfl
set_option maxRecDepth 100000 in
set_option maxHeartbeats 400000 in
/-- IllLight.watch(III)I -/
theorem E_X8_watch_94 (h : PH) (x5 : Int32) : pm_ev (131, 94, [none, none, none, none, none, vi x5], [], h) = pm_ev (131, 99, [none, none, none, none, none, none], [vi (x5 - x5 / 64 * 64)], h) := (ev_rc [28, 30, 58, 81, 94, 99] 120 _).trans rfl
set_option maxRecDepth 100000 in
set_option maxHeartbeats 400000 in
/-- IllLight.mutiny(IIIZ)I -/
theorem E_X8_mutiny (h : PH) (a : Int32) (b : Int32) (c : Int32) (d : Int32) : pm_ev (132, 0, [vr 7 0, vi a, vi b, vi c, vi d, none], [], h) = (pm_bR (pm_ev (138, 0, [vr 7 0, vi a], [], h)) 0 (fun h1 => some (some (vi (-1)), h1)) fun o2 h1 => (pm_bI (pm_ev (6, 0, [vr 0 o2, vi b, vi 0], [], h1)) fun r4 h3 => (if r4 = 0 then some (some (vi (-1)), h3) else (pm_bI (pm_ev (141, 0, [vi c], [], h3)) fun r6 h5 => (if r6 = 0 then some (some (vi (-1)), h5) else (if d = 0 then (pm_bI (pm_ev (22, 0, [vr 0 o2, vi b, vi c, none, none], [], h5)) fun r8 h7 => some (some (vi r8), h7)) else (pm_bI (pm_ev (23, 0, [vr 0 o2, vi b, vi c, none, none], [], h5)) fun r10 h9 => pm_ev (132, 43, [none, none, vi b, vi c, vi d, vr 0 o2], [vi r10], h9)))))))) := (ev_rc [43] 120 _).trans rfl
set_option maxRecDepth 100000 in
set_option maxHeartbeats 400000 in
/-- IllLight.mutiny(IIIZ)I -/
theorem E_X8_mutiny_43 (h : PH) (x2 : Int32) (x3 : Int32) (x4 : Int32) (q5 : Nat) (s0 : Int32) : pm_ev (132, 43, [none, none, vi x2, vi x3, vi x4, vr 0 q5], [vi s0], h) = some (some (vi s0), h) := (ev_rc [43] 120 _).trans rfl
set_option maxRecDepth 100000 in
set_option maxHeartbeats 400000 in
/-- IllLight.next(IIZ)J -/
theorem E_X8_next (h : PH) (a : Int32) (b : Int32) (c : Int32) : pm_ev (133, 0, [vr 7 0, vi a, vi b, vi c, none], [], h) = (pm_bR (pm_ev (140, 0, [vr 7 0, vi a], [], h)) 2 (fun h1 => some (some (vl (-1)), h1)) fun o2 h1 => (pm_bI (pm_ev (141, 0, [vi b], [], h1)) fun r4 h3 => (if r4 = 0 then some (some (vl (-1)), h3) else (pm_bL (pm_ev (59, 0, [vr 2 o2, vi 0, vi b, none, none, none], [], h3)) fun l6 h5 => (pm_bL (pm_ev (59, 0, [vr 2 o2, vi 0, vi (-1), none, none, none], [], h5)) fun l8 h7 => pm_ev (133, 37, [none, none, vi b, vi c, vr 2 o2], [vl l8, vl l6], h7)))))) := (ev_rc [37] 120 _).trans rfl
set_option maxRecDepth 100000 in
set_option maxHeartbeats 400000 in
/-- IllLight.next(IIZ)J -/
theorem E_X8_next_37 (h : PH) (x2 : Int32) (x3 : Int32) (q4 : Nat) (s0 : Int64) (s1 : Int64) : pm_ev (133, 37, [none, none, vi x2, vi x3, vr 2 q4], [vl s0, vl s1], h) = (pm_bL (pm_ev (151, 0, [vl s1, none, vl s0, none, vi x3, none, none], [], h)) fun l10 h9 => some (some (vl l10), h9)) := (ev_rc [37] 120 _).trans rfl
set_option maxRecDepth 100000 in
set_option maxHeartbeats 400000 in
/-- IllLight.both(IIIZ)J -/
theorem E_X8_both (h : PH) (a : Int32) (b : Int32) (c : Int32) (d : Int32) : pm_ev (134, 0, [vr 7 0, vi a, vi b, vi c, vi d, none], [], h) = (pm_bR (pm_ev (140, 0, [vr 7 0, vi a], [], h)) 2 (fun h1 => some (some (vl (-1)), h1)) fun o2 h1 => (if b = c then some (some (vl (-1)), h1) else (pm_bI (pm_ev (47, 0, [vr 2 o2, vi b], [], h1)) fun r4 h3 => (if r4 = 0 then some (some (vl (-1)), h3) else (pm_bI (pm_ev (47, 0, [vr 2 o2, vi c], [], h3)) fun r6 h5 => (if r6 = 0 then some (some (vl (-1)), h5) else (pm_bL (pm_ev (59, 0, [vr 2 o2, vi (((1 : Int32) <<< (b &&& 31)) ||| ((1 : Int32) <<< (c &&& 31))), vi (-1), none, none, none], [], h5)) fun l8 h7 => pm_ev (134, 52, [none, none, vi b, vi c, vi d, vr 2 o2], [vl l8], h7)))))))) := (ev_rc [52] 120 _).trans rfl
set_option maxRecDepth 100000 in
set_option maxHeartbeats 400000 in
/-- IllLight.both(IIIZ)J -/
theorem E_X8_both_52 (h : PH) (x2 : Int32) (x3 : Int32) (x4 : Int32) (q5 : Nat) (s0 : Int64) : pm_ev (134, 52, [none, none, vi x2, vi x3, vi x4, vr 2 q5], [vl s0], h) = (pm_bL (pm_ev (59, 0, [vr 2 q5, vi 0, vi (-1), none, none, none], [], h)) fun l10 h9 => (pm_bL (pm_ev (151, 0, [vl s0, none, vl l10, none, vi x4, none, none], [], h9)) fun l12 h11 => some (some (vl l12), h11))) := (ev_rc [52] 120 _).trans rfl
set_option maxRecDepth 100000 in
set_option maxHeartbeats 400000 in
/-- IllLight.count(I)I -/
theorem E_X8_count (h : PH) (a : Int32) : pm_ev (135, 0, [vr 7 0, vi a], [], h) = (pm_bI (pm_ev (104, 0, [vr 6 0, vi a], [], h)) fun r2 h1 => some (some (vi r2), h1)) := (ev_rc [] 120 _).trans rfl
set_option maxRecDepth 100000 in
set_option maxHeartbeats 400000 in
/-- IllLight.image(I)Z -/
theorem E_X8_image (h : PH) (a : Int32) : pm_ev (136, 0, [vr 7 0, vi a], [], h) = (if a < 0 then some (some (vi 0), h) else (if a < 3 then (if pm_inb a 3 = true then (pm_bV (pm_ev (107, 0, [vr 6 (a.toNatClampNeg + 1), vr 6 0, none], [], h)) fun h1 => (if pm_inb a 3 = true then pm_ev (136, 31, [vr 7 0, vi a], [], (pm_sI h1 32 0 a.toNatClampNeg 1)) else none)) else none) else some (some (vi 0), h))) := (ev_rc [31] 120 _).trans rfl
set_option maxRecDepth 100000 in
set_option maxHeartbeats 400000 in
/-- IllLight.image(I)Z -/
theorem E_X8_image_31 (h : PH) (x1 : Int32) : pm_ev (136, 31, [vr 7 0, vi x1], [], h) = some (some (vi 1), h) := (ev_rc [31] 120 _).trans rfl
set_option maxRecDepth 100000 in
set_option maxHeartbeats 400000 in
/-- IllLight.again(I)Z -/
theorem E_X8_again (h : PH) (a : Int32) : pm_ev (137, 0, [vr 7 0, vi a], [], h) = (if a < 0 then some (some (vi 0), h) else (if a < 3 then (if pm_inb a 3 = true then (if h.1 32 0 a.toNatClampNeg = 0 then some (some (vi 0), h) else (if pm_inb a 3 = true then (pm_bV (pm_ev (107, 0, [vr 6 0, vr 6 (a.toNatClampNeg + 1), none], [], h)) fun h1 => some (some (vi 1), h1)) else none)) else none) else some (some (vi 0), h))) := (ev_rc [] 120 _).trans rfl
set_option maxRecDepth 100000 in
set_option maxHeartbeats 400000 in
/-- IllLight.coastAt(I)LIllLight$Coast; -/
theorem E_X8_coastAt (h : PH) (a : Int32) : pm_ev (138, 0, [vr 7 0, vi a], [], h) = (if a < 0 then some (some (vn), h) else (pm_bI (pm_ev (104, 0, [vr 6 0, vi 0], [], h)) fun r2 h1 => (if a < r2 then (if pm_inb a 2 = true then some (some (vr 0 a.toNatClampNeg), h1) else none) else some (some (vn), h1)))) := (ev_rc [] 120 _).trans rfl
set_option maxRecDepth 100000 in
set_option maxHeartbeats 400000 in
/-- IllLight.nightAt(I)LIllLight$Night; -/
theorem E_X8_nightAt (h : PH) (a : Int32) : pm_ev (139, 0, [vr 7 0, vi a], [], h) = (if a < 0 then some (some (vn), h) else (pm_bI (pm_ev (104, 0, [vr 6 0, vi 1], [], h)) fun r2 h1 => (if a < r2 then (if pm_inb a 2 = true then some (some (vr 3 a.toNatClampNeg), h1) else none) else some (some (vn), h1)))) := (ev_rc [] 120 _).trans rfl
set_option maxRecDepth 100000 in
set_option maxHeartbeats 400000 in
/-- IllLight.logAt(I)LIllLight$Log; -/
theorem E_X8_logAt (h : PH) (a : Int32) : pm_ev (140, 0, [vr 7 0, vi a], [], h) = (if a < 0 then some (some (vn), h) else (pm_bI (pm_ev (104, 0, [vr 6 0, vi 2], [], h)) fun r2 h1 => (if a < r2 then (if pm_inb a 2 = true then some (some (vr 2 a.toNatClampNeg), h1) else none) else some (some (vn), h1)))) := (ev_rc [] 120 _).trans rfl
set_option maxRecDepth 100000 in
set_option maxHeartbeats 400000 in
/-- IllLight.isHour(I)Z -/
theorem E_X8_isHour (h : PH) (a : Int32) : pm_ev (141, 0, [vi a], [], h) = (if a < 0 then some (some (vi 0), h) else (if a < 24 then some (some (vi 1), h) else some (some (vi 0), h))) := (ev_rc [] 120 _).trans rfl
set_option maxRecDepth 100000 in
set_option maxHeartbeats 400000 in
/-- IllLight.isLength(I)Z -/
theorem E_X8_isLength (h : PH) (a : Int32) : pm_ev (142, 0, [vi a], [], h) = (if a < 0 then some (some (vi 0), h) else (if (60 : Int32) < a then some (some (vi 0), h) else some (some (vi 1), h))) := (ev_rc [] 120 _).trans rfl
set_option maxRecDepth 100000 in
set_option maxHeartbeats 400000 in
/-- IllLight.isRange(I)Z -/
theorem E_X8_isRange (h : PH) (a : Int32) : pm_ev (143, 0, [vi a], [], h) = (if a < 0 then some (some (vi 0), h) else (if (7 : Int32) < a then some (some (vi 0), h) else some (some (vi 1), h))) := (ev_rc [] 120 _).trans rfl
set_option maxRecDepth 100000 in
set_option maxHeartbeats 400000 in
/-- IllLight.isVoyage(LIllLight$Coast;II)Z -/
theorem E_X8_isVoyage (h : PH) (a : Nat) (b : Int32) (c : Int32) : pm_ev (144, 0, [vr 0 a, vi b, vi c], [], h) = (pm_bI (pm_ev (5, 0, [vr 0 a, vi b], [], h)) fun r2 h1 => (if r2 = 0 then some (some (vi 0), h1) else (pm_bI (pm_ev (8, 0, [vr 0 a, vi c], [], h1)) fun r4 h3 => (if r4 = (-1) then some (some (vi 0), h3) else some (some (vi 1), h3))))) := (ev_rc [] 120 _).trans rfl
set_option maxRecDepth 100000 in
set_option maxHeartbeats 400000 in
/-- IllLight.isVoyage(LIllLight$Coast;II)Z -/
theorem E_X8_isVoyage_n (h : PH) (b : Int32) (c : Int32) : pm_ev (144, 0, [vn, vi b, vi c], [], h) = some (some (vi 0), h) := (ev_rc [] 120 _).trans rfl
set_option maxRecDepth 100000 in
set_option maxHeartbeats 400000 in
/-- IllLight.fewestMen(LIllLight$Coast;IIZ)I -/
theorem E_X8_fewestMen (h : PH) (a : Nat) (b : Int32) (c : Int32) (d : Int32) : pm_ev (145, 0, [vr 7 0, vr 0 a, vi b, vi c, vi d, none, none, none, none], [], h) = (if pm_inb b 4 = true then pm_ev (145, 19, [vr 7 0, vr 0 a, vi b, vi c, vi d, vi (h.1 15 a b.toNatClampNeg), vi (((1 : Int32) <<< ((h.1 15 a b.toNatClampNeg) &&& 31)) - 1), vi 0, none], [], h) else none) := (ev_rc [19, 29, 49, 77, 79, 105, 111, 117] 120 _).trans rfl
set_option maxRecDepth 100000 in
set_option maxHeartbeats 400000 in
/-- IllLight.fewestMen(LIllLight$Coast;IIZ)I -/
theorem E_X8_fewestMen_19 (h : PH) (q1 : Nat) (x2 : Int32) (x3 : Int32) (x4 : Int32) (x5 : Int32) (x6 : Int32) (x7 : Int32) : pm_ev (145, 19, [vr 7 0, vr 0 q1, vi x2, vi x3, vi x4, vi x5, vi x6, vi x7, none], [], h) = (if x5 < x7 then pm_ev (145, 117, [none, none, none, none, none, none, none, none, none], [], h) else pm_ev (145, 29, [vr 7 0, vr 0 q1, vi x2, vi x3, vi x4, vi x5, vi x6, vi x7, vi 0], [], h)) := (ev_rc [19, 29, 49, 77, 79, 105, 111, 117] 120 _).trans rfl
set_option maxRecDepth 100000 in
set_option maxHeartbeats 400000 in
/-- IllLight.fewestMen(LIllLight$Coast;IIZ)I -/
theorem E_X8_fewestMen_117 (h : PH)  : pm_ev (145, 117, [none, none, none, none, none, none, none, none, none], [], h) = some (some (vi (-1)), h) := (ev_rc [19, 29, 49, 77, 79, 105, 111, 117] 120 _).trans rfl
set_option maxRecDepth 100000 in
set_option maxHeartbeats 400000 in
/-- IllLight.fewestMen(LIllLight$Coast;IIZ)I -/
theorem E_X8_fewestMen_29 (h : PH) (q1 : Nat) (x2 : Int32) (x3 : Int32) (x4 : Int32) (x5 : Int32) (x6 : Int32) (x7 : Int32) (x8 : Int32) : pm_ev (145, 29, [vr 7 0, vr 0 q1, vi x2, vi x3, vi x4, vi x5, vi x6, vi x7, vi x8], [], h) = (if x6 < x8 then pm_ev (145, 111, [vr 7 0, vr 0 q1, vi x2, vi x3, vi x4, vi x5, vi x6, vi x7, none], [], h) else (pm_bI (pm_ev (267, 0, [vi x8], [], h)) fun r2 h1 => (if r2 = x7 then pm_ev (145, 49, [vr 7 0, vr 0 q1, vi x2, vi x3, vi x4, vi x5, vi x6, vi x7, vi x8], [], h1) else pm_ev (145, 105, [vr 7 0, vr 0 q1, vi x2, vi x3, vi x4, vi x5, vi x6, vi x7, vi x8], [], h1)))) := (ev_rc [19, 29, 49, 77, 79, 105, 111, 117] 120 _).trans rfl
set_option maxRecDepth 100000 in
set_option maxHeartbeats 400000 in
/-- IllLight.fewestMen(LIllLight$Coast;IIZ)I -/
theorem E_X8_fewestMen_111 (h : PH) (q1 : Nat) (x2 : Int32) (x3 : Int32) (x4 : Int32) (x5 : Int32) (x6 : Int32) (x7 : Int32) : pm_ev (145, 111, [vr 7 0, vr 0 q1, vi x2, vi x3, vi x4, vi x5, vi x6, vi x7, none], [], h) = pm_ev (145, 19, [vr 7 0, vr 0 q1, vi x2, vi x3, vi x4, vi x5, vi x6, vi (x7 + 1), none], [], h) := (ev_rc [19, 29, 49, 77, 79, 105, 111, 117] 120 _).trans rfl
set_option maxRecDepth 100000 in
set_option maxHeartbeats 400000 in
/-- IllLight.fewestMen(LIllLight$Coast;IIZ)I -/
theorem E_X8_fewestMen_49 (h : PH) (q1 : Nat) (x2 : Int32) (x3 : Int32) (x4 : Int32) (x5 : Int32) (x6 : Int32) (x7 : Int32) (x8 : Int32) : pm_ev (145, 49, [vr 7 0, vr 0 q1, vi x2, vi x3, vi x4, vi x5, vi x6, vi x7, vi x8], [], h) = (pm_bV (pm_ev (1, 0, [vr 0 10, vr 0 q1], [], h)) fun h3 => (if x4 = 0 then pm_ev (145, 77, [vr 7 0, vr 0 q1, vi x2, vi x3, vi x4, vi x5, vi x6, vi x7, vi x8], [vi x2, vr 0 10], h3) else pm_ev (145, 79, [vr 7 0, vr 0 q1, vi x2, vi x3, vi x4, vi x5, vi x6, vi x7, vi x8], [vi (x6 &&& (x8 ^^^ (-1))), vi x2, vr 0 10], h3))) := (ev_rc [19, 29, 49, 77, 79, 105, 111, 117] 120 _).trans rfl
set_option maxRecDepth 100000 in
set_option maxHeartbeats 400000 in
/-- IllLight.fewestMen(LIllLight$Coast;IIZ)I -/
theorem E_X8_fewestMen_105 (h : PH) (q1 : Nat) (x2 : Int32) (x3 : Int32) (x4 : Int32) (x5 : Int32) (x6 : Int32) (x7 : Int32) (x8 : Int32) : pm_ev (145, 105, [vr 7 0, vr 0 q1, vi x2, vi x3, vi x4, vi x5, vi x6, vi x7, vi x8], [], h) = pm_ev (145, 29, [vr 7 0, vr 0 q1, vi x2, vi x3, vi x4, vi x5, vi x6, vi x7, vi (x8 + 1)], [], h) := (ev_rc [19, 29, 49, 77, 79, 105, 111, 117] 120 _).trans rfl
set_option maxRecDepth 100000 in
set_option maxHeartbeats 400000 in
/-- IllLight.fewestMen(LIllLight$Coast;IIZ)I -/
theorem E_X8_fewestMen_77 (h : PH) (q1 : Nat) (x2 : Int32) (x3 : Int32) (x4 : Int32) (x5 : Int32) (x6 : Int32) (x7 : Int32) (x8 : Int32) (s0 : Int32) (s1 : Nat) : pm_ev (145, 77, [vr 7 0, vr 0 q1, vi x2, vi x3, vi x4, vi x5, vi x6, vi x7, vi x8], [vi s0, vr 0 s1], h) = pm_ev (145, 79, [vr 7 0, vr 0 q1, vi x2, vi x3, vi x4, vi x5, vi x6, vi x7, vi x8], [vi x8, vi s0, vr 0 s1], h) := (ev_rc [19, 29, 49, 77, 79, 105, 111, 117] 120 _).trans rfl
set_option maxRecDepth 100000 in
set_option maxHeartbeats 400000 in
/-- IllLight.fewestMen(LIllLight$Coast;IIZ)I -/
theorem E_X8_fewestMen_79 (h : PH) (q1 : Nat) (x2 : Int32) (x3 : Int32) (x4 : Int32) (x5 : Int32) (x6 : Int32) (x7 : Int32) (x8 : Int32) (s0 : Int32) (s1 : Int32) (s2 : Nat) : pm_ev (145, 79, [vr 7 0, vr 0 q1, vi x2, vi x3, vi x4, vi x5, vi x6, vi x7, vi x8], [vi s0, vi s1, vr 0 s2], h) = (pm_bV (pm_ev (28, 0, [vr 0 s2, vi s1, vi s0, none], [], h)) fun h4 => (pm_bI (pm_ev (20, 0, [vr 0 10, vi x2, none, none], [], h4)) fun r6 h5 => (pm_bI (pm_ev (97, 0, [vr 5 0, vi r6, vi 0, vi x3], [], h5)) fun r8 h7 => (if r8 = 0 then pm_ev (145, 105, [vr 7 0, vr 0 q1, vi x2, vi x3, vi x4, vi x5, vi x6, vi x7, vi x8], [], h7) else some (some (vi x8), h7))))) := (ev_rc [19, 29, 49, 77, 79, 105, 111, 117] 120 _).trans rfl
set_option maxRecDepth 100000 in
set_option maxHeartbeats 400000 in
/-- IllLight.leastIll(LIllLight$Coast;II)I -/
theorem E_X8_leastIll (h : PH) (a : Nat) (b : Int32) (c : Int32) : pm_ev (146, 0, [vr 7 0, vr 0 a, vi b, vi c, none], [], h) = (pm_bI (pm_ev (6, 0, [vr 0 a, vi b, vi 0], [], h)) fun r2 h1 => (if r2 = 0 then some (some (vi (-1)), h1) else (pm_bV (pm_ev (1, 0, [vr 0 10, vr 0 a], [], h1)) fun h3 => pm_ev (146, 22, [vr 7 0, none, vi b, vi c, vi 0], [], h3)))) := (ev_rc [22] 120 _).trans rfl
set_option maxRecDepth 100000 in
set_option maxHeartbeats 400000 in
/-- IllLight.leastIll(LIllLight$Coast;II)I -/
theorem E_X8_leastIll_22 (h : PH) (x2 : Int32) (x3 : Int32) (x4 : Int32) : pm_ev (146, 22, [vr 7 0, none, vi x2, vi x3, vi x4], [], h) = (if (9 : Int32) < x4 then some (some (vi (-1)), h) else (pm_bV (pm_ev (27, 0, [vr 0 10, vi x2, vi 0, vi x4], [], h)) fun h4 => (pm_bI (pm_ev (20, 0, [vr 0 10, vi x2, none, none], [], h4)) fun r6 h5 => (pm_bI (pm_ev (97, 0, [vr 5 0, vi r6, vi 0, vi x3], [], h5)) fun r8 h7 => (if r8 = 0 then pm_ev (146, 22, [vr 7 0, none, vi x2, vi x3, vi (x4 + 1)], [], h7) else some (some (vi x4), h7)))))) := (ev_rc [22] 120 _).trans rfl
set_option maxRecDepth 100000 in
set_option maxHeartbeats 400000 in
/-- IllLight.leastThrown(LIllLight$Coast;II)I -/
theorem E_X8_leastThrown (h : PH) (a : Nat) (b : Int32) (c : Int32) : pm_ev (147, 0, [vr 7 0, vr 0 a, vi b, vi c, none], [], h) = (pm_bV (pm_ev (1, 0, [vr 0 10, vr 0 a], [], h)) fun h1 => pm_ev (147, 11, [vr 7 0, vr 0 a, vi b, vi c, vi 0], [], h1)) := (ev_rc [11, 40] 120 _).trans rfl
set_option maxRecDepth 100000 in
set_option maxHeartbeats 400000 in
/-- IllLight.leastThrown(LIllLight$Coast;II)I -/
theorem E_X8_leastThrown_11 (h : PH) (q1 : Nat) (x2 : Int32) (x3 : Int32) (x4 : Int32) : pm_ev (147, 11, [vr 7 0, vr 0 q1, vi x2, vi x3, vi x4], [], h) = (if pm_inb x2 4 = true then (if h.1 13 q1 x2.toNatClampNeg < x4 then some (some (vi (-1)), h) else (if pm_inb x2 4 = true then (if pm_inb x2 4 = true then pm_ev (147, 40, [vr 7 0, vr 0 q1, vi x2, vi x3, vi x4], [], (pm_sI h 13 10 x2.toNatClampNeg ((h.1 13 q1 x2.toNatClampNeg) - x4))) else none) else none)) else none) := (ev_rc [11, 40] 120 _).trans rfl
set_option maxRecDepth 100000 in
set_option maxHeartbeats 400000 in
/-- IllLight.leastThrown(LIllLight$Coast;II)I -/
theorem E_X8_leastThrown_40 (h : PH) (q1 : Nat) (x2 : Int32) (x3 : Int32) (x4 : Int32) : pm_ev (147, 40, [vr 7 0, vr 0 q1, vi x2, vi x3, vi x4], [], h) = (pm_bI (pm_ev (20, 0, [vr 0 10, vi x2, none, none], [], h)) fun r3 h2 => (pm_bI (pm_ev (97, 0, [vr 5 0, vi r3, vi 0, vi x3], [], h2)) fun r5 h4 => (if r5 = 0 then pm_ev (147, 11, [vr 7 0, vr 0 q1, vi x2, vi x3, vi (x4 + 1)], [], h4) else some (some (vi x4), h4)))) := (ev_rc [11, 40] 120 _).trans rfl
set_option maxRecDepth 100000 in
set_option maxHeartbeats 400000 in
/-- IllLight.hoursToLeave(LIllLight$Coast;II)I -/
theorem E_X8_hoursToLeave (h : PH) (a : Nat) (b : Int32) (c : Int32) : pm_ev (148, 0, [vr 7 0, vr 0 a, vi b, vi c, none, none, none], [], h) = (pm_bI (pm_ev (20, 0, [vr 0 a, vi b, none, none], [], h)) fun r2 h1 => pm_ev (148, 13, [vr 7 0, none, none, vi c, vi r2, vi 0, vi 0], [], h1)) := (ev_rc [13] 120 _).trans rfl
set_option maxRecDepth 100000 in
set_option maxHeartbeats 400000 in
/-- IllLight.hoursToLeave(LIllLight$Coast;II)I -/
theorem E_X8_hoursToLeave_13 (h : PH) (x3 : Int32) (x4 : Int32) (x5 : Int32) (x6 : Int32) : pm_ev (148, 13, [vr 7 0, none, none, vi x3, vi x4, vi x5, vi x6], [], h) = (if x6 < 24 then (pm_bI (pm_ev (97, 0, [vr 5 0, vi x4, vi x6, vi x3], [], h)) fun r4 h3 => (if r4 = 0 then pm_ev (148, 13, [vr 7 0, none, none, vi x3, vi x4, vi x5, vi (x6 + 1)], [], h3) else pm_ev (148, 13, [vr 7 0, none, none, vi x3, vi x4, vi (x5 ||| ((1 : Int32) <<< (x6 &&& 31))), vi (x6 + 1)], [], h3))) else some (some (vi x5), h)) := (ev_rc [13] 120 _).trans rfl
set_option maxRecDepth 100000 in
set_option maxHeartbeats 400000 in
/-- IllLight.firstOf(I)I -/
theorem E_X8_firstOf (h : PH) (a : Int32) : pm_ev (149, 0, [vi a, none], [], h) = pm_ev (149, 2, [vi a, vi 0], [], h) := (ev_rc [2] 120 _).trans rfl
set_option maxRecDepth 100000 in
set_option maxHeartbeats 400000 in
/-- IllLight.firstOf(I)I -/
theorem E_X8_firstOf_2 (h : PH) (x0 : Int32) (x1 : Int32) : pm_ev (149, 2, [vi x0, vi x1], [], h) = (if x1 < 24 then (if (x0 >>> (x1 &&& 31)) &&& 1 = 0 then pm_ev (149, 2, [vi x0, vi (x1 + 1)], [], h) else some (some (vi x1), h)) else some (some (vi (-1)), h)) := (ev_rc [2] 120 _).trans rfl
set_option maxRecDepth 100000 in
set_option maxHeartbeats 400000 in
/-- IllLight.longestRow(I)I -/
theorem E_X8_longestRow (h : PH) (a : Int32) : pm_ev (150, 0, [vi a, none, none, none], [], h) = pm_ev (150, 6, [vi a, vi 0, vi 0, vi 0], [], h) := (ev_rc [6] 120 _).trans rfl
set_option maxRecDepth 100000 in
set_option maxHeartbeats 400000 in
/-- IllLight.longestRow(I)I -/
theorem E_X8_longestRow_6 (h : PH) (x0 : Int32) (x1 : Int32) (x2 : Int32) (x3 : Int32) : pm_ev (150, 6, [vi x0, vi x1, vi x2, vi x3], [], h) = (if x3 < 24 then (if (x0 >>> (x3 &&& 31)) &&& 1 = 0 then pm_ev (150, 6, [vi x0, vi (if x1 < (0 : Int32) then 0 else x1), vi 0, vi (x3 + 1)], [], h) else pm_ev (150, 6, [vi x0, vi (if x1 < x2 + 1 then x2 + 1 else x1), vi (x2 + 1), vi (x3 + 1)], [], h)) else some (some (vi x1), h)) := (ev_rc [6] 120 _).trans rfl
set_option maxRecDepth 100000 in
set_option maxHeartbeats 400000 in
/-- IllLight.leastTerms(JJZ)J -/
theorem E_X8_leastTerms (h : PH) (a : Int64) (b : Int64) (c : Int32) : pm_ev (151, 0, [vl a, none, vl b, none, vi c, none, none], [], h) = (if lg_cmp b 0 = 0 then (if c = 0 then some (some (vl 0), h) else some (some (vl 1), h)) else (pm_bL (pm_ev (152, 0, [vl a, none, vl b, none, none, none, none], [], h)) fun l2 h1 => (if lg_cmp l2 0 = 0 then some (some (vl (-1)), h1) else (if c = 0 then (if l2 = 0 then none else some (some (vl (a / l2)), h1)) else (if l2 = 0 then none else some (some (vl (b / l2)), h1)))))) := (ev_rc [] 120 _).trans rfl
set_option maxRecDepth 100000 in
set_option maxHeartbeats 400000 in
/-- IllLight.commonDivisor(JJ)J -/
theorem E_X8_commonDivisor (h : PH) (a : Int64) (b : Int64) : pm_ev (152, 0, [vl a, none, vl b, none, none, none, none], [], h) = pm_ev (152, 3, [vl a, none, vl b, none, vi 0, none, none], [], h) := (ev_rc [3] 120 _).trans rfl
set_option maxRecDepth 100000 in
set_option maxHeartbeats 400000 in
/-- IllLight.commonDivisor(JJ)J -/
theorem E_X8_commonDivisor_3 (h : PH) (y0 : Int64) (y2 : Int64) (x4 : Int32) : pm_ev (152, 3, [vl y0, none, vl y2, none, vi x4, none, none], [], h) = (if x4 < 1000 then (if lg_cmp y2 0 = 0 then some (some (vl y0), h) else (if y2 = 0 then none else pm_ev (152, 3, [vl y2, none, vl (y0 - y0 / y2 * y2), none, vi (x4 + 1), none, none], [], h))) else some (some (vl y0), h)) := (ev_rc [3] 120 _).trans rfl
