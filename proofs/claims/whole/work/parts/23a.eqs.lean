set_option maxRecDepth 100000 in
set_option maxHeartbeats 400000 in
/-- IllLightModel.isIn(III)Z -/
theorem E_X9_isIn (h : PH) (a : Int32) (b : Int32) (c : Int32) : pm_ev (153, 0, [vi a, vi b, vi c], [], h) = (if a < b then some (some (vi 0), h) else (if c < a then some (some (vi 0), h) else some (some (vi 1), h))) := (ev_rc [] 120 _).trans rfl
set_option maxRecDepth 100000 in
set_option maxHeartbeats 400000 in
/-- IllLightModel.placeOf(II)I -/
theorem E_X9_placeOf (h : PH) (a : Int32) (b : Int32) : pm_ev (178, 0, [vi a, vi b], [], h) = (if a = 0 then some (some (vi (610 + (142 * b))), h) else (if a = 1 then some (some (vi (894 + (161 * b))), h) else some (some (vi (1216 + (30 * b))), h))) := (ev_rc [] 120 _).trans rfl
set_option maxRecDepth 100000 in
set_option maxHeartbeats 400000 in
/-- IllLightModel.isOf(II)Z -/
theorem E_X9_isOf (h : PH) (a : Int32) (b : Int32) : pm_ev (180, 0, [vr 8 0, vi a, vi b], [], h) = (if pm_inb a 5104 = true then pm_ev (180, 8, [vr 8 0, vi a, vi b], [vi (h.1 33 0 a.toNatClampNeg), vi 0, vi b], h) else none) := (ev_rc [8] 120 _).trans rfl
set_option maxRecDepth 100000 in
set_option maxHeartbeats 400000 in
/-- IllLightModel.isOf(II)Z -/
theorem E_X9_isOf_8 (h : PH) (x1 : Int32) (x2 : Int32) (s0 : Int32) (s1 : Int32) (s2 : Int32) : pm_ev (180, 8, [vr 8 0, vi x1, vi x2], [vi s0, vi s1, vi s2], h) = (pm_bI (pm_ev (153, 0, [vi s2, vi s1, vi (s0 - 1)], [], h)) fun r2 h1 => (if r2 &&& 1 = r2 then some (some (vi r2), h1) else none)) := (ev_rc [8] 120 _).trans rfl
set_option maxRecDepth 100000 in
set_option maxHeartbeats 400000 in
/-- IllLightModel.fault(I)I -/
theorem E_X9_fault (h : PH) (a : Int32) : pm_ev (184, 0, [vr 8 0, vi a], [], h) = (if a = 0 then pm_ev (184, 10, [vr 8 0, vi a], [vi (h.1 33 0 ((5 : Int32).toNatClampNeg))], h) else (if a = 1 then pm_ev (184, 25, [vr 8 0, vi a], [vi (h.1 33 0 ((6 : Int32).toNatClampNeg))], h) else some (some (vi (-1)), h))) := (ev_rc [10, 25] 120 _).trans rfl
set_option maxRecDepth 100000 in
set_option maxHeartbeats 400000 in
/-- IllLightModel.fault(I)I -/
theorem E_X9_fault_10 (h : PH) (x1 : Int32) (s0 : Int32) : pm_ev (184, 10, [vr 8 0, vi x1], [vi s0], h) = some (some (vi s0), h) := (ev_rc [10, 25] 120 _).trans rfl
set_option maxRecDepth 100000 in
set_option maxHeartbeats 400000 in
/-- IllLightModel.fault(I)I -/
theorem E_X9_fault_25 (h : PH) (x1 : Int32) (s0 : Int32) : pm_ev (184, 25, [vr 8 0, vi x1], [vi s0], h) = some (some (vi s0), h) := (ev_rc [10, 25] 120 _).trans rfl
set_option maxRecDepth 100000 in
set_option maxHeartbeats 400000 in
/-- IllLightModel.isCoast(I)Z -/
theorem E_X9_isCoast (h : PH) (a : Int32) : pm_ev (185, 0, [vr 8 0, vi a], [], h) = (pm_bI (pm_ev (180, 0, [vr 8 0, vi 0, vi a], [], h)) fun r2 h1 => pm_ev (185, 6, [vr 8 0, vi a], [vi r2], h1)) := (ev_rc [6, 17, 20, 30, 33, 45, 48, 60, 63] 120 _).trans rfl
set_option maxRecDepth 100000 in
set_option maxHeartbeats 400000 in
/-- IllLightModel.isCoast(I)Z -/
theorem E_X9_isCoast_6 (h : PH) (x1 : Int32) (s0 : Int32) : pm_ev (185, 6, [vr 8 0, vi x1], [vi s0], h) = (if s0 = 0 then some (some (vi 0), h) else (pm_bI (pm_ev (178, 0, [vi 0, vi x1], [], h)) fun r4 h3 => pm_ev (185, 17, [vr 8 0, vi x1], [vi r4, vr 8 0], h3))) := (ev_rc [6, 17, 20, 30, 33, 45, 48, 60, 63] 120 _).trans rfl
set_option maxRecDepth 100000 in
set_option maxHeartbeats 400000 in
/-- IllLightModel.isCoast(I)Z -/
theorem E_X9_isCoast_17 (h : PH) (x1 : Int32) (s0 : Int32) (s1 : Nat) : pm_ev (185, 17, [vr 8 0, vi x1], [vi s0, vr 8 s1], h) = pm_ev (185, 20, [vr 8 0, vi x1], [], (pm_sI h 8 s1 13 s0)) := (ev_rc [6, 17, 20, 30, 33, 45, 48, 60, 63] 120 _).trans rfl
set_option maxRecDepth 100000 in
set_option maxHeartbeats 400000 in
/-- IllLightModel.isCoast(I)Z -/
theorem E_X9_isCoast_20 (h : PH) (x1 : Int32) : pm_ev (185, 20, [vr 8 0, vi x1], [], h) = (if pm_inb (h.1 8 0 13) 5104 = true then pm_ev (185, 30, [vr 8 0, vi x1], [vi (h.1 33 0 ((h.1 8 0 13).toNatClampNeg)), vr 8 0], h) else none) := (ev_rc [6, 17, 20, 30, 33, 45, 48, 60, 63] 120 _).trans rfl
set_option maxRecDepth 100000 in
set_option maxHeartbeats 400000 in
/-- IllLightModel.isCoast(I)Z -/
theorem E_X9_isCoast_30 (h : PH) (x1 : Int32) (s0 : Int32) (s1 : Nat) : pm_ev (185, 30, [vr 8 0, vi x1], [vi s0, vr 8 s1], h) = pm_ev (185, 33, [vr 8 0, vi x1], [], (pm_sI h 8 s1 14 s0)) := (ev_rc [6, 17, 20, 30, 33, 45, 48, 60, 63] 120 _).trans rfl
set_option maxRecDepth 100000 in
set_option maxHeartbeats 400000 in
/-- IllLightModel.isCoast(I)Z -/
theorem E_X9_isCoast_33 (h : PH) (x1 : Int32) : pm_ev (185, 33, [vr 8 0, vi x1], [], h) = (if pm_inb ((h.1 8 0 13) + 1) 5104 = true then pm_ev (185, 45, [vr 8 0, vi x1], [vi (h.1 33 0 (((h.1 8 0 13) + 1).toNatClampNeg)), vr 8 0], h) else none) := (ev_rc [6, 17, 20, 30, 33, 45, 48, 60, 63] 120 _).trans rfl
set_option maxRecDepth 100000 in
set_option maxHeartbeats 400000 in
/-- IllLightModel.isCoast(I)Z -/
theorem E_X9_isCoast_45 (h : PH) (x1 : Int32) (s0 : Int32) (s1 : Nat) : pm_ev (185, 45, [vr 8 0, vi x1], [vi s0, vr 8 s1], h) = pm_ev (185, 48, [vr 8 0, vi x1], [], (pm_sI h 8 s1 15 s0)) := (ev_rc [6, 17, 20, 30, 33, 45, 48, 60, 63] 120 _).trans rfl
set_option maxRecDepth 100000 in
set_option maxHeartbeats 400000 in
/-- IllLightModel.isCoast(I)Z -/
theorem E_X9_isCoast_48 (h : PH) (x1 : Int32) : pm_ev (185, 48, [vr 8 0, vi x1], [], h) = (if pm_inb ((h.1 8 0 13) + 5) 5104 = true then pm_ev (185, 60, [vr 8 0, vi x1], [vi (h.1 33 0 (((h.1 8 0 13) + 5).toNatClampNeg)), vr 8 0], h) else none) := (ev_rc [6, 17, 20, 30, 33, 45, 48, 60, 63] 120 _).trans rfl
set_option maxRecDepth 100000 in
set_option maxHeartbeats 400000 in
/-- IllLightModel.isCoast(I)Z -/
theorem E_X9_isCoast_60 (h : PH) (x1 : Int32) (s0 : Int32) (s1 : Nat) : pm_ev (185, 60, [vr 8 0, vi x1], [vi s0, vr 8 s1], h) = pm_ev (185, 63, [vr 8 0, vi x1], [], (pm_sI h 8 s1 16 s0)) := (ev_rc [6, 17, 20, 30, 33, 45, 48, 60, 63] 120 _).trans rfl
set_option maxRecDepth 100000 in
set_option maxHeartbeats 400000 in
/-- IllLightModel.isCoast(I)Z -/
theorem E_X9_isCoast_63 (h : PH) (x1 : Int32) : pm_ev (185, 63, [vr 8 0, vi x1], [], h) = some (some (vi 1), h) := (ev_rc [6, 17, 20, 30, 33, 45, 48, 60, 63] 120 _).trans rfl
set_option maxRecDepth 100000 in
set_option maxHeartbeats 400000 in
/-- IllLightModel.isCell(I)Z -/
theorem E_X9_isCell (h : PH) (a : Int32) : pm_ev (186, 0, [vr 8 0, vi a], [], h) = (pm_bI (pm_ev (153, 0, [vi a, vi 0, vi (((h.1 8 0 14) * (h.1 8 0 15)) - 1)], [], h)) fun r2 h1 => (if r2 &&& 1 = r2 then some (some (vi r2), h1) else none)) := (ev_rc [] 120 _).trans rfl
set_option maxRecDepth 100000 in
set_option maxHeartbeats 400000 in
/-- IllLightModel.isShip(I)Z -/
theorem E_X9_isShip (h : PH) (a : Int32) : pm_ev (187, 0, [vr 8 0, vi a], [], h) = (pm_bI (pm_ev (153, 0, [vi a, vi 0, vi ((h.1 8 0 16) - 1)], [], h)) fun r2 h1 => (if r2 &&& 1 = r2 then some (some (vi r2), h1) else none)) := (ev_rc [] 120 _).trans rfl
set_option maxRecDepth 100000 in
set_option maxHeartbeats 400000 in
/-- IllLightModel.of(II)I -/
theorem E_X9_of (h : PH) (a : Int32) (b : Int32) : pm_ev (188, 0, [vr 8 0, vi a, vi b], [], h) = (if pm_inb ((((h.1 8 0 13) + 14) + (4 * a)) + b) 5104 = true then pm_ev (188, 18, [vr 8 0, vi a, vi b], [vi (h.1 33 0 (((((h.1 8 0 13) + 14) + (4 * a)) + b).toNatClampNeg))], h) else none) := (ev_rc [18] 120 _).trans rfl
set_option maxRecDepth 100000 in
set_option maxHeartbeats 400000 in
/-- IllLightModel.of(II)I -/
theorem E_X9_of_18 (h : PH) (x1 : Int32) (x2 : Int32) (s0 : Int32) : pm_ev (188, 18, [vr 8 0, vi x1, vi x2], [vi s0], h) = some (some (vi s0), h) := (ev_rc [18] 120 _).trans rfl
set_option maxRecDepth 100000 in
set_option maxHeartbeats 400000 in
/-- IllLightModel.coast(II)I -/
theorem E_X9_coast (h : PH) (a : Int32) (b : Int32) : pm_ev (189, 0, [vr 8 0, vi a, vi b, none], [], h) = (pm_bI (pm_ev (185, 0, [vr 8 0, vi a], [], h)) fun r2 h1 => (if r2 = 0 then some (some (vi (-1)), h1) else (pm_bI (pm_ev (153, 0, [vi b, vi 0, vi 5], [], h1)) fun r4 h3 => pm_ev (189, 16, [vr 8 0, none, vi b, none], [vi r4], h3)))) := (ev_rc [16, 30, 69, 83, 98, 123, 124, 145] 120 _).trans rfl
set_option maxRecDepth 100000 in
set_option maxHeartbeats 400000 in
/-- IllLightModel.coast(II)I -/
theorem E_X9_coast_16 (h : PH) (x2 : Int32) (s0 : Int32) : pm_ev (189, 16, [vr 8 0, none, vi x2, none], [vi s0], h) = (if s0 = 0 then (pm_bI (pm_ev (153, 0, [vi x2, vi 100, vi (99 + ((h.1 8 0 14) * (h.1 8 0 15)))], [], h)) fun r6 h5 => (if r6 = 0 then (pm_bI (pm_ev (153, 0, [vi x2, vi 10, vi 29], [], h5)) fun r8 h7 => pm_ev (189, 83, [vr 8 0, none, vi x2, vi (x2 - x2 / 10 * 10)], [vi r8], h7)) else (if pm_inb ((((h5.1 8 0 13) + 78) + x2) - 100) 5104 = true then pm_ev (189, 69, [vr 8 0, none, vi x2, none], [vi (h5.1 33 0 (((((h5.1 8 0 13) + 78) + x2) - 100).toNatClampNeg))], h5) else none))) else (if pm_inb ((h.1 8 0 13) + x2) 5104 = true then pm_ev (189, 30, [vr 8 0, none, vi x2, none], [vi (h.1 33 0 (((h.1 8 0 13) + x2).toNatClampNeg))], h) else none)) := (ev_rc [16, 30, 69, 83, 98, 123, 124, 145] 120 _).trans rfl
set_option maxRecDepth 100000 in
set_option maxHeartbeats 400000 in
/-- IllLightModel.coast(II)I -/
theorem E_X9_coast_83 (h : PH) (x2 : Int32) (x3 : Int32) (s0 : Int32) : pm_ev (189, 83, [vr 8 0, none, vi x2, vi x3], [vi s0], h) = (if s0 = 0 then (pm_bI (pm_ev (153, 0, [vi x2, vi 30, vi 69], [], h)) fun r10 h9 => (if r10 = 0 then some (some (vi (-1)), h9) else (pm_bI (pm_ev (187, 0, [vr 8 0, vi x3], [], h9)) fun r12 h11 => pm_ev (189, 145, [vr 8 0, none, vi x2, vi x3], [vi r12], h11)))) else (if pm_inb ((h.1 8 0 13) + 4) 5104 = true then pm_ev (189, 98, [vr 8 0, none, vi x2, vi x3], [vi (h.1 33 0 (((h.1 8 0 13) + 4).toNatClampNeg)), vi x3], h) else none)) := (ev_rc [16, 30, 69, 83, 98, 123, 124, 145] 120 _).trans rfl
set_option maxRecDepth 100000 in
set_option maxHeartbeats 400000 in
/-- IllLightModel.coast(II)I -/
theorem E_X9_coast_69 (h : PH) (x2 : Int32) (s0 : Int32) : pm_ev (189, 69, [vr 8 0, none, vi x2, none], [vi s0], h) = some (some (vi s0), h) := (ev_rc [16, 30, 69, 83, 98, 123, 124, 145] 120 _).trans rfl
set_option maxRecDepth 100000 in
set_option maxHeartbeats 400000 in
/-- IllLightModel.coast(II)I -/
theorem E_X9_coast_30 (h : PH) (x2 : Int32) (s0 : Int32) : pm_ev (189, 30, [vr 8 0, none, vi x2, none], [vi s0], h) = some (some (vi s0), h) := (ev_rc [16, 30, 69, 83, 98, 123, 124, 145] 120 _).trans rfl
set_option maxRecDepth 100000 in
set_option maxHeartbeats 400000 in
/-- IllLightModel.coast(II)I -/
theorem E_X9_coast_145 (h : PH) (x2 : Int32) (x3 : Int32) (s0 : Int32) : pm_ev (189, 145, [vr 8 0, none, vi x2, vi x3], [vi s0], h) = (if s0 = 0 then some (some (vi (-1)), h) else (pm_bI (pm_ev (188, 0, [vr 8 0, vi x3, vi ((x2 / 10) - 3)], [], h)) fun r14 h13 => some (some (vi r14), h13))) := (ev_rc [16, 30, 69, 83, 98, 123, 124, 145] 120 _).trans rfl
set_option maxRecDepth 100000 in
set_option maxHeartbeats 400000 in
/-- IllLightModel.coast(II)I -/
theorem E_X9_coast_98 (h : PH) (x2 : Int32) (x3 : Int32) (s0 : Int32) (s1 : Int32) : pm_ev (189, 98, [vr 8 0, none, vi x2, vi x3], [vi s0, vi s1], h) = (if s1 < s0 then pm_ev (189, 123, [vr 8 0, none, vi x2, vi x3], [vi (((((h.1 8 0 13) + 6) + (2 * x3)) + (x2 / 10)) - 1), vr 33 0], h) else some (some (vi (-1)), h)) := (ev_rc [16, 30, 69, 83, 98, 123, 124, 145] 120 _).trans rfl
set_option maxRecDepth 100000 in
set_option maxHeartbeats 400000 in
/-- IllLightModel.coast(II)I -/
theorem E_X9_coast_123 (h : PH) (x2 : Int32) (x3 : Int32) (s0 : Int32) (s1 : Nat) : pm_ev (189, 123, [vr 8 0, none, vi x2, vi x3], [vi s0, vr 33 s1], h) = (if pm_inb s0 5104 = true then pm_ev (189, 124, [vr 8 0, none, vi x2, vi x3], [vi (h.1 33 s1 s0.toNatClampNeg)], h) else none) := (ev_rc [16, 30, 69, 83, 98, 123, 124, 145] 120 _).trans rfl
set_option maxRecDepth 100000 in
set_option maxHeartbeats 400000 in
/-- IllLightModel.coast(II)I -/
theorem E_X9_coast_124 (h : PH) (x2 : Int32) (x3 : Int32) (s0 : Int32) : pm_ev (189, 124, [vr 8 0, none, vi x2, vi x3], [vi s0], h) = some (some (vi s0), h) := (ev_rc [16, 30, 69, 83, 98, 123, 124, 145] 120 _).trans rfl
set_option maxRecDepth 100000 in
set_option maxHeartbeats 400000 in
/-- IllLightModel.man(IIII)I -/
theorem E_X9_man (h : PH) (a : Int32) (b : Int32) (c : Int32) (d : Int32) : pm_ev (190, 0, [vr 8 0, vi a, vi b, vi c, vi d], [], h) = (pm_bI (pm_ev (185, 0, [vr 8 0, vi a], [], h)) fun r2 h1 => (if r2 = 0 then some (some (vi (-1)), h1) else (pm_bI (pm_ev (187, 0, [vr 8 0, vi b], [], h1)) fun r4 h3 => pm_ev (190, 13, [vr 8 0, vi a, vi b, vi c, vi d], [vi r4], h3)))) := (ev_rc [13, 29, 68] 120 _).trans rfl
set_option maxRecDepth 100000 in
set_option maxHeartbeats 400000 in
/-- IllLightModel.man(IIII)I -/
theorem E_X9_man_13 (h : PH) (x1 : Int32) (x2 : Int32) (x3 : Int32) (x4 : Int32) (s0 : Int32) : pm_ev (190, 13, [vr 8 0, vi x1, vi x2, vi x3, vi x4], [vi s0], h) = (if s0 = 0 then some (some (vi (-1)), h) else (pm_bI (pm_ev (188, 0, [vr 8 0, vi x2, vi 3], [], h)) fun r6 h5 => (pm_bI (pm_ev (153, 0, [vi x3, vi 0, vi (r6 - 1)], [], h5)) fun r8 h7 => pm_ev (190, 29, [vr 8 0, vi x1, vi x2, vi x3, vi x4], [vi r8], h7)))) := (ev_rc [13, 29, 68] 120 _).trans rfl
set_option maxRecDepth 100000 in
set_option maxHeartbeats 400000 in
/-- IllLightModel.man(IIII)I -/
theorem E_X9_man_29 (h : PH) (x1 : Int32) (x2 : Int32) (x3 : Int32) (x4 : Int32) (s0 : Int32) : pm_ev (190, 29, [vr 8 0, vi x1, vi x2, vi x3, vi x4], [vi s0], h) = (if s0 = 0 then some (some (vi (-1)), h) else (pm_bI (pm_ev (153, 0, [vi x4, vi 0, vi 2], [], h)) fun r10 h9 => (if r10 = 0 then some (some (vi (-1)), h9) else (if pm_inb (((((h9.1 8 0 13) + 30) + (12 * x2)) + (3 * x3)) + x4) 5104 = true then pm_ev (190, 68, [vr 8 0, none, vi x2, vi x3, vi x4], [vi (h9.1 33 0 ((((((h9.1 8 0 13) + 30) + (12 * x2)) + (3 * x3)) + x4).toNatClampNeg))], h9) else none)))) := (ev_rc [13, 29, 68] 120 _).trans rfl
set_option maxRecDepth 100000 in
set_option maxHeartbeats 400000 in
/-- IllLightModel.man(IIII)I -/
theorem E_X9_man_68 (h : PH) (x2 : Int32) (x3 : Int32) (x4 : Int32) (s0 : Int32) : pm_ev (190, 68, [vr 8 0, none, vi x2, vi x3, vi x4], [vi s0], h) = some (some (vi s0), h) := (ev_rc [13, 29, 68] 120 _).trans rfl
set_option maxRecDepth 100000 in
set_option maxHeartbeats 400000 in
/-- IllLightModel.asTold()V -/
theorem E_X9_asTold (h : PH)  : pm_ev (191, 0, [vr 8 0, none], [], h) = pm_ev (191, 2, [vr 8 0, vi 0], [], h) := (ev_rc [2, 27, 28, 36, 53] 120 _).trans rfl
set_option maxRecDepth 100000 in
set_option maxHeartbeats 400000 in
/-- IllLightModel.asTold()V -/
theorem E_X9_asTold_2 (h : PH) (x1 : Int32) : pm_ev (191, 2, [vr 8 0, vi x1], [], h) = (if x1 < 48 then (if pm_inb (((h.1 8 0 13) + 30) + x1) 5104 = true then pm_ev (191, 27, [vr 8 0, vi x1], [vi (h.1 33 0 ((((h.1 8 0 13) + 30) + x1).toNatClampNeg)), vi x1, vr 36 0], h) else none) else pm_ev (191, 36, [vr 8 0, vi 0], [], h)) := (ev_rc [2, 27, 28, 36, 53] 120 _).trans rfl
set_option maxRecDepth 100000 in
set_option maxHeartbeats 400000 in
/-- IllLightModel.asTold()V -/
theorem E_X9_asTold_27 (h : PH) (x1 : Int32) (s0 : Int32) (s1 : Int32) (s2 : Nat) : pm_ev (191, 27, [vr 8 0, vi x1], [vi s0, vi s1, vr 36 s2], h) = (if pm_inb s1 48 = true then pm_ev (191, 28, [vr 8 0, vi x1], [], (pm_sI h 36 s2 s1.toNatClampNeg s0)) else none) := (ev_rc [2, 27, 28, 36, 53] 120 _).trans rfl
set_option maxRecDepth 100000 in
set_option maxHeartbeats 400000 in
/-- IllLightModel.asTold()V -/
theorem E_X9_asTold_36 (h : PH) (x1 : Int32) : pm_ev (191, 36, [vr 8 0, vi x1], [], h) = (if x1 < 4 then (pm_bI (pm_ev (188, 0, [vr 8 0, vi x1, vi 1], [], h)) fun r2 h1 => (if pm_inb x1 4 = true then pm_ev (191, 53, [vr 8 0, vi x1], [], (pm_sI h1 37 0 x1.toNatClampNeg r2)) else none)) else some (none, (pm_sI h 8 0 19 15))) := (ev_rc [2, 27, 28, 36, 53] 120 _).trans rfl
set_option maxRecDepth 100000 in
set_option maxHeartbeats 400000 in
/-- IllLightModel.asTold()V -/
theorem E_X9_asTold_28 (h : PH) (x1 : Int32) : pm_ev (191, 28, [vr 8 0, vi x1], [], h) = pm_ev (191, 2, [vr 8 0, vi (x1 + 1)], [], h) := (ev_rc [2, 27, 28, 36, 53] 120 _).trans rfl
set_option maxRecDepth 100000 in
set_option maxHeartbeats 400000 in
/-- IllLightModel.asTold()V -/
theorem E_X9_asTold_53 (h : PH) (x1 : Int32) : pm_ev (191, 53, [vr 8 0, vi x1], [], h) = pm_ev (191, 36, [vr 8 0, vi (x1 + 1)], [], h) := (ev_rc [2, 27, 28, 36, 53] 120 _).trans rfl
set_option maxRecDepth 100000 in
set_option maxHeartbeats 400000 in
/-- IllLightModel.meansAlone(II)I -/
theorem E_X9_meansAlone (h : PH) (a : Int32) (b : Int32) : pm_ev (192, 0, [vr 8 0, vi a, vi b, none], [], h) = (if pm_inb (a + 1) 48 = true then pm_ev (192, 8, [vr 8 0, vi a, vi b, none], [vi (h.1 36 0 ((a + 1).toNatClampNeg))], h) else none) := (ev_rc [8, 15, 63, 90] 120 _).trans rfl
set_option maxRecDepth 100000 in
set_option maxHeartbeats 400000 in
/-- IllLightModel.meansAlone(II)I -/
theorem E_X9_meansAlone_8 (h : PH) (x1 : Int32) (x2 : Int32) (s0 : Int32) : pm_ev (192, 8, [vr 8 0, vi x1, vi x2, none], [vi s0], h) = (if pm_inb x1 48 = true then pm_ev (192, 15, [vr 8 0, vi x1, vi x2, vi s0], [vi (h.1 36 0 x1.toNatClampNeg)], h) else none) := (ev_rc [8, 15, 63, 90] 120 _).trans rfl
set_option maxRecDepth 100000 in
set_option maxHeartbeats 400000 in
/-- IllLightModel.meansAlone(II)I -/
theorem E_X9_meansAlone_15 (h : PH) (x1 : Int32) (x2 : Int32) (x3 : Int32) (s0 : Int32) : pm_ev (192, 15, [vr 8 0, vi x1, vi x2, vi x3], [vi s0], h) = (if s0 = 0 then some (some (vi x3), h) else (if s0 = 1 then some (some (vi 0), h) else (if s0 = 2 then (if pm_inb (x1 + 2) 48 = true then pm_ev (192, 63, [vr 8 0, vi x1, vi x2, vi x3], [vi (h.1 36 0 ((x1 + 2).toNatClampNeg)), vi x2], h) else none) else (if s0 = 3 then (if x2 - x2 / 2 * 2 = 0 then some (some (vi x3), h) else some (some (vi 0), h)) else (if s0 = 4 then some (some (vi 0), h) else (if s0 = 5 then (if pm_inb x3 4 = true then pm_ev (192, 90, [vr 8 0, none, none, vi x3], [vi (h.1 37 0 x3.toNatClampNeg)], h) else none) else some (some (vi 0), h))))))) := (ev_rc [8, 15, 63, 90] 120 _).trans rfl
set_option maxRecDepth 100000 in
set_option maxHeartbeats 400000 in
/-- IllLightModel.meansAlone(II)I -/
theorem E_X9_meansAlone_90 (h : PH) (x3 : Int32) (s0 : Int32) : pm_ev (192, 90, [vr 8 0, none, none, vi x3], [vi s0], h) = some (some (vi s0), h) := (ev_rc [8, 15, 63, 90] 120 _).trans rfl
set_option maxRecDepth 100000 in
set_option maxHeartbeats 400000 in
/-- IllLightModel.meansAlone(II)I -/
theorem E_X9_meansAlone_63 (h : PH) (x1 : Int32) (x2 : Int32) (x3 : Int32) (s0 : Int32) (s1 : Int32) : pm_ev (192, 63, [vr 8 0, vi x1, vi x2, vi x3], [vi s0, vi s1], h) = (if s1 < s0 then some (some (vi x3), h) else some (some (vi 0), h)) := (ev_rc [8, 15, 63, 90] 120 _).trans rfl
set_option maxRecDepth 100000 in
set_option maxHeartbeats 400000 in
/-- IllLightModel.means(III)I -/
theorem E_X9_means (h : PH) (a : Int32) (b : Int32) (c : Int32) : pm_ev (193, 0, [vr 8 0, vi a, vi b, vi c, none], [], h) = (if pm_inb ((12 * a) + (3 * b)) 48 = true then pm_ev (193, 17, [vr 8 0, vi a, vi b, vi c, vi ((12 * a) + (3 * b))], [vi (h.1 36 0 (((12 * a) + (3 * b)).toNatClampNeg))], h) else none) := (ev_rc [17] 120 _).trans rfl
set_option maxRecDepth 100000 in
set_option maxHeartbeats 400000 in
/-- IllLightModel.means(III)I -/
theorem E_X9_means_17 (h : PH) (x1 : Int32) (x2 : Int32) (x3 : Int32) (x4 : Int32) (s0 : Int32) : pm_ev (193, 17, [vr 8 0, vi x1, vi x2, vi x3, vi x4], [vi s0], h) = (if s0 = 1 then (if x2 = 0 then some (some (vi 0), h) else (if (h.1 8 0 19) &&& 1 = 0 then some (some (vi 0), h) else (pm_bI (pm_ev (192, 0, [vr 8 0, vi (12 * x1), vi x3, none], [], h)) fun r2 h1 => some (some (vi r2), h1)))) else (pm_bI (pm_ev (192, 0, [vr 8 0, vi x4, vi x3, none], [], h)) fun r4 h3 => some (some (vi r4), h3))) := (ev_rc [17] 120 _).trans rfl
set_option maxRecDepth 100000 in
set_option maxHeartbeats 400000 in
/-- IllLightModel.harmOf(II)I -/
theorem E_X9_harmOf (h : PH) (a : Int32) (b : Int32) : pm_ev (194, 0, [vr 8 0, vi a, vi b, none, none], [], h) = (if pm_inb a 4 = true then pm_ev (194, 6, [vr 8 0, vi a, vi b, none, none], [vi (h.1 37 0 a.toNatClampNeg)], h) else none) := (ev_rc [6, 19, 52] 120 _).trans rfl
set_option maxRecDepth 100000 in
set_option maxHeartbeats 400000 in
/-- IllLightModel.harmOf(II)I -/
theorem E_X9_harmOf_6 (h : PH) (x1 : Int32) (x2 : Int32) (s0 : Int32) : pm_ev (194, 6, [vr 8 0, vi x1, vi x2, none, none], [vi s0], h) = (pm_bI (pm_ev (188, 0, [vr 8 0, vi x1, vi 2], [], h)) fun r2 h1 => pm_ev (194, 19, [vr 8 0, vi x1, vi x2, vi (s0 - (2 * r2)), vi 0], [], h1)) := (ev_rc [6, 19, 52] 120 _).trans rfl
set_option maxRecDepth 100000 in
set_option maxHeartbeats 400000 in
/-- IllLightModel.harmOf(II)I -/
theorem E_X9_harmOf_19 (h : PH) (x1 : Int32) (x2 : Int32) (x3 : Int32) (x4 : Int32) : pm_ev (194, 19, [vr 8 0, vi x1, vi x2, vi x3, vi x4], [], h) = (pm_bI (pm_ev (188, 0, [vr 8 0, vi x1, vi 3], [], h)) fun r4 h3 => (if x4 < r4 then (if ((h3.1 8 0 19) >>> (x4 &&& 31)) &&& 1 = 1 then (pm_bI (pm_ev (193, 0, [vr 8 0, vi x1, vi x4, vi x2, none], [], h3)) fun r6 h5 => pm_ev (194, 52, [vr 8 0, vi x1, vi x2, vi x3, vi x4], [vi r6, vi x3], h5)) else pm_ev (194, 19, [vr 8 0, vi x1, vi x2, vi (x3 + 0), vi (x4 + 1)], [], h3)) else (if (0 : Int32) < x3 then some (some (vi x3), h3) else some (some (vi 0), h3)))) := (ev_rc [6, 19, 52] 120 _).trans rfl
set_option maxRecDepth 100000 in
set_option maxHeartbeats 400000 in
/-- IllLightModel.harmOf(II)I -/
theorem E_X9_harmOf_52 (h : PH) (x1 : Int32) (x2 : Int32) (x3 : Int32) (x4 : Int32) (s0 : Int32) (s1 : Int32) : pm_ev (194, 52, [vr 8 0, vi x1, vi x2, vi x3, vi x4], [vi s0, vi s1], h) = pm_ev (194, 19, [vr 8 0, vi x1, vi x2, vi (s1 + s0), vi (x4 + 1)], [], h) := (ev_rc [6, 19, 52] 120 _).trans rfl
set_option maxRecDepth 100000 in
set_option maxHeartbeats 400000 in
/-- IllLightModel.lightOf(II)I -/
theorem E_X9_lightOf (h : PH) (a : Int32) (b : Int32) : pm_ev (195, 0, [vr 8 0, vi a, vi b, none, none], [], h) = (pm_bI (pm_ev (194, 0, [vr 8 0, vi a, vi b, none, none], [], h)) fun r2 h1 => (if pm_inb ((h1.1 8 0 13) + 3) 5104 = true then pm_ev (195, 17, [vr 8 0, vi a, vi b, none, none], [vi (h1.1 33 0 (((h1.1 8 0 13) + 3).toNatClampNeg)), vi r2], h1) else none)) := (ev_rc [17, 27, 69] 120 _).trans rfl
set_option maxRecDepth 100000 in
set_option maxHeartbeats 400000 in
/-- IllLightModel.lightOf(II)I -/
theorem E_X9_lightOf_17 (h : PH) (x1 : Int32) (x2 : Int32) (s0 : Int32) (s1 : Int32) : pm_ev (195, 17, [vr 8 0, vi x1, vi x2, none, none], [vi s0, vi s1], h) = (if s1 < s0 then some (some (vi 0), h) else pm_ev (195, 27, [vr 8 0, vi x1, vi x2, vi 0, vi 0], [], h)) := (ev_rc [17, 27, 69] 120 _).trans rfl
set_option maxRecDepth 100000 in
set_option maxHeartbeats 400000 in
/-- IllLightModel.lightOf(II)I -/
theorem E_X9_lightOf_27 (h : PH) (x1 : Int32) (x2 : Int32) (x3 : Int32) (x4 : Int32) : pm_ev (195, 27, [vr 8 0, vi x1, vi x2, vi x3, vi x4], [], h) = (pm_bI (pm_ev (188, 0, [vr 8 0, vi x1, vi 3], [], h)) fun r4 h3 => (if x4 < r4 then (if x3 = 0 then (if ((h3.1 8 0 19) >>> (x4 &&& 31)) &&& 1 = 1 then (if pm_inb ((12 * x1) + (3 * x4)) 48 = true then pm_ev (195, 69, [vr 8 0, vi x1, vi x2, vi x3, vi x4], [vi (h3.1 36 0 (((12 * x1) + (3 * x4)).toNatClampNeg))], h3) else none) else pm_ev (195, 27, [vr 8 0, vi x1, vi x2, vi 0, vi (x4 + 1)], [], h3)) else pm_ev (195, 27, [vr 8 0, vi x1, vi x2, vi 1, vi (x4 + 1)], [], h3)) else (if x3 = 0 then some (some (vi 2), h3) else some (some (vi 1), h3)))) := (ev_rc [17, 27, 69] 120 _).trans rfl
set_option maxRecDepth 100000 in
set_option maxHeartbeats 400000 in
/-- IllLightModel.lightOf(II)I -/
theorem E_X9_lightOf_69 (h : PH) (x1 : Int32) (x2 : Int32) (x3 : Int32) (x4 : Int32) (s0 : Int32) : pm_ev (195, 69, [vr 8 0, vi x1, vi x2, vi x3, vi x4], [vi s0], h) = (if s0 = 4 then pm_ev (195, 27, [vr 8 0, vi x1, vi x2, vi 0, vi (x4 + 1)], [], h) else (pm_bI (pm_ev (193, 0, [vr 8 0, vi x1, vi x4, vi x2, none], [], h)) fun r6 h5 => (if r6 = 0 then pm_ev (195, 27, [vr 8 0, vi x1, vi x2, vi 1, vi (x4 + 1)], [], h5) else pm_ev (195, 27, [vr 8 0, vi x1, vi x2, vi 0, vi (x4 + 1)], [], h5)))) := (ev_rc [17, 27, 69] 120 _).trans rfl
set_option maxRecDepth 100000 in
set_option maxHeartbeats 400000 in
/-- IllLightModel.isLit(II)Z -/
theorem E_X9_isLit (h : PH) (a : Int32) (b : Int32) : pm_ev (196, 0, [vr 8 0, vi a, vi b, none], [], h) = (pm_bI (pm_ev (195, 0, [vr 8 0, vi a, vi b, none, none], [], h)) fun r2 h1 => (if r2 = 2 then some (some (vi 1), h1) else (if r2 = 1 then (if b - b / 2 * 2 = 0 then some (some (vi 1), h1) else some (some (vi 0), h1)) else some (some (vi 0), h1)))) := (ev_rc [] 120 _).trans rfl
set_option maxRecDepth 100000 in
set_option maxHeartbeats 400000 in
/-- IllLightModel.light(IIII)I -/
theorem E_X9_light (h : PH) (a : Int32) (b : Int32) (c : Int32) (d : Int32) : pm_ev (197, 0, [vr 8 0, vi a, vi b, vi c, vi d], [], h) = (pm_bI (pm_ev (185, 0, [vr 8 0, vi a], [], h)) fun r2 h1 => (if r2 = 0 then some (some (vi (-1)), h1) else (pm_bI (pm_ev (187, 0, [vr 8 0, vi b], [], h1)) fun r4 h3 => pm_ev (197, 13, [vr 8 0, vi a, vi b, vi c, vi d], [vi r4], h3)))) := (ev_rc [13, 32, 48] 120 _).trans rfl
set_option maxRecDepth 100000 in
set_option maxHeartbeats 400000 in
/-- IllLightModel.light(IIII)I -/
theorem E_X9_light_13 (h : PH) (x1 : Int32) (x2 : Int32) (x3 : Int32) (x4 : Int32) (s0 : Int32) : pm_ev (197, 13, [vr 8 0, vi x1, vi x2, vi x3, vi x4], [vi s0], h) = (if s0 = 0 then some (some (vi (-1)), h) else (pm_bI (pm_ev (153, 0, [vi x3, vi 0, vi 23], [], h)) fun r6 h5 => (if r6 = 0 then some (some (vi (-1)), h5) else (pm_bV (pm_ev (191, 0, [vr 8 0, none], [], h5)) fun h7 => pm_ev (197, 32, [vr 8 0, none, vi x2, vi x3, vi x4], [], h7))))) := (ev_rc [13, 32, 48] 120 _).trans rfl
set_option maxRecDepth 100000 in
set_option maxHeartbeats 400000 in
/-- IllLightModel.light(IIII)I -/
theorem E_X9_light_32 (h : PH) (x2 : Int32) (x3 : Int32) (x4 : Int32) : pm_ev (197, 32, [vr 8 0, none, vi x2, vi x3, vi x4], [], h) = (pm_bI (pm_ev (188, 0, [vr 8 0, vi x2, vi 3], [], h)) fun r9 h8 => (pm_bI (pm_ev (153, 0, [vi x4, vi 10, vi (9 + r9)], [], h8)) fun r11 h10 => pm_ev (197, 48, [vr 8 0, none, vi x2, vi x3, vi x4], [vi r11], h10))) := (ev_rc [13, 32, 48] 120 _).trans rfl
set_option maxRecDepth 100000 in
set_option maxHeartbeats 400000 in
/-- IllLightModel.light(IIII)I -/
theorem E_X9_light_48 (h : PH) (x2 : Int32) (x3 : Int32) (x4 : Int32) (s0 : Int32) : pm_ev (197, 48, [vr 8 0, none, vi x2, vi x3, vi x4], [vi s0], h) = (if s0 = 0 then (if x4 = 0 then (pm_bI (pm_ev (194, 0, [vr 8 0, vi x2, vi x3, none, none], [], h)) fun r13 h12 => some (some (vi r13), h12)) else (if x4 = 1 then (pm_bI (pm_ev (195, 0, [vr 8 0, vi x2, vi x3, none, none], [], h)) fun r15 h14 => some (some (vi r15), h14)) else (if x4 = 2 then (pm_bI (pm_ev (196, 0, [vr 8 0, vi x2, vi x3, none], [], h)) fun r17 h16 => (if r17 = 0 then some (some (vi 0), h16) else some (some (vi 1), h16))) else some (some (vi (-1)), h)))) else (pm_bI (pm_ev (193, 0, [vr 8 0, vi x2, vi (x4 - 10), vi x3, none], [], h)) fun r19 h18 => some (some (vi r19), h18))) := (ev_rc [13, 32, 48] 120 _).trans rfl
set_option maxRecDepth 100000 in
set_option maxHeartbeats 400000 in
/-- IllLightModel.isNight(I)Z -/
theorem E_X9_isNight (h : PH) (a : Int32) : pm_ev (198, 0, [vr 8 0, vi a], [], h) = (pm_bI (pm_ev (180, 0, [vr 8 0, vi 1, vi a], [], h)) fun r2 h1 => (if r2 = 0 then some (some (vi 0), h1) else (pm_bI (pm_ev (178, 0, [vi 1, vi a], [], h1)) fun r4 h3 => pm_ev (198, 17, [vr 8 0, vi a], [vi r4, vr 8 0], h3)))) := (ev_rc [17] 120 _).trans rfl
set_option maxRecDepth 100000 in
set_option maxHeartbeats 400000 in
/-- IllLightModel.isNight(I)Z -/
theorem E_X9_isNight_17 (h : PH) (x1 : Int32) (s0 : Int32) (s1 : Nat) : pm_ev (198, 17, [vr 8 0, vi x1], [vi s0, vr 8 s1], h) = some (some (vi 1), (pm_sI h 8 s1 20 s0)) := (ev_rc [17] 120 _).trans rfl
set_option maxRecDepth 100000 in
set_option maxHeartbeats 400000 in
/-- IllLightModel.deed(III)I -/
theorem E_X9_deed (h : PH) (a : Int32) (b : Int32) (c : Int32) : pm_ev (199, 0, [vr 8 0, vi a, vi b, vi c], [], h) = (pm_bI (pm_ev (198, 0, [vr 8 0, vi a], [], h)) fun r2 h1 => (if r2 = 0 then some (some (vi (-2)), h1) else (if b = (-1) then (if c = 0 then (if pm_inb (h1.1 8 0 20) 5104 = true then pm_ev (199, 29, [vr 8 0, none, vi b, vi c], [vi (h1.1 33 0 ((h1.1 8 0 20).toNatClampNeg))], h1) else none) else some (some (vi (-2)), h1)) else (if pm_inb (h1.1 8 0 20) 5104 = true then pm_ev (199, 46, [vr 8 0, none, vi b, vi c], [vi (h1.1 33 0 ((h1.1 8 0 20).toNatClampNeg)), vi 0, vi b], h1) else none)))) := (ev_rc [29, 46, 60, 80] 120 _).trans rfl
set_option maxRecDepth 100000 in
set_option maxHeartbeats 400000 in
/-- IllLightModel.deed(III)I -/
theorem E_X9_deed_29 (h : PH) (x2 : Int32) (x3 : Int32) (s0 : Int32) : pm_ev (199, 29, [vr 8 0, none, vi x2, vi x3], [vi s0], h) = some (some (vi s0), h) := (ev_rc [29, 46, 60, 80] 120 _).trans rfl
set_option maxRecDepth 100000 in
set_option maxHeartbeats 400000 in
/-- IllLightModel.deed(III)I -/
theorem E_X9_deed_46 (h : PH) (x2 : Int32) (x3 : Int32) (s0 : Int32) (s1 : Int32) (s2 : Int32) : pm_ev (199, 46, [vr 8 0, none, vi x2, vi x3], [vi s0, vi s1, vi s2], h) = (pm_bI (pm_ev (153, 0, [vi s2, vi s1, vi (s0 - 1)], [], h)) fun r4 h3 => (if r4 = 0 then some (some (vi (-2)), h3) else (pm_bI (pm_ev (153, 0, [vi x3, vi 0, vi 3], [], h3)) fun r6 h5 => pm_ev (199, 60, [vr 8 0, none, vi x2, vi x3], [vi r6], h5)))) := (ev_rc [29, 46, 60, 80] 120 _).trans rfl
set_option maxRecDepth 100000 in
set_option maxHeartbeats 400000 in
/-- IllLightModel.deed(III)I -/
theorem E_X9_deed_60 (h : PH) (x2 : Int32) (x3 : Int32) (s0 : Int32) : pm_ev (199, 60, [vr 8 0, none, vi x2, vi x3], [vi s0], h) = (if s0 = 0 then some (some (vi (-2)), h) else (if pm_inb ((((h.1 8 0 20) + 1) + (4 * x2)) + x3) 5104 = true then pm_ev (199, 80, [vr 8 0, none, vi x2, vi x3], [vi (h.1 33 0 (((((h.1 8 0 20) + 1) + (4 * x2)) + x3).toNatClampNeg))], h) else none)) := (ev_rc [29, 46, 60, 80] 120 _).trans rfl
set_option maxRecDepth 100000 in
set_option maxHeartbeats 400000 in
/-- IllLightModel.deed(III)I -/
theorem E_X9_deed_80 (h : PH) (x2 : Int32) (x3 : Int32) (s0 : Int32) : pm_ev (199, 80, [vr 8 0, none, vi x2, vi x3], [vi s0], h) = some (some (vi s0), h) := (ev_rc [29, 46, 60, 80] 120 _).trans rfl
set_option maxRecDepth 100000 in
set_option maxHeartbeats 400000 in
/-- IllLightModel.begins()V -/
theorem E_X9_begins (h : PH)  : pm_ev (200, 0, [vr 8 0, none], [], h) = (pm_bV (pm_ev (191, 0, [vr 8 0, none], [], h)) fun h1 => pm_ev (200, 6, [vr 8 0, vi 0], [], h1)) := (ev_rc [6, 23] 120 _).trans rfl
set_option maxRecDepth 100000 in
set_option maxHeartbeats 400000 in
/-- IllLightModel.begins()V -/
theorem E_X9_begins_6 (h : PH) (x1 : Int32) : pm_ev (200, 6, [vr 8 0, vi x1], [], h) = (if x1 < 4 then (pm_bI (pm_ev (188, 0, [vr 8 0, vi x1, vi 0], [], h)) fun r3 h2 => (if pm_inb x1 4 = true then pm_ev (200, 23, [vr 8 0, vi x1], [], (pm_sI h2 38 0 x1.toNatClampNeg r3)) else none)) else some (none, (pm_sI (pm_sI (pm_sI (pm_sI (pm_sI h 8 0 22 0) 8 0 23 0) 8 0 24 0) 8 0 25 0) 8 0 26 0))) := (ev_rc [6, 23] 120 _).trans rfl
set_option maxRecDepth 100000 in
set_option maxHeartbeats 400000 in
/-- IllLightModel.begins()V -/
theorem E_X9_begins_23 (h : PH) (x1 : Int32) : pm_ev (200, 23, [vr 8 0, vi x1], [], h) = pm_ev (200, 6, [vr 8 0, vi (x1 + 1)], [], h) := (ev_rc [6, 23] 120 _).trans rfl
set_option maxRecDepth 100000 in
set_option maxHeartbeats 400000 in
/-- IllLightModel.isLost(I)Z -/
theorem E_X9_isLost (h : PH) (a : Int32) : pm_ev (201, 0, [vr 8 0, vi a], [], h) = (if (((h.1 8 0 23) ||| (h.1 8 0 24)) >>> (a &&& 31)) &&& 1 = 1 then some (some (vi 1), h) else some (some (vi 0), h)) := (ev_rc [] 120 _).trans rfl
set_option maxRecDepth 100000 in
set_option maxHeartbeats 400000 in
/-- IllLightModel.stepTo(II)I -/
theorem E_X9_stepTo (h : PH) (a : Int32) (b : Int32) : pm_ev (202, 0, [vr 8 0, vi a, vi b, none, none], [], h) = (if h.1 8 0 14 = 0 then none else (if b = 1 then (if h.1 8 0 14 = 0 then none else (if b = 2 then (pm_bI (pm_ev (153, 0, [vi ((a - a / (h.1 8 0 14) * (h.1 8 0 14)) + 1), vi 0, vi ((h.1 8 0 14) - 1)], [], h)) fun r2 h1 => (if r2 = 0 then pm_ev (202, 95, [none, none, none, none, none], [], h1) else pm_ev (202, 68, [vr 8 0, none, none, vi ((a - a / (h.1 8 0 14) * (h.1 8 0 14)) + 1), vi ((a / (h.1 8 0 14)) + 1)], [], h1))) else (if b = 0 then (pm_bI (pm_ev (153, 0, [vi ((a - a / (h.1 8 0 14) * (h.1 8 0 14)) + 1), vi 0, vi ((h.1 8 0 14) - 1)], [], h)) fun r4 h3 => (if r4 = 0 then pm_ev (202, 95, [none, none, none, none, none], [], h3) else pm_ev (202, 68, [vr 8 0, none, none, vi ((a - a / (h.1 8 0 14) * (h.1 8 0 14)) + 1), vi ((a / (h.1 8 0 14)) + (-1))], [], h3))) else (pm_bI (pm_ev (153, 0, [vi ((a - a / (h.1 8 0 14) * (h.1 8 0 14)) + 1), vi 0, vi ((h.1 8 0 14) - 1)], [], h)) fun r6 h5 => (if r6 = 0 then pm_ev (202, 95, [none, none, none, none, none], [], h5) else pm_ev (202, 68, [vr 8 0, none, none, vi ((a - a / (h.1 8 0 14) * (h.1 8 0 14)) + 1), vi ((a / (h.1 8 0 14)) + 0)], [], h5)))))) else (if b = 3 then (if h.1 8 0 14 = 0 then none else (if b = 2 then (pm_bI (pm_ev (153, 0, [vi ((a - a / (h.1 8 0 14) * (h.1 8 0 14)) + (-1)), vi 0, vi ((h.1 8 0 14) - 1)], [], h)) fun r8 h7 => (if r8 = 0 then pm_ev (202, 95, [none, none, none, none, none], [], h7) else pm_ev (202, 68, [vr 8 0, none, none, vi ((a - a / (h.1 8 0 14) * (h.1 8 0 14)) + (-1)), vi ((a / (h.1 8 0 14)) + 1)], [], h7))) else (if b = 0 then (pm_bI (pm_ev (153, 0, [vi ((a - a / (h.1 8 0 14) * (h.1 8 0 14)) + (-1)), vi 0, vi ((h.1 8 0 14) - 1)], [], h)) fun r10 h9 => (if r10 = 0 then pm_ev (202, 95, [none, none, none, none, none], [], h9) else pm_ev (202, 68, [vr 8 0, none, none, vi ((a - a / (h.1 8 0 14) * (h.1 8 0 14)) + (-1)), vi ((a / (h.1 8 0 14)) + (-1))], [], h9))) else (pm_bI (pm_ev (153, 0, [vi ((a - a / (h.1 8 0 14) * (h.1 8 0 14)) + (-1)), vi 0, vi ((h.1 8 0 14) - 1)], [], h)) fun r12 h11 => (if r12 = 0 then pm_ev (202, 95, [none, none, none, none, none], [], h11) else pm_ev (202, 68, [vr 8 0, none, none, vi ((a - a / (h.1 8 0 14) * (h.1 8 0 14)) + (-1)), vi ((a / (h.1 8 0 14)) + 0)], [], h11)))))) else (if h.1 8 0 14 = 0 then none else (if b = 2 then (pm_bI (pm_ev (153, 0, [vi ((a - a / (h.1 8 0 14) * (h.1 8 0 14)) + 0), vi 0, vi ((h.1 8 0 14) - 1)], [], h)) fun r14 h13 => (if r14 = 0 then pm_ev (202, 95, [none, none, none, none, none], [], h13) else pm_ev (202, 68, [vr 8 0, none, none, vi ((a - a / (h.1 8 0 14) * (h.1 8 0 14)) + 0), vi ((a / (h.1 8 0 14)) + 1)], [], h13))) else (if b = 0 then (pm_bI (pm_ev (153, 0, [vi ((a - a / (h.1 8 0 14) * (h.1 8 0 14)) + 0), vi 0, vi ((h.1 8 0 14) - 1)], [], h)) fun r16 h15 => (if r16 = 0 then pm_ev (202, 95, [none, none, none, none, none], [], h15) else pm_ev (202, 68, [vr 8 0, none, none, vi ((a - a / (h.1 8 0 14) * (h.1 8 0 14)) + 0), vi ((a / (h.1 8 0 14)) + (-1))], [], h15))) else (pm_bI (pm_ev (153, 0, [vi ((a - a / (h.1 8 0 14) * (h.1 8 0 14)) + 0), vi 0, vi ((h.1 8 0 14) - 1)], [], h)) fun r18 h17 => (if r18 = 0 then pm_ev (202, 95, [none, none, none, none, none], [], h17) else pm_ev (202, 68, [vr 8 0, none, none, vi ((a - a / (h.1 8 0 14) * (h.1 8 0 14)) + 0), vi ((a / (h.1 8 0 14)) + 0)], [], h17))))))))) := (ev_rc [68, 80, 95] 120 _).trans rfl
set_option maxRecDepth 100000 in
set_option maxHeartbeats 400000 in
/-- IllLightModel.stepTo(II)I -/
theorem E_X9_stepTo_95 (h : PH)  : pm_ev (202, 95, [none, none, none, none, none], [], h) = some (some (vi (-1)), h) := (ev_rc [68, 80, 95] 120 _).trans rfl
set_option maxRecDepth 100000 in
set_option maxHeartbeats 400000 in
/-- IllLightModel.stepTo(II)I -/
theorem E_X9_stepTo_68 (h : PH) (x3 : Int32) (x4 : Int32) : pm_ev (202, 68, [vr 8 0, none, none, vi x3, vi x4], [], h) = (pm_bI (pm_ev (153, 0, [vi x4, vi 0, vi ((h.1 8 0 15) - 1)], [], h)) fun r20 h19 => pm_ev (202, 80, [vr 8 0, none, none, vi x3, vi x4], [vi r20], h19)) := (ev_rc [68, 80, 95] 120 _).trans rfl
set_option maxRecDepth 100000 in
set_option maxHeartbeats 400000 in
/-- IllLightModel.stepTo(II)I -/
theorem E_X9_stepTo_80 (h : PH) (x3 : Int32) (x4 : Int32) (s0 : Int32) : pm_ev (202, 80, [vr 8 0, none, none, vi x3, vi x4], [vi s0], h) = (if s0 = 0 then pm_ev (202, 95, [none, none, none, none, none], [], h) else some (some (vi (((h.1 8 0 14) * x4) + x3)), h)) := (ev_rc [68, 80, 95] 120 _).trans rfl
set_option maxRecDepth 100000 in
set_option maxHeartbeats 400000 in
/-- IllLightModel.far(II)I -/
theorem E_X9_far (h : PH) (a : Int32) (b : Int32) : pm_ev (203, 0, [vi a, vi b], [], h) = (if b < a then some (some (vi (a - b)), h) else some (some (vi (b - a)), h)) := (ev_rc [] 120 _).trans rfl
set_option maxRecDepth 100000 in
set_option maxHeartbeats 400000 in
/-- IllLightModel.apart(II)I -/
theorem E_X9_apart (h : PH) (a : Int32) (b : Int32) : pm_ev (204, 0, [vr 8 0, vi a, vi b], [], h) = (if h.1 8 0 14 = 0 then none else (if h.1 8 0 14 = 0 then none else (pm_bI (pm_ev (203, 0, [vi (a - a / (h.1 8 0 14) * (h.1 8 0 14)), vi (b - b / (h.1 8 0 14) * (h.1 8 0 14))], [], h)) fun r2 h1 => (if h1.1 8 0 14 = 0 then none else (if h1.1 8 0 14 = 0 then none else (pm_bI (pm_ev (203, 0, [vi (a / (h1.1 8 0 14)), vi (b / (h1.1 8 0 14))], [], h1)) fun r4 h3 => pm_ev (204, 30, [vr 8 0, vi a, vi b], [vi r4, vi r2], h3))))))) := (ev_rc [30] 120 _).trans rfl
set_option maxRecDepth 100000 in
set_option maxHeartbeats 400000 in
/-- IllLightModel.apart(II)I -/
theorem E_X9_apart_30 (h : PH) (x1 : Int32) (x2 : Int32) (s0 : Int32) (s1 : Int32) : pm_ev (204, 30, [vr 8 0, vi x1, vi x2], [vi s0, vi s1], h) = some (some (vi (s1 + s0)), h) := (ev_rc [30] 120 _).trans rfl
set_option maxRecDepth 100000 in
set_option maxHeartbeats 400000 in
/-- IllLightModel.side(I)I -/
theorem E_X9_side (h : PH) (a : Int32) : pm_ev (205, 0, [vi a], [], h) = (if (0 : Int32) < a then some (some (vi 1), h) else (if a < 0 then some (some (vi (-1)), h) else some (some (vi 0), h))) := (ev_rc [] 120 _).trans rfl
set_option maxRecDepth 100000 in
set_option maxHeartbeats 400000 in
/-- IllLightModel.isBetween(II)Z -/
theorem E_X9_isBetween (h : PH) (a : Int32) (b : Int32) : pm_ev (206, 0, [vr 8 0, vi a, vi b, none, none, none, none, none], [], h) = (if pm_inb ((h.1 8 0 13) + 2) 5104 = true then pm_ev (206, 11, [vr 8 0, vi a, vi b, none, none, none, none, none], [vi (h.1 33 0 (((h.1 8 0 13) + 2).toNatClampNeg))], h) else none) := (ev_rc [11, 72, 92, 105, 122] 120 _).trans rfl
set_option maxRecDepth 100000 in
set_option maxHeartbeats 400000 in
/-- IllLightModel.isBetween(II)Z -/
theorem E_X9_isBetween_11 (h : PH) (x1 : Int32) (x2 : Int32) (s0 : Int32) : pm_ev (206, 11, [vr 8 0, vi x1, vi x2, none, none, none, none, none], [vi s0], h) = (if h.1 8 0 14 = 0 then none else (if h.1 8 0 14 = 0 then none else (if h.1 8 0 14 = 0 then none else (if h.1 8 0 14 = 0 then none else (if h.1 8 0 14 = 0 then none else (if h.1 8 0 14 = 0 then none else (if h.1 8 0 14 = 0 then none else (if h.1 8 0 14 = 0 then none else pm_ev (206, 72, [vr 8 0, vi x1, vi x2, vi s0, vi ((x2 - x2 / (h.1 8 0 14) * (h.1 8 0 14)) - (s0 - s0 / (h.1 8 0 14) * (h.1 8 0 14))), vi ((x2 / (h.1 8 0 14)) - (s0 / (h.1 8 0 14))), vi ((x1 - x1 / (h.1 8 0 14) * (h.1 8 0 14)) - (s0 - s0 / (h.1 8 0 14) * (h.1 8 0 14))), vi ((x1 / (h.1 8 0 14)) - (s0 / (h.1 8 0 14)))], [], h))))))))) := (ev_rc [11, 72, 92, 105, 122] 120 _).trans rfl
set_option maxRecDepth 100000 in
set_option maxHeartbeats 400000 in
/-- IllLightModel.isBetween(II)Z -/
theorem E_X9_isBetween_72 (h : PH) (x1 : Int32) (x2 : Int32) (x3 : Int32) (x4 : Int32) (x5 : Int32) (x6 : Int32) (x7 : Int32) : pm_ev (206, 72, [vr 8 0, vi x1, vi x2, vi x3, vi x4, vi x5, vi x6, vi x7], [], h) = (if x4 = 0 then (pm_bI (pm_ev (205, 0, [vi x4], [], h)) fun r2 h1 => (pm_bI (pm_ev (205, 0, [vi x6], [], h1)) fun r4 h3 => pm_ev (206, 92, [vr 8 0, vi x1, vi x2, vi x3, vi x4, vi x5, vi x6, vi x7], [vi r4, vi r2], h3))) else (if x5 = 0 then (pm_bI (pm_ev (205, 0, [vi x4], [], h)) fun r6 h5 => (pm_bI (pm_ev (205, 0, [vi x6], [], h5)) fun r8 h7 => pm_ev (206, 92, [vr 8 0, vi x1, vi x2, vi x3, vi x4, vi x5, vi x6, vi x7], [vi r8, vi r6], h7))) else some (some (vi 0), h))) := (ev_rc [11, 72, 92, 105, 122] 120 _).trans rfl
set_option maxRecDepth 100000 in
set_option maxHeartbeats 400000 in
/-- IllLightModel.isBetween(II)Z -/
theorem E_X9_isBetween_92 (h : PH) (x1 : Int32) (x2 : Int32) (x3 : Int32) (x4 : Int32) (x5 : Int32) (x6 : Int32) (x7 : Int32) (s0 : Int32) (s1 : Int32) : pm_ev (206, 92, [vr 8 0, vi x1, vi x2, vi x3, vi x4, vi x5, vi x6, vi x7], [vi s0, vi s1], h) = (if s1 = s0 then (pm_bI (pm_ev (205, 0, [vi x5], [], h)) fun r10 h9 => (pm_bI (pm_ev (205, 0, [vi x7], [], h9)) fun r12 h11 => pm_ev (206, 105, [vr 8 0, vi x1, vi x2, vi x3, vi x4, vi x5, vi x6, vi x7], [vi r12, vi r10], h11))) else some (some (vi 0), h)) := (ev_rc [11, 72, 92, 105, 122] 120 _).trans rfl
set_option maxRecDepth 100000 in
set_option maxHeartbeats 400000 in
/-- IllLightModel.isBetween(II)Z -/
theorem E_X9_isBetween_105 (h : PH) (x1 : Int32) (x2 : Int32) (x3 : Int32) (x4 : Int32) (x5 : Int32) (x6 : Int32) (x7 : Int32) (s0 : Int32) (s1 : Int32) : pm_ev (206, 105, [vr 8 0, vi x1, vi x2, vi x3, vi x4, vi x5, vi x6, vi x7], [vi s0, vi s1], h) = (if s1 = s0 then (pm_bI (pm_ev (204, 0, [vr 8 0, vi x1, vi x3], [], h)) fun r14 h13 => (pm_bI (pm_ev (204, 0, [vr 8 0, vi x2, vi x3], [], h13)) fun r16 h15 => pm_ev (206, 122, [vr 8 0, vi x1, vi x2, vi x3, none, none, none, none], [vi r16, vi r14], h15))) else some (some (vi 0), h)) := (ev_rc [11, 72, 92, 105, 122] 120 _).trans rfl
set_option maxRecDepth 100000 in
set_option maxHeartbeats 400000 in
/-- IllLightModel.isBetween(II)Z -/
theorem E_X9_isBetween_122 (h : PH) (x1 : Int32) (x2 : Int32) (x3 : Int32) (s0 : Int32) (s1 : Int32) : pm_ev (206, 122, [vr 8 0, vi x1, vi x2, vi x3, none, none, none, none], [vi s0, vi s1], h) = (if s1 < s0 then some (some (vi 1), h) else some (some (vi 0), h)) := (ev_rc [11, 72, 92, 105, 122] 120 _).trans rfl
set_option maxRecDepth 100000 in
set_option maxHeartbeats 400000 in
/-- IllLightModel.shadeOf(I)I -/
theorem E_X9_shadeOf (h : PH) (a : Int32) : pm_ev (207, 0, [vr 8 0, vi a, none, none], [], h) = pm_ev (207, 4, [vr 8 0, vi a, vi (-1), vi 0], [], h) := (ev_rc [4, 32, 38, 58] 120 _).trans rfl
set_option maxRecDepth 100000 in
set_option maxHeartbeats 400000 in
/-- IllLightModel.shadeOf(I)I -/
theorem E_X9_shadeOf_4 (h : PH) (x1 : Int32) (x2 : Int32) (x3 : Int32) : pm_ev (207, 4, [vr 8 0, vi x1, vi x2, vi x3], [], h) = (if x3 < h.1 8 0 16 then (if x3 = x1 then pm_ev (207, 4, [vr 8 0, vi x1, vi x2, vi (x3 + 1)], [], h) else (pm_bI (pm_ev (201, 0, [vr 8 0, vi x3], [], h)) fun r2 h1 => (if r2 = 0 then (if pm_inb x3 4 = true then pm_ev (207, 32, [vr 8 0, vi x1, vi x2, vi x3], [vi (h1.1 38 0 x3.toNatClampNeg), vr 8 0], h1) else none) else pm_ev (207, 4, [vr 8 0, vi x1, vi x2, vi (x3 + 1)], [], h1)))) else some (some (vi x2), h)) := (ev_rc [4, 32, 38, 58] 120 _).trans rfl
set_option maxRecDepth 100000 in
set_option maxHeartbeats 400000 in
/-- IllLightModel.shadeOf(I)I -/
theorem E_X9_shadeOf_32 (h : PH) (x1 : Int32) (x2 : Int32) (x3 : Int32) (s0 : Int32) (s1 : Nat) : pm_ev (207, 32, [vr 8 0, vi x1, vi x2, vi x3], [vi s0, vr 8 s1], h) = (if pm_inb x1 4 = true then pm_ev (207, 38, [vr 8 0, vi x1, vi x2, vi x3], [vi (h.1 38 0 x1.toNatClampNeg), vi s0, vr 8 s1], h) else none) := (ev_rc [4, 32, 38, 58] 120 _).trans rfl
set_option maxRecDepth 100000 in
set_option maxHeartbeats 400000 in
/-- IllLightModel.shadeOf(I)I -/
theorem E_X9_shadeOf_38 (h : PH) (x1 : Int32) (x2 : Int32) (x3 : Int32) (s0 : Int32) (s1 : Int32) (s2 : Nat) : pm_ev (207, 38, [vr 8 0, vi x1, vi x2, vi x3], [vi s0, vi s1, vr 8 s2], h) = (pm_bI (pm_ev (206, 0, [vr 8 s2, vi s1, vi s0, none, none, none, none, none], [], h)) fun r4 h3 => (if r4 = 0 then pm_ev (207, 4, [vr 8 0, vi x1, vi x2, vi (x3 + 1)], [], h3) else (if x2 = (-1) then pm_ev (207, 4, [vr 8 0, vi x1, vi x3, vi (x3 + 1)], [], h3) else (pm_bI (pm_ev (208, 0, [vr 8 0, vi x3, vi x2], [], h3)) fun r6 h5 => pm_ev (207, 58, [vr 8 0, vi x1, vi x2, vi x3], [vi r6], h5))))) := (ev_rc [4, 32, 38, 58] 120 _).trans rfl
set_option maxRecDepth 100000 in
set_option maxHeartbeats 400000 in
/-- IllLightModel.shadeOf(I)I -/
theorem E_X9_shadeOf_58 (h : PH) (x1 : Int32) (x2 : Int32) (x3 : Int32) (s0 : Int32) : pm_ev (207, 58, [vr 8 0, vi x1, vi x2, vi x3], [vi s0], h) = (if s0 = 0 then pm_ev (207, 4, [vr 8 0, vi x1, vi x2, vi (x3 + 1)], [], h) else pm_ev (207, 4, [vr 8 0, vi x1, vi x3, vi (x3 + 1)], [], h)) := (ev_rc [4, 32, 38, 58] 120 _).trans rfl
set_option maxRecDepth 100000 in
set_option maxHeartbeats 400000 in
/-- IllLightModel.isNearer(II)Z -/
theorem E_X9_isNearer (h : PH) (a : Int32) (b : Int32) : pm_ev (208, 0, [vr 8 0, vi a, vi b], [], h) = (if pm_inb a 4 = true then pm_ev (208, 7, [vr 8 0, vi a, vi b], [vi (h.1 38 0 a.toNatClampNeg), vr 8 0], h) else none) := (ev_rc [7, 18, 28, 39] 120 _).trans rfl
set_option maxRecDepth 100000 in
set_option maxHeartbeats 400000 in
/-- IllLightModel.isNearer(II)Z -/
theorem E_X9_isNearer_7 (h : PH) (x1 : Int32) (x2 : Int32) (s0 : Int32) (s1 : Nat) : pm_ev (208, 7, [vr 8 0, vi x1, vi x2], [vi s0, vr 8 s1], h) = (if pm_inb ((h.1 8 0 13) + 2) 5104 = true then pm_ev (208, 18, [vr 8 0, vi x1, vi x2], [vi (h.1 33 0 (((h.1 8 0 13) + 2).toNatClampNeg)), vi s0, vr 8 s1], h) else none) := (ev_rc [7, 18, 28, 39] 120 _).trans rfl
set_option maxRecDepth 100000 in
set_option maxHeartbeats 400000 in
/-- IllLightModel.isNearer(II)Z -/
theorem E_X9_isNearer_18 (h : PH) (x1 : Int32) (x2 : Int32) (s0 : Int32) (s1 : Int32) (s2 : Nat) : pm_ev (208, 18, [vr 8 0, vi x1, vi x2], [vi s0, vi s1, vr 8 s2], h) = (pm_bI (pm_ev (204, 0, [vr 8 s2, vi s1, vi s0], [], h)) fun r2 h1 => (if pm_inb x2 4 = true then pm_ev (208, 28, [vr 8 0, vi x1, vi x2], [vi (h1.1 38 0 x2.toNatClampNeg), vr 8 0, vi r2], h1) else none)) := (ev_rc [7, 18, 28, 39] 120 _).trans rfl
set_option maxRecDepth 100000 in
set_option maxHeartbeats 400000 in
/-- IllLightModel.isNearer(II)Z -/
theorem E_X9_isNearer_28 (h : PH) (x1 : Int32) (x2 : Int32) (s0 : Int32) (s1 : Nat) (s2 : Int32) : pm_ev (208, 28, [vr 8 0, vi x1, vi x2], [vi s0, vr 8 s1, vi s2], h) = (if pm_inb ((h.1 8 0 13) + 2) 5104 = true then pm_ev (208, 39, [vr 8 0, vi x1, vi x2], [vi (h.1 33 0 (((h.1 8 0 13) + 2).toNatClampNeg)), vi s0, vr 8 s1, vi s2], h) else none) := (ev_rc [7, 18, 28, 39] 120 _).trans rfl
set_option maxRecDepth 100000 in
set_option maxHeartbeats 400000 in
/-- IllLightModel.isNearer(II)Z -/
theorem E_X9_isNearer_39 (h : PH) (x1 : Int32) (x2 : Int32) (s0 : Int32) (s1 : Int32) (s2 : Nat) (s3 : Int32) : pm_ev (208, 39, [vr 8 0, vi x1, vi x2], [vi s0, vi s1, vr 8 s2, vi s3], h) = (pm_bI (pm_ev (204, 0, [vr 8 s2, vi s1, vi s0], [], h)) fun r4 h3 => (if s3 < r4 then some (some (vi 1), h3) else some (some (vi 0), h3))) := (ev_rc [7, 18, 28, 39] 120 _).trans rfl
set_option maxRecDepth 100000 in
set_option maxHeartbeats 400000 in
/-- IllLightModel.isBeamed(I)Z -/
theorem E_X9_isBeamed (h : PH) (a : Int32) : pm_ev (209, 0, [vr 8 0, vi a, none], [], h) = (pm_bI (pm_ev (207, 0, [vr 8 0, vi a, none, none], [], h)) fun r2 h1 => (if r2 = (-1) then (pm_bI (pm_ev (196, 0, [vr 8 0, vi a, vi (h1.1 8 0 25), none], [], h1)) fun r4 h3 => (if r4 &&& 1 = r4 then some (some (vi r4), h3) else none)) else (pm_bI (pm_ev (196, 0, [vr 8 0, vi r2, vi (h1.1 8 0 25), none], [], h1)) fun r6 h5 => (if r6 &&& 1 = r6 then some (some (vi r6), h5) else none)))) := (ev_rc [] 120 _).trans rfl
set_option maxRecDepth 100000 in
set_option maxHeartbeats 400000 in
/-- IllLightModel.isGuarded(I)Z -/
theorem E_X9_isGuarded (h : PH) (a : Int32) : pm_ev (210, 0, [vr 8 0, vi a, none, none], [], h) = pm_ev (210, 4, [vr 8 0, vi a, vi 0, vi 0], [], h) := (ev_rc [4, 16, 41, 62] 120 _).trans rfl
set_option maxRecDepth 100000 in
set_option maxHeartbeats 400000 in
/-- IllLightModel.isGuarded(I)Z -/
theorem E_X9_isGuarded_4 (h : PH) (x1 : Int32) (x2 : Int32) (x3 : Int32) : pm_ev (210, 4, [vr 8 0, vi x1, vi x2, vi x3], [], h) = (if pm_inb ((h.1 8 0 13) + 4) 5104 = true then pm_ev (210, 16, [vr 8 0, vi x1, vi x2, vi x3], [vi (h.1 33 0 (((h.1 8 0 13) + 4).toNatClampNeg)), vi x3], h) else none) := (ev_rc [4, 16, 41, 62] 120 _).trans rfl
set_option maxRecDepth 100000 in
set_option maxHeartbeats 400000 in
/-- IllLightModel.isGuarded(I)Z -/
theorem E_X9_isGuarded_16 (h : PH) (x1 : Int32) (x2 : Int32) (x3 : Int32) (s0 : Int32) (s1 : Int32) : pm_ev (210, 16, [vr 8 0, vi x1, vi x2, vi x3], [vi s0, vi s1], h) = (if s1 < s0 then (if x2 = 0 then (if pm_inb (((h.1 8 0 13) + 6) + (2 * x3)) 5104 = true then pm_ev (210, 41, [vr 8 0, vi x1, vi x2, vi x3], [vi (h.1 33 0 ((((h.1 8 0 13) + 6) + (2 * x3)).toNatClampNeg)), vi x1, vr 8 0], h) else none) else pm_ev (210, 4, [vr 8 0, vi x1, vi 1, vi (x3 + 1)], [], h)) else (if x2 &&& 1 = x2 then some (some (vi x2), h) else none)) := (ev_rc [4, 16, 41, 62] 120 _).trans rfl
set_option maxRecDepth 100000 in
set_option maxHeartbeats 400000 in
/-- IllLightModel.isGuarded(I)Z -/
theorem E_X9_isGuarded_41 (h : PH) (x1 : Int32) (x2 : Int32) (x3 : Int32) (s0 : Int32) (s1 : Int32) (s2 : Nat) : pm_ev (210, 41, [vr 8 0, vi x1, vi x2, vi x3], [vi s0, vi s1, vr 8 s2], h) = (pm_bI (pm_ev (204, 0, [vr 8 s2, vi s1, vi s0], [], h)) fun r2 h1 => (if pm_inb ((((h1.1 8 0 13) + 6) + (2 * x3)) + 1) 5104 = true then pm_ev (210, 62, [vr 8 0, vi x1, vi x2, vi x3], [vi (h1.1 33 0 (((((h1.1 8 0 13) + 6) + (2 * x3)) + 1).toNatClampNeg)), vi r2], h1) else none)) := (ev_rc [4, 16, 41, 62] 120 _).trans rfl
set_option maxRecDepth 100000 in
set_option maxHeartbeats 400000 in
/-- IllLightModel.isGuarded(I)Z -/
theorem E_X9_isGuarded_62 (h : PH) (x1 : Int32) (x2 : Int32) (x3 : Int32) (s0 : Int32) (s1 : Int32) : pm_ev (210, 62, [vr 8 0, vi x1, vi x2, vi x3], [vi s0, vi s1], h) = (if s0 < s1 then pm_ev (210, 4, [vr 8 0, vi x1, vi 0, vi (x3 + 1)], [], h) else pm_ev (210, 4, [vr 8 0, vi x1, vi 1, vi (x3 + 1)], [], h)) := (ev_rc [4, 16, 41, 62] 120 _).trans rfl
set_option maxRecDepth 100000 in
set_option maxHeartbeats 400000 in
/-- IllLightModel.isRock(I)Z -/
theorem E_X9_isRock (h : PH) (a : Int32) : pm_ev (211, 0, [vr 8 0, vi a], [], h) = (if pm_inb (((h.1 8 0 13) + 78) + a) 5104 = true then pm_ev (211, 14, [vr 8 0, vi a], [vi (h.1 33 0 ((((h.1 8 0 13) + 78) + a).toNatClampNeg))], h) else none) := (ev_rc [14] 120 _).trans rfl
set_option maxRecDepth 100000 in
set_option maxHeartbeats 400000 in
/-- IllLightModel.isRock(I)Z -/
theorem E_X9_isRock_14 (h : PH) (x1 : Int32) (s0 : Int32) : pm_ev (211, 14, [vr 8 0, vi x1], [vi s0], h) = (if s0 = 1 then some (some (vi 1), h) else some (some (vi 0), h)) := (ev_rc [14] 120 _).trans rfl
set_option maxRecDepth 100000 in
set_option maxHeartbeats 400000 in
/-- IllLightModel.stop(II)I -/
theorem E_X9_stop (h : PH) (a : Int32) (b : Int32) : pm_ev (215, 0, [vr 8 0, vi a, vi b], [], h) = (pm_bI (pm_ev (185, 0, [vr 8 0, vi a], [], h)) fun r2 h1 => (if r2 = 0 then some (some (vi (-1)), h1) else (pm_bI (pm_ev (198, 0, [vr 8 0, vi b], [], h1)) fun r4 h3 => pm_ev (215, 13, [vr 8 0, vi a, vi b], [vi r4], h3)))) := (ev_rc [13] 120 _).trans rfl
set_option maxRecDepth 100000 in
set_option maxHeartbeats 400000 in
/-- IllLightModel.stop(II)I -/
theorem E_X9_stop_13 (h : PH) (x1 : Int32) (x2 : Int32) (s0 : Int32) : pm_ev (215, 13, [vr 8 0, vi x1, vi x2], [vi s0], h) = (if s0 = 0 then some (some (vi (-1)), h) else (pm_bV (pm_ev (214, 0, [vr 8 0, vi 40], [], h)) fun h5 => some (some (vi (h5.1 8 0 26)), h5))) := (ev_rc [13] 120 _).trans rfl
set_option maxRecDepth 100000 in
set_option maxHeartbeats 400000 in
/-- IllLightModel.state(IIII)I -/
theorem E_X9_state (h : PH) (a : Int32) (b : Int32) (c : Int32) (d : Int32) : pm_ev (217, 0, [vr 8 0, vi a, vi b, vi c, vi d], [], h) = (pm_bI (pm_ev (185, 0, [vr 8 0, vi a], [], h)) fun r2 h1 => (if r2 = 0 then some (some (vi (-2)), h1) else (pm_bI (pm_ev (198, 0, [vr 8 0, vi b], [], h1)) fun r4 h3 => pm_ev (217, 13, [vr 8 0, vi a, vi b, vi c, vi d], [vi r4], h3)))) := (ev_rc [13, 47] 120 _).trans rfl
set_option maxRecDepth 100000 in
set_option maxHeartbeats 400000 in
/-- IllLightModel.state(IIII)I -/
theorem E_X9_state_13 (h : PH) (x1 : Int32) (x2 : Int32) (x3 : Int32) (x4 : Int32) (s0 : Int32) : pm_ev (217, 13, [vr 8 0, vi x1, vi x2, vi x3, vi x4], [vi s0], h) = (if s0 = 0 then some (some (vi (-2)), h) else (if x3 < 0 then some (some (vi (-2)), h) else (if x4 < 0 then some (some (vi (-2)), h) else (pm_bV (pm_ev (214, 0, [vr 8 0, vi x3], [], h)) fun h5 => (if h5.1 8 0 26 = x3 then (pm_bI (pm_ev (216, 0, [vr 8 0, vi x4, none, none], [], h5)) fun r7 h6 => pm_ev (217, 47, [vr 8 0, none, none, vi x3, vi x4], [vi r7], h6)) else some (some (vi (-2)), h5)))))) := (ev_rc [13, 47] 120 _).trans rfl
set_option maxRecDepth 100000 in
set_option maxHeartbeats 400000 in
/-- IllLightModel.state(IIII)I -/
theorem E_X9_state_47 (h : PH) (x3 : Int32) (x4 : Int32) (s0 : Int32) : pm_ev (217, 47, [vr 8 0, none, none, vi x3, vi x4], [vi s0], h) = some (some (vi s0), h) := (ev_rc [13, 47] 120 _).trans rfl
set_option maxRecDepth 100000 in
set_option maxHeartbeats 400000 in
/-- IllLightModel.bitsOf(I)I -/
theorem E_X9_bitsOf (h : PH) (a : Int32) : pm_ev (223, 0, [vi a, none, none], [], h) = pm_ev (223, 4, [vi a, vi 0, vi 0], [], h) := (ev_rc [4] 120 _).trans rfl
set_option maxRecDepth 100000 in
set_option maxHeartbeats 400000 in
/-- IllLightModel.bitsOf(I)I -/
theorem E_X9_bitsOf_4 (h : PH) (x0 : Int32) (x1 : Int32) (x2 : Int32) : pm_ev (223, 4, [vi x0, vi x1, vi x2], [], h) = (if x2 < 6 then pm_ev (223, 4, [vi x0, vi (x1 + ((x0 >>> (x2 &&& 31)) &&& 1)), vi (x2 + 1)], [], h) else some (some (vi x1), h)) := (ev_rc [4] 120 _).trans rfl
set_option maxRecDepth 100000 in
set_option maxHeartbeats 400000 in
/-- IllLightModel.openOf(I)I -/
theorem E_X9_openOf (h : PH) (a : Int32) : pm_ev (230, 0, [vr 8 0, vi a, none, none], [], h) = pm_ev (230, 4, [vr 8 0, vi a, vi 0, vi 0], [], h) := (ev_rc [4] 120 _).trans rfl
set_option maxRecDepth 100000 in
set_option maxHeartbeats 400000 in
/-- IllLightModel.openOf(I)I -/
theorem E_X9_openOf_4 (h : PH) (x1 : Int32) (x2 : Int32) (x3 : Int32) : pm_ev (230, 4, [vr 8 0, vi x1, vi x2, vi x3], [], h) = (if x3 < h.1 8 0 14 then (pm_bI (pm_ev (211, 0, [vr 8 0, vi (((h.1 8 0 14) * x1) + x3)], [], h)) fun r2 h1 => (if r2 = 0 then pm_ev (230, 4, [vr 8 0, vi x1, vi (x2 + 1), vi (x3 + 1)], [], h1) else pm_ev (230, 4, [vr 8 0, vi x1, vi (x2 + 0), vi (x3 + 1)], [], h1))) else some (some (vi x2), h)) := (ev_rc [4] 120 _).trans rfl
set_option maxRecDepth 100000 in
set_option maxHeartbeats 400000 in
/-- IllLightModel.wins(III)Z -/
theorem E_X9_wins (h : PH) (a : Int32) (b : Int32) (c : Int32) : pm_ev (231, 0, [vr 8 0, vi a, vi b, vi c], [], h) = (pm_bI (pm_ev (203, 0, [vi a, vi b], [], h)) fun r2 h1 => (if c < r2 then some (some (vi 1), h1) else some (some (vi 0), h1))) := (ev_rc [] 120 _).trans rfl
set_option maxRecDepth 100000 in
set_option maxHeartbeats 400000 in
/-- IllLightModel.isRest(III)Z -/
theorem E_X9_isRest (h : PH) (a : Int32) (b : Int32) (c : Int32) : pm_ev (232, 0, [vr 8 0, vi a, vi b, vi c, none, none, none, none], [], h) = (pm_bI (pm_ev (231, 0, [vr 8 0, vi a, vi b, vi c], [], h)) fun r2 h1 => (if r2 = 0 then (pm_bI (pm_ev (231, 0, [vr 8 0, vi a, vi b, vi c], [], h1)) fun r4 h3 => pm_ev (232, 28, [vr 8 0, vi a, vi b, vi c, vi 0, none, none, none], [vi r4], h3)) else (pm_bI (pm_ev (230, 0, [vr 8 0, vi a, none, none], [], h1)) fun r6 h5 => pm_ev (232, 15, [vr 8 0, vi a, vi b, vi c, none, none, none, none], [vi r6], h5)))) := (ev_rc [15, 28, 48, 79, 108] 120 _).trans rfl
set_option maxRecDepth 100000 in
set_option maxHeartbeats 400000 in
/-- IllLightModel.isRest(III)Z -/
theorem E_X9_isRest_28 (h : PH) (x1 : Int32) (x2 : Int32) (x3 : Int32) (x4 : Int32) (s0 : Int32) : pm_ev (232, 28, [vr 8 0, vi x1, vi x2, vi x3, vi x4, none, none, none], [vi s0], h) = (if s0 = 0 then (pm_bI (pm_ev (230, 0, [vr 8 0, vi x1, none, none], [], h)) fun r8 h7 => pm_ev (232, 48, [vr 8 0, vi x1, vi x2, vi x3, vi x4, vi r8, vi 1, vi 0], [], h7)) else pm_ev (232, 48, [vr 8 0, vi x1, vi x2, vi x3, vi x4, vi 0, vi 1, vi 0], [], h)) := (ev_rc [15, 28, 48, 79, 108] 120 _).trans rfl
set_option maxRecDepth 100000 in
set_option maxHeartbeats 400000 in
/-- IllLightModel.isRest(III)Z -/
theorem E_X9_isRest_15 (h : PH) (x1 : Int32) (x2 : Int32) (x3 : Int32) (s0 : Int32) : pm_ev (232, 15, [vr 8 0, vi x1, vi x2, vi x3, none, none, none, none], [vi s0], h) = (pm_bI (pm_ev (231, 0, [vr 8 0, vi x1, vi x2, vi x3], [], h)) fun r10 h9 => pm_ev (232, 28, [vr 8 0, vi x1, vi x2, vi x3, vi s0, none, none, none], [vi r10], h9)) := (ev_rc [15, 28, 48, 79, 108] 120 _).trans rfl
set_option maxRecDepth 100000 in
set_option maxHeartbeats 400000 in
/-- IllLightModel.isRest(III)Z -/
theorem E_X9_isRest_48 (h : PH) (x1 : Int32) (x2 : Int32) (x3 : Int32) (x4 : Int32) (x5 : Int32) (x6 : Int32) (x7 : Int32) : pm_ev (232, 48, [vr 8 0, vi x1, vi x2, vi x3, vi x4, vi x5, vi x6, vi x7], [], h) = (if x7 < h.1 8 0 15 then (if x6 = 0 then pm_ev (232, 48, [vr 8 0, vi x1, vi x2, vi x3, vi x4, vi x5, vi 0, vi (x7 + 1)], [], h) else (pm_bI (pm_ev (231, 0, [vr 8 0, vi x7, vi x2, vi x3], [], h)) fun r12 h11 => (if r12 = 0 then (if x4 < 0 then pm_ev (232, 48, [vr 8 0, vi x1, vi x2, vi x3, vi x4, vi x5, vi 0, vi (x7 + 1)], [], h11) else (pm_bI (pm_ev (231, 0, [vr 8 0, vi x1, vi x7, vi x3], [], h11)) fun r14 h13 => pm_ev (232, 108, [vr 8 0, vi x1, vi x2, vi x3, vi x4, vi x5, vi 1, vi x7], [vi r14], h13))) else (pm_bI (pm_ev (230, 0, [vr 8 0, vi x7, none, none], [], h11)) fun r16 h15 => pm_ev (232, 79, [vr 8 0, vi x1, vi x2, vi x3, vi x4, vi x5, vi x6, vi x7], [vi r16], h15))))) else (if x6 &&& 1 = x6 then some (some (vi x6), h) else none)) := (ev_rc [15, 28, 48, 79, 108] 120 _).trans rfl
set_option maxRecDepth 100000 in
set_option maxHeartbeats 400000 in
/-- IllLightModel.isRest(III)Z -/
theorem E_X9_isRest_108 (h : PH) (x1 : Int32) (x2 : Int32) (x3 : Int32) (x4 : Int32) (x5 : Int32) (x6 : Int32) (x7 : Int32) (s0 : Int32) : pm_ev (232, 108, [vr 8 0, vi x1, vi x2, vi x3, vi x4, vi x5, vi x6, vi x7], [vi s0], h) = (if s0 = 0 then (pm_bI (pm_ev (230, 0, [vr 8 0, vi x1, none, none], [], h)) fun r18 h17 => (if x5 < r18 then pm_ev (232, 48, [vr 8 0, vi x1, vi x2, vi x3, vi x4, vi x5, vi 0, vi (x7 + 1)], [], h17) else pm_ev (232, 48, [vr 8 0, vi x1, vi x2, vi x3, vi x4, vi x5, vi 1, vi (x7 + 1)], [], h17))) else (if x5 < 0 then pm_ev (232, 48, [vr 8 0, vi x1, vi x2, vi x3, vi x4, vi x5, vi 0, vi (x7 + 1)], [], h) else pm_ev (232, 48, [vr 8 0, vi x1, vi x2, vi x3, vi x4, vi x5, vi 1, vi (x7 + 1)], [], h))) := (ev_rc [15, 28, 48, 79, 108] 120 _).trans rfl
set_option maxRecDepth 100000 in
set_option maxHeartbeats 400000 in
/-- IllLightModel.isRest(III)Z -/
theorem E_X9_isRest_79 (h : PH) (x1 : Int32) (x2 : Int32) (x3 : Int32) (x4 : Int32) (x5 : Int32) (x6 : Int32) (x7 : Int32) (s0 : Int32) : pm_ev (232, 79, [vr 8 0, vi x1, vi x2, vi x3, vi x4, vi x5, vi x6, vi x7], [vi s0], h) = (if x4 < s0 then pm_ev (232, 48, [vr 8 0, vi x1, vi x2, vi x3, vi x4, vi x5, vi 0, vi (x7 + 1)], [], h) else (pm_bI (pm_ev (231, 0, [vr 8 0, vi x1, vi x7, vi x3], [], h)) fun r20 h19 => pm_ev (232, 108, [vr 8 0, vi x1, vi x2, vi x3, vi x4, vi x5, vi 1, vi x7], [vi r20], h19))) := (ev_rc [15, 28, 48, 79, 108] 120 _).trans rfl
set_option maxRecDepth 100000 in
set_option maxHeartbeats 400000 in
/-- IllLightModel.safestOf(I)I -/
theorem E_X9_safestOf (h : PH) (a : Int32) : pm_ev (233, 0, [vr 8 0, vi a, none, none, none, none, none], [], h) = pm_ev (233, 7, [vr 8 0, vi a, vi 0, vi (-1), vi 0, none, none], [], h) := (ev_rc [7, 27] 120 _).trans rfl
set_option maxRecDepth 100000 in
set_option maxHeartbeats 400000 in
/-- IllLightModel.safestOf(I)I -/
theorem E_X9_safestOf_7 (h : PH) (x1 : Int32) (x2 : Int32) (x3 : Int32) (x4 : Int32) : pm_ev (233, 7, [vr 8 0, vi x1, vi x2, vi x3, vi x4, none, none], [], h) = (if x4 < h.1 8 0 15 then (pm_bI (pm_ev (230, 0, [vr 8 0, vi x4, none, none], [], h)) fun r2 h1 => pm_ev (233, 27, [vr 8 0, vi x1, vi x2, vi x3, vi x4, vi r2, vi 0], [], h1)) else some (some (vi x2), h)) := (ev_rc [7, 27] 120 _).trans rfl
set_option maxRecDepth 100000 in
set_option maxHeartbeats 400000 in
/-- IllLightModel.safestOf(I)I -/
theorem E_X9_safestOf_27 (h : PH) (x1 : Int32) (x2 : Int32) (x3 : Int32) (x4 : Int32) (x5 : Int32) (x6 : Int32) : pm_ev (233, 27, [vr 8 0, vi x1, vi x2, vi x3, vi x4, vi x5, vi x6], [], h) = (if x6 < h.1 8 0 15 then (pm_bI (pm_ev (231, 0, [vr 8 0, vi x4, vi x6, vi x1], [], h)) fun r4 h3 => (if r4 = 0 then pm_ev (233, 27, [vr 8 0, vi x1, vi x2, vi x3, vi x4, vi 0, vi (x6 + 1)], [], h3) else pm_ev (233, 27, [vr 8 0, vi x1, vi x2, vi x3, vi x4, vi x5, vi (x6 + 1)], [], h3))) else (if x3 < x5 then pm_ev (233, 7, [vr 8 0, vi x1, vi x4, vi x5, vi (x4 + 1), none, none], [], h) else pm_ev (233, 7, [vr 8 0, vi x1, vi x2, vi x3, vi (x4 + 1), none, none], [], h))) := (ev_rc [7, 27] 120 _).trans rfl
set_option maxRecDepth 100000 in
set_option maxHeartbeats 400000 in
/-- IllLightModel.rest(III)I -/
theorem E_X9_rest (h : PH) (a : Int32) (b : Int32) (c : Int32) : pm_ev (234, 0, [vr 8 0, vi a, vi b, vi c, none, none], [], h) = (pm_bI (pm_ev (185, 0, [vr 8 0, vi a], [], h)) fun r2 h1 => (if r2 = 0 then some (some (vi (-1)), h1) else (pm_bI (pm_ev (153, 0, [vi b, vi 0, vi 7], [], h1)) fun r4 h3 => pm_ev (234, 15, [vr 8 0, vi a, vi b, vi c, none, none], [vi r4], h3)))) := (ev_rc [15, 44] 120 _).trans rfl
set_option maxRecDepth 100000 in
set_option maxHeartbeats 400000 in
/-- IllLightModel.rest(III)I -/
theorem E_X9_rest_15 (h : PH) (x1 : Int32) (x2 : Int32) (x3 : Int32) (s0 : Int32) : pm_ev (234, 15, [vr 8 0, vi x1, vi x2, vi x3, none, none], [vi s0], h) = (if s0 = 0 then some (some (vi (-1)), h) else (if x3 < (-2) then some (some (vi (-1)), h) else (if x3 = (-2) then (pm_bI (pm_ev (233, 0, [vr 8 0, vi x2, none, none, none, none, none], [], h)) fun r6 h5 => some (some (vi r6), h5)) else pm_ev (234, 44, [vr 8 0, none, vi x2, vi x3, vi 0, vi 0], [], h)))) := (ev_rc [15, 44] 120 _).trans rfl
set_option maxRecDepth 100000 in
set_option maxHeartbeats 400000 in
/-- IllLightModel.rest(III)I -/
theorem E_X9_rest_44 (h : PH) (x2 : Int32) (x3 : Int32) (x4 : Int32) (x5 : Int32) : pm_ev (234, 44, [vr 8 0, none, vi x2, vi x3, vi x4, vi x5], [], h) = (if x5 < 64 then (if x5 / 8 < h.1 8 0 15 then (if x5 - x5 / 8 * 8 < h.1 8 0 15 then (pm_bI (pm_ev (232, 0, [vr 8 0, vi (x5 / 8), vi (x5 - x5 / 8 * 8), vi x2, none, none, none, none], [], h)) fun r8 h7 => (if r8 = 0 then pm_ev (234, 44, [vr 8 0, none, vi x2, vi x3, vi x4, vi (x5 + 1)], [], h7) else (if x4 = x3 then some (some (vi x5), h7) else pm_ev (234, 44, [vr 8 0, none, vi x2, vi x3, vi (x4 + 1), vi (x5 + 1)], [], h7)))) else pm_ev (234, 44, [vr 8 0, none, vi x2, vi x3, vi x4, vi (x5 + 1)], [], h)) else pm_ev (234, 44, [vr 8 0, none, vi x2, vi x3, vi x4, vi (x5 + 1)], [], h)) else (if x3 = (-1) then some (some (vi x4), h) else some (some (vi (-1)), h))) := (ev_rc [15, 44] 120 _).trans rfl
set_option maxRecDepth 100000 in
set_option maxHeartbeats 400000 in
/-- IllLightModel.common(JJ)J -/
theorem E_X9_common (h : PH) (a : Int64) (b : Int64) : pm_ev (235, 0, [vl a, none, vl b, none, none, none, none, none, none, none], [], h) = pm_ev (235, 6, [none, none, none, none, vl a, none, vl b, none, none, none], [], h) := (ev_rc [6] 120 _).trans rfl
set_option maxRecDepth 100000 in
set_option maxHeartbeats 400000 in
/-- IllLightModel.common(JJ)J -/
theorem E_X9_common_6 (h : PH) (y4 : Int64) (y6 : Int64) : pm_ev (235, 6, [none, none, none, none, vl y4, none, vl y6, none, none, none], [], h) = (if lg_cmp y6 0 = 0 then some (some (vl y4), h) else (if y6 = 0 then none else pm_ev (235, 6, [none, none, none, none, vl y6, none, vl (y4 - y4 / y6 * y6), none, none, none], [], h))) := (ev_rc [6] 120 _).trans rfl
set_option maxRecDepth 100000 in
set_option maxHeartbeats 400000 in
/-- IllLightModel.power(JI)J -/
theorem E_X9_power (h : PH) (a : Int64) (b : Int32) : pm_ev (236, 0, [vl a, none, vi b, none, none, none], [], h) = pm_ev (236, 5, [vl a, none, vi b, vl 1, none, vi 0], [], h) := (ev_rc [5] 120 _).trans rfl
set_option maxRecDepth 100000 in
set_option maxHeartbeats 400000 in
/-- IllLightModel.power(JI)J -/
theorem E_X9_power_5 (h : PH) (y0 : Int64) (x2 : Int32) (y3 : Int64) (x5 : Int32) : pm_ev (236, 5, [vl y0, none, vi x2, vl y3, none, vi x5], [], h) = (if x5 < x2 then pm_ev (236, 5, [vl y0, none, vi x2, vl (y3 * y0), none, vi (x5 + 1)], [], h) else some (some (vl y3), h)) := (ev_rc [5] 120 _).trans rfl
set_option maxRecDepth 100000 in
set_option maxHeartbeats 400000 in
/-- IllLightModel.premium(IIIZ)J -/
theorem E_X9_premium (h : PH) (a : Int32) (b : Int32) (c : Int32) (d : Int32) : pm_ev (237, 0, [vr 8 0, vi a, vi b, vi c, vi d, none, none, none, none], [], h) = (pm_bI (pm_ev (153, 0, [vi a, vi 1, vi 9], [], h)) fun r2 h1 => (if r2 = 0 then some (some (vl (-1)), h1) else (pm_bI (pm_ev (153, 0, [vi b, vi 0, vi 10], [], h1)) fun r4 h3 => pm_ev (237, 17, [vr 8 0, vi a, vi b, vi c, vi d, none, none, none, none], [vi r4], h3)))) := (ev_rc [17, 41, 79] 120 _).trans rfl
set_option maxRecDepth 100000 in
set_option maxHeartbeats 400000 in
/-- IllLightModel.premium(IIIZ)J -/
theorem E_X9_premium_17 (h : PH) (x1 : Int32) (x2 : Int32) (x3 : Int32) (x4 : Int32) (s0 : Int32) : pm_ev (237, 17, [vr 8 0, vi x1, vi x2, vi x3, vi x4, none, none, none, none], [vi s0], h) = (if s0 = 0 then some (some (vl (-1)), h) else (pm_bI (pm_ev (153, 0, [vi x3, vi 0, vi 99], [], h)) fun r6 h5 => (if r6 = 0 then some (some (vl (-1)), h5) else (pm_bL (pm_ev (236, 0, [vl 10, none, vi x1, none, none, none], [], h5)) fun l8 h7 => pm_ev (237, 41, [none, vi x1, vi x2, vi x3, vi x4, none, none, none, none], [vl l8], h7))))) := (ev_rc [17, 41, 79] 120 _).trans rfl
set_option maxRecDepth 100000 in
set_option maxHeartbeats 400000 in
/-- IllLightModel.premium(IIIZ)J -/
theorem E_X9_premium_41 (h : PH) (x1 : Int32) (x2 : Int32) (x3 : Int32) (x4 : Int32) (s0 : Int64) : pm_ev (237, 41, [none, vi x1, vi x2, vi x3, vi x4, none, none, none, none], [vl s0], h) = (pm_bL (pm_ev (236, 0, [vl ((10 - x2 : Int32).toInt64), none, vi x1, none, none, none], [], h)) fun l10 h9 => (if x4 = 0 then (pm_bL (pm_ev (235, 0, [vl (((x3 : Int32).toInt64) * (s0 - l10)), none, vl s0, none, none, none, none, none, none, none], [], h9)) fun l12 h11 => pm_ev (237, 79, [none, none, none, none, none, vl s0, none, vl (((x3 : Int32).toInt64) * (s0 - l10)), none], [vl l12, vl (((x3 : Int32).toInt64) * (s0 - l10))], h11)) else (pm_bL (pm_ev (235, 0, [vl (((x3 : Int32).toInt64) * (s0 - l10)), none, vl s0, none, none, none, none, none, none, none], [], h9)) fun l14 h13 => pm_ev (237, 79, [none, none, none, none, none, vl s0, none, vl (((x3 : Int32).toInt64) * (s0 - l10)), none], [vl l14, vl s0], h13)))) := (ev_rc [17, 41, 79] 120 _).trans rfl
set_option maxRecDepth 100000 in
set_option maxHeartbeats 400000 in
/-- IllLightModel.premium(IIIZ)J -/
theorem E_X9_premium_79 (h : PH) (y5 : Int64) (y7 : Int64) (s0 : Int64) (s1 : Int64) : pm_ev (237, 79, [none, none, none, none, none, vl y5, none, vl y7, none], [vl s0, vl s1], h) = (if s0 = 0 then none else some (some (vl (s1 / s0)), h)) := (ev_rc [17, 41, 79] 120 _).trans rfl
set_option maxRecDepth 100000 in
set_option maxHeartbeats 400000 in
/-- IllLightModel.isLog(I)Z -/
theorem E_X9_isLog (h : PH) (a : Int32) : pm_ev (238, 0, [vr 8 0, vi a], [], h) = (pm_bI (pm_ev (180, 0, [vr 8 0, vi 2, vi a], [], h)) fun r2 h1 => (if r2 = 0 then some (some (vi 0), h1) else (pm_bI (pm_ev (178, 0, [vi 2, vi a], [], h1)) fun r4 h3 => pm_ev (238, 17, [vr 8 0, vi a], [vi r4, vr 8 0], h3)))) := (ev_rc [17] 120 _).trans rfl
set_option maxRecDepth 100000 in
set_option maxHeartbeats 400000 in
/-- IllLightModel.isLog(I)Z -/
theorem E_X9_isLog_17 (h : PH) (x1 : Int32) (s0 : Int32) (s1 : Nat) : pm_ev (238, 17, [vr 8 0, vi x1], [vi s0, vr 8 s1], h) = some (some (vi 1), (pm_sI h 8 s1 30 s0)) := (ev_rc [17] 120 _).trans rfl
set_option maxRecDepth 100000 in
set_option maxHeartbeats 400000 in
/-- IllLightModel.log(II)I -/
theorem E_X9_log (h : PH) (a : Int32) (b : Int32) : pm_ev (239, 0, [vr 8 0, vi a, vi b, none], [], h) = (pm_bI (pm_ev (238, 0, [vr 8 0, vi a], [], h)) fun r2 h1 => (if r2 = 0 then some (some (vi (-1)), h1) else (pm_bI (pm_ev (153, 0, [vi b, vi 0, vi 3], [], h1)) fun r4 h3 => pm_ev (239, 16, [vr 8 0, none, vi b, none], [vi r4], h3)))) := (ev_rc [16, 30, 57, 73, 86, 101, 126, 127] 120 _).trans rfl
set_option maxRecDepth 100000 in
set_option maxHeartbeats 400000 in
/-- IllLightModel.log(II)I -/
theorem E_X9_log_16 (h : PH) (x2 : Int32) (s0 : Int32) : pm_ev (239, 16, [vr 8 0, none, vi x2, none], [vi s0], h) = (if s0 = 0 then (pm_bI (pm_ev (153, 0, [vi x2, vi 10, vi 19], [], h)) fun r6 h5 => (if r6 = 0 then (pm_bI (pm_ev (153, 0, [vi x2, vi 20, vi 39], [], h5)) fun r8 h7 => pm_ev (239, 86, [vr 8 0, none, vi x2, vi (x2 - x2 / 10 * 10)], [vi r8], h7)) else (if pm_inb (h5.1 8 0 30) 5104 = true then pm_ev (239, 57, [vr 8 0, none, vi x2, vi (x2 - x2 / 10 * 10)], [vi (h5.1 33 0 ((h5.1 8 0 30).toNatClampNeg)), vi (x2 - x2 / 10 * 10)], h5) else none))) else (if pm_inb ((h.1 8 0 30) + x2) 5104 = true then pm_ev (239, 30, [vr 8 0, none, vi x2, none], [vi (h.1 33 0 (((h.1 8 0 30) + x2).toNatClampNeg))], h) else none)) := (ev_rc [16, 30, 57, 73, 86, 101, 126, 127] 120 _).trans rfl
set_option maxRecDepth 100000 in
set_option maxHeartbeats 400000 in
/-- IllLightModel.log(II)I -/
theorem E_X9_log_86 (h : PH) (x2 : Int32) (x3 : Int32) (s0 : Int32) : pm_ev (239, 86, [vr 8 0, none, vi x2, vi x3], [vi s0], h) = (if s0 = 0 then some (some (vi (-1)), h) else (if pm_inb ((h.1 8 0 30) + 3) 5104 = true then pm_ev (239, 101, [vr 8 0, none, vi x2, vi x3], [vi (h.1 33 0 (((h.1 8 0 30) + 3).toNatClampNeg)), vi x3], h) else none)) := (ev_rc [16, 30, 57, 73, 86, 101, 126, 127] 120 _).trans rfl
set_option maxRecDepth 100000 in
set_option maxHeartbeats 400000 in
/-- IllLightModel.log(II)I -/
theorem E_X9_log_57 (h : PH) (x2 : Int32) (x3 : Int32) (s0 : Int32) (s1 : Int32) : pm_ev (239, 57, [vr 8 0, none, vi x2, vi x3], [vi s0, vi s1], h) = (if s1 < s0 then (if pm_inb (((h.1 8 0 30) + 4) + x3) 5104 = true then pm_ev (239, 73, [vr 8 0, none, vi x2, vi x3], [vi (h.1 33 0 ((((h.1 8 0 30) + 4) + x3).toNatClampNeg))], h) else none) else some (some (vi (-1)), h)) := (ev_rc [16, 30, 57, 73, 86, 101, 126, 127] 120 _).trans rfl
set_option maxRecDepth 100000 in
set_option maxHeartbeats 400000 in
/-- IllLightModel.log(II)I -/
theorem E_X9_log_30 (h : PH) (x2 : Int32) (s0 : Int32) : pm_ev (239, 30, [vr 8 0, none, vi x2, none], [vi s0], h) = some (some (vi s0), h) := (ev_rc [16, 30, 57, 73, 86, 101, 126, 127] 120 _).trans rfl
set_option maxRecDepth 100000 in
set_option maxHeartbeats 400000 in
/-- IllLightModel.log(II)I -/
theorem E_X9_log_101 (h : PH) (x2 : Int32) (x3 : Int32) (s0 : Int32) (s1 : Int32) : pm_ev (239, 101, [vr 8 0, none, vi x2, vi x3], [vi s0, vi s1], h) = (if s1 < s0 then pm_ev (239, 126, [vr 8 0, none, vi x2, vi x3], [vi (((((h.1 8 0 30) + 10) + (2 * x3)) + (x2 / 10)) - 2), vr 33 0], h) else some (some (vi (-1)), h)) := (ev_rc [16, 30, 57, 73, 86, 101, 126, 127] 120 _).trans rfl
set_option maxRecDepth 100000 in
set_option maxHeartbeats 400000 in
/-- IllLightModel.log(II)I -/
theorem E_X9_log_73 (h : PH) (x2 : Int32) (x3 : Int32) (s0 : Int32) : pm_ev (239, 73, [vr 8 0, none, vi x2, vi x3], [vi s0], h) = some (some (vi s0), h) := (ev_rc [16, 30, 57, 73, 86, 101, 126, 127] 120 _).trans rfl
set_option maxRecDepth 100000 in
set_option maxHeartbeats 400000 in
/-- IllLightModel.log(II)I -/
theorem E_X9_log_126 (h : PH) (x2 : Int32) (x3 : Int32) (s0 : Int32) (s1 : Nat) : pm_ev (239, 126, [vr 8 0, none, vi x2, vi x3], [vi s0, vr 33 s1], h) = (if pm_inb s0 5104 = true then pm_ev (239, 127, [vr 8 0, none, vi x2, vi x3], [vi (h.1 33 s1 s0.toNatClampNeg)], h) else none) := (ev_rc [16, 30, 57, 73, 86, 101, 126, 127] 120 _).trans rfl
set_option maxRecDepth 100000 in
set_option maxHeartbeats 400000 in
/-- IllLightModel.log(II)I -/
theorem E_X9_log_127 (h : PH) (x2 : Int32) (x3 : Int32) (s0 : Int32) : pm_ev (239, 127, [vr 8 0, none, vi x2, vi x3], [vi s0], h) = some (some (vi s0), h) := (ev_rc [16, 30, 57, 73, 86, 101, 126, 127] 120 _).trans rfl
set_option maxRecDepth 100000 in
set_option maxHeartbeats 400000 in
/-- IllLightModel.isLitBy(II)Z -/
theorem E_X9_isLitBy (h : PH) (a : Int32) (b : Int32) : pm_ev (240, 0, [vr 8 0, vi a, vi b], [], h) = (pm_bI (pm_ev (223, 0, [vi a, none, none], [], h)) fun r2 h1 => (if pm_inb ((h1.1 8 0 30) + 1) 5104 = true then pm_ev (240, 15, [vr 8 0, vi a, vi b], [vi (h1.1 33 0 (((h1.1 8 0 30) + 1).toNatClampNeg)), vi r2], h1) else none)) := (ev_rc [15, 33] 120 _).trans rfl
set_option maxRecDepth 100000 in
set_option maxHeartbeats 400000 in
/-- IllLightModel.isLitBy(II)Z -/
theorem E_X9_isLitBy_15 (h : PH) (x1 : Int32) (x2 : Int32) (s0 : Int32) (s1 : Int32) : pm_ev (240, 15, [vr 8 0, vi x1, vi x2], [vi s0, vi s1], h) = (if s1 < s0 then some (some (vi 0), h) else (pm_bI (pm_ev (223, 0, [vi x1, none, none], [], h)) fun r4 h3 => (if pm_inb (h3.1 8 0 30) 5104 = true then pm_ev (240, 33, [vr 8 0, vi x1, vi x2], [vi (h3.1 33 0 ((h3.1 8 0 30).toNatClampNeg)), vi r4], h3) else none))) := (ev_rc [15, 33] 120 _).trans rfl
set_option maxRecDepth 100000 in
set_option maxHeartbeats 400000 in
/-- IllLightModel.isLitBy(II)Z -/
theorem E_X9_isLitBy_33 (h : PH) (x1 : Int32) (x2 : Int32) (s0 : Int32) (s1 : Int32) : pm_ev (240, 33, [vr 8 0, vi x1, vi x2], [vi s0, vi s1], h) = (if s1 = s0 then some (some (vi 1), h) else (if x2 - x2 / 2 * 2 = 0 then some (some (vi 1), h) else some (some (vi 0), h))) := (ev_rc [15, 33] 120 _).trans rfl
set_option maxRecDepth 100000 in
set_option maxHeartbeats 400000 in
/-- IllLightModel.wrongBy(I)I -/
theorem E_X9_wrongBy (h : PH) (a : Int32) : pm_ev (241, 0, [vr 8 0, vi a, none, none], [], h) = pm_ev (241, 4, [vr 8 0, vi a, vi 0, vi 0], [], h) := (ev_rc [4, 16, 38, 57] 120 _).trans rfl
set_option maxRecDepth 100000 in
set_option maxHeartbeats 400000 in
/-- IllLightModel.wrongBy(I)I -/
theorem E_X9_wrongBy_4 (h : PH) (x1 : Int32) (x2 : Int32) (x3 : Int32) : pm_ev (241, 4, [vr 8 0, vi x1, vi x2, vi x3], [], h) = (if pm_inb ((h.1 8 0 30) + 3) 5104 = true then pm_ev (241, 16, [vr 8 0, vi x1, vi x2, vi x3], [vi (h.1 33 0 (((h.1 8 0 30) + 3).toNatClampNeg)), vi x3], h) else none) := (ev_rc [4, 16, 38, 57] 120 _).trans rfl
set_option maxRecDepth 100000 in
set_option maxHeartbeats 400000 in
/-- IllLightModel.wrongBy(I)I -/
theorem E_X9_wrongBy_16 (h : PH) (x1 : Int32) (x2 : Int32) (x3 : Int32) (s0 : Int32) (s1 : Int32) : pm_ev (241, 16, [vr 8 0, vi x1, vi x2, vi x3], [vi s0, vi s1], h) = (if s1 < s0 then (if pm_inb (((h.1 8 0 30) + 11) + (2 * x3)) 5104 = true then pm_ev (241, 38, [vr 8 0, vi x1, vi x2, vi x3], [vi (h.1 33 0 ((((h.1 8 0 30) + 11) + (2 * x3)).toNatClampNeg)), vi x1, vr 8 0, vi x2], h) else none) else some (some (vi x2), h)) := (ev_rc [4, 16, 38, 57] 120 _).trans rfl
set_option maxRecDepth 100000 in
set_option maxHeartbeats 400000 in
/-- IllLightModel.wrongBy(I)I -/
theorem E_X9_wrongBy_38 (h : PH) (x1 : Int32) (x2 : Int32) (x3 : Int32) (s0 : Int32) (s1 : Int32) (s2 : Nat) (s3 : Int32) : pm_ev (241, 38, [vr 8 0, vi x1, vi x2, vi x3], [vi s0, vi s1, vr 8 s2, vi s3], h) = (pm_bI (pm_ev (240, 0, [vr 8 s2, vi s1, vi s0], [], h)) fun r2 h1 => (if pm_inb (((h1.1 8 0 30) + 10) + (2 * x3)) 5104 = true then pm_ev (241, 57, [vr 8 0, vi x1, vi x2, vi x3], [vi (h1.1 33 0 ((((h1.1 8 0 30) + 10) + (2 * x3)).toNatClampNeg)), vi r2, vi s3], h1) else none)) := (ev_rc [4, 16, 38, 57] 120 _).trans rfl
set_option maxRecDepth 100000 in
set_option maxHeartbeats 400000 in
/-- IllLightModel.wrongBy(I)I -/
theorem E_X9_wrongBy_57 (h : PH) (x1 : Int32) (x2 : Int32) (x3 : Int32) (s0 : Int32) (s1 : Int32) (s2 : Int32) : pm_ev (241, 57, [vr 8 0, vi x1, vi x2, vi x3], [vi s0, vi s1, vi s2], h) = (if s0 = 1 then (if s1 = 1 then pm_ev (241, 4, [vr 8 0, vi x1, vi (s2 + 0), vi (x3 + 1)], [], h) else pm_ev (241, 4, [vr 8 0, vi x1, vi (s2 + 1), vi (x3 + 1)], [], h)) else (if s1 = 0 then pm_ev (241, 4, [vr 8 0, vi x1, vi (s2 + 0), vi (x3 + 1)], [], h) else pm_ev (241, 4, [vr 8 0, vi x1, vi (s2 + 1), vi (x3 + 1)], [], h))) := (ev_rc [4, 16, 38, 57] 120 _).trans rfl
set_option maxRecDepth 100000 in
set_option maxHeartbeats 400000 in
/-- IllLightModel.countOf(I)I -/
theorem E_X9_countOf (h : PH) (a : Int32) : pm_ev (242, 0, [vr 8 0, vi a, none, none], [], h) = pm_ev (242, 4, [vr 8 0, vi a, vi 0, vi 0], [], h) := (ev_rc [4, 15, 39] 120 _).trans rfl
set_option maxRecDepth 100000 in
set_option maxHeartbeats 400000 in
/-- IllLightModel.countOf(I)I -/
theorem E_X9_countOf_4 (h : PH) (x1 : Int32) (x2 : Int32) (x3 : Int32) : pm_ev (242, 4, [vr 8 0, vi x1, vi x2, vi x3], [], h) = (if pm_inb (h.1 8 0 30) 5104 = true then pm_ev (242, 15, [vr 8 0, vi x1, vi x2, vi x3], [vi (h.1 33 0 ((h.1 8 0 30).toNatClampNeg)), vi 1, vi x3], h) else none) := (ev_rc [4, 15, 39] 120 _).trans rfl
set_option maxRecDepth 100000 in
set_option maxHeartbeats 400000 in
/-- IllLightModel.countOf(I)I -/
theorem E_X9_countOf_15 (h : PH) (x1 : Int32) (x2 : Int32) (x3 : Int32) (s0 : Int32) (s1 : Int32) (s2 : Int32) : pm_ev (242, 15, [vr 8 0, vi x1, vi x2, vi x3], [vi s0, vi s1, vi s2], h) = (if s2 < s1 <<< (s0 &&& 31) then (pm_bI (pm_ev (241, 0, [vr 8 0, vi x3, none, none], [], h)) fun r2 h1 => (if r2 = 0 then (if x1 = (-1) then pm_ev (242, 4, [vr 8 0, vi x1, vi (x2 + 1), vi (x3 + 1)], [], h1) else (pm_bI (pm_ev (240, 0, [vr 8 0, vi x3, vi x1], [], h1)) fun r4 h3 => pm_ev (242, 39, [vr 8 0, vi x1, vi x2, vi x3], [vi r4, vi x2], h3))) else pm_ev (242, 4, [vr 8 0, vi x1, vi (x2 + 0), vi (x3 + 1)], [], h1))) else some (some (vi x2), h)) := (ev_rc [4, 15, 39] 120 _).trans rfl
set_option maxRecDepth 100000 in
set_option maxHeartbeats 400000 in
/-- IllLightModel.countOf(I)I -/
theorem E_X9_countOf_39 (h : PH) (x1 : Int32) (x2 : Int32) (x3 : Int32) (s0 : Int32) (s1 : Int32) : pm_ev (242, 39, [vr 8 0, vi x1, vi x2, vi x3], [vi s0, vi s1], h) = (if s0 = 0 then pm_ev (242, 4, [vr 8 0, vi x1, vi (s1 + 0), vi (x3 + 1)], [], h) else pm_ev (242, 4, [vr 8 0, vi x1, vi (s1 + 1), vi (x3 + 1)], [], h)) := (ev_rc [4, 15, 39] 120 _).trans rfl
set_option maxRecDepth 100000 in
set_option maxHeartbeats 400000 in
/-- IllLightModel.askOf()I -/
theorem E_X9_askOf (h : PH)  : pm_ev (243, 0, [vr 8 0, none, none, none, none, none], [], h) = pm_ev (243, 8, [vr 8 0, vi 0, vi 999, vi 0, none, none], [], h) := (ev_rc [8] 120 _).trans rfl
set_option maxRecDepth 100000 in
set_option maxHeartbeats 400000 in
/-- IllLightModel.askOf()I -/
theorem E_X9_askOf_8 (h : PH) (x1 : Int32) (x2 : Int32) (x3 : Int32) : pm_ev (243, 8, [vr 8 0, vi x1, vi x2, vi x3, none, none], [], h) = (if x3 < 24 then (pm_bI (pm_ev (242, 0, [vr 8 0, vi x3, none, none], [], h)) fun r2 h1 => (if (h1.1 8 0 31) - r2 < r2 then (if r2 < x2 then pm_ev (243, 8, [vr 8 0, vi x3, vi r2, vi (x3 + 1), none, none], [], h1) else pm_ev (243, 8, [vr 8 0, vi x1, vi x2, vi (x3 + 1), none, none], [], h1)) else (if (h1.1 8 0 31) - r2 < x2 then pm_ev (243, 8, [vr 8 0, vi x3, vi ((h1.1 8 0 31) - r2), vi (x3 + 1), none, none], [], h1) else pm_ev (243, 8, [vr 8 0, vi x1, vi x2, vi (x3 + 1), none, none], [], h1)))) else some (some (vi x1), h)) := (ev_rc [8] 120 _).trans rfl
set_option maxRecDepth 100000 in
set_option maxHeartbeats 400000 in
/-- IllLightModel.fits(II)I -/
theorem E_X9_fits (h : PH) (a : Int32) (b : Int32) : pm_ev (244, 0, [vr 8 0, vi a, vi b, none, none], [], h) = (pm_bI (pm_ev (238, 0, [vr 8 0, vi a], [], h)) fun r2 h1 => (if r2 = 0 then some (some (vi (-2)), h1) else (pm_bI (pm_ev (242, 0, [vr 8 0, vi (-1), none, none], [], h1)) fun r4 h3 => pm_ev (244, 17, [vr 8 0, none, vi b, none, none], [vi r4, vr 8 0], h3)))) := (ev_rc [17, 57, 64, 76, 123, 135] 120 _).trans rfl
set_option maxRecDepth 100000 in
set_option maxHeartbeats 400000 in
/-- IllLightModel.fits(II)I -/
theorem E_X9_fits_17 (h : PH) (x2 : Int32) (s0 : Int32) (s1 : Nat) : pm_ev (244, 17, [vr 8 0, none, vi x2, none, none], [vi s0, vr 8 s1], h) = (if x2 = 0 then some (some (vi ((pm_sI h 8 s1 31 s0).1 8 0 31)), (pm_sI h 8 s1 31 s0)) else (pm_bI (pm_ev (153, 0, [vi x2, vi 1, vi 2], [], (pm_sI h 8 s1 31 s0))) fun r6 h5 => (if r6 = 0 then pm_ev (244, 123, [vr 8 0, none, vi x2, vi 0, vi 0], [], h5) else (if h5.1 8 0 31 = 0 then some (some (vi (-1)), h5) else (if pm_inb (h5.1 8 0 30) 5104 = true then pm_ev (244, 57, [vr 8 0, none, vi x2, none, none], [vi (h5.1 33 0 ((h5.1 8 0 30).toNatClampNeg)), vi 1], h5) else none))))) := (ev_rc [17, 57, 64, 76, 123, 135] 120 _).trans rfl
set_option maxRecDepth 100000 in
set_option maxHeartbeats 400000 in
/-- IllLightModel.fits(II)I -/
theorem E_X9_fits_123 (h : PH) (x2 : Int32) (x3 : Int32) (x4 : Int32) : pm_ev (244, 123, [vr 8 0, none, vi x2, vi x3, vi x4], [], h) = (if pm_inb (h.1 8 0 30) 5104 = true then pm_ev (244, 135, [vr 8 0, none, vi x2, vi x3, vi x4], [vi (h.1 33 0 ((h.1 8 0 30).toNatClampNeg)), vi 1, vi x4], h) else none) := (ev_rc [17, 57, 64, 76, 123, 135] 120 _).trans rfl
set_option maxRecDepth 100000 in
set_option maxHeartbeats 400000 in
/-- IllLightModel.fits(II)I -/
theorem E_X9_fits_57 (h : PH) (x2 : Int32) (s0 : Int32) (s1 : Int32) : pm_ev (244, 57, [vr 8 0, none, vi x2, none, none], [vi s0, vi s1], h) = pm_ev (244, 64, [vr 8 0, none, vi x2, vi ((s1 <<< (s0 &&& 31)) - 1), vi 0], [], h) := (ev_rc [17, 57, 64, 76, 123, 135] 120 _).trans rfl
set_option maxRecDepth 100000 in
set_option maxHeartbeats 400000 in
/-- IllLightModel.fits(II)I -/
theorem E_X9_fits_135 (h : PH) (x2 : Int32) (x3 : Int32) (x4 : Int32) (s0 : Int32) (s1 : Int32) (s2 : Int32) : pm_ev (244, 135, [vr 8 0, none, vi x2, vi x3, vi x4], [vi s0, vi s1, vi s2], h) = (if s2 < s1 <<< (s0 &&& 31) then (pm_bI (pm_ev (241, 0, [vr 8 0, vi x4, none, none], [], h)) fun r8 h7 => (if (0 : Int32) < r8 then pm_ev (244, 123, [vr 8 0, none, vi x2, vi x3, vi (x4 + 1)], [], h7) else (if x2 = 10 + x3 then some (some (vi x4), h7) else pm_ev (244, 123, [vr 8 0, none, vi x2, vi (x3 + 1), vi (x4 + 1)], [], h7)))) else some (some (vi (-2)), h)) := (ev_rc [17, 57, 64, 76, 123, 135] 120 _).trans rfl
set_option maxRecDepth 100000 in
set_option maxHeartbeats 400000 in
/-- IllLightModel.fits(II)I -/
theorem E_X9_fits_64 (h : PH) (x2 : Int32) (x3 : Int32) (x4 : Int32) : pm_ev (244, 64, [vr 8 0, none, vi x2, vi x3, vi x4], [], h) = (if pm_inb (h.1 8 0 30) 5104 = true then pm_ev (244, 76, [vr 8 0, none, vi x2, vi x3, vi x4], [vi (h.1 33 0 ((h.1 8 0 30).toNatClampNeg)), vi 1, vi x4], h) else none) := (ev_rc [17, 57, 64, 76, 123, 135] 120 _).trans rfl
set_option maxRecDepth 100000 in
set_option maxHeartbeats 400000 in
/-- IllLightModel.fits(II)I -/
theorem E_X9_fits_76 (h : PH) (x2 : Int32) (x3 : Int32) (x4 : Int32) (s0 : Int32) (s1 : Int32) (s2 : Int32) : pm_ev (244, 76, [vr 8 0, none, vi x2, vi x3, vi x4], [vi s0, vi s1, vi s2], h) = (if s2 < s1 <<< (s0 &&& 31) then (pm_bI (pm_ev (241, 0, [vr 8 0, vi x4, none, none], [], h)) fun r10 h9 => (if r10 = 0 then pm_ev (244, 64, [vr 8 0, none, vi x2, vi (x3 &&& x4), vi (x4 + 1)], [], h9) else pm_ev (244, 64, [vr 8 0, none, vi x2, vi (x3 &&& x3), vi (x4 + 1)], [], h9))) else (if x2 = 1 then some (some (vi x3), h) else (pm_bI (pm_ev (243, 0, [vr 8 0, none, none, none, none, none], [], h)) fun r12 h11 => some (some (vi r12), h11)))) := (ev_rc [17, 57, 64, 76, 123, 135] 120 _).trans rfl
set_option maxRecDepth 100000 in
set_option maxHeartbeats 400000 in
/-- IllLightModel.weightOf(I)J -/
theorem E_X9_weightOf (h : PH) (a : Int32) : pm_ev (245, 0, [vr 8 0, vi a, none, none, none], [], h) = pm_ev (245, 5, [vr 8 0, vi a, vl 1, none, vi 0], [], h) := (ev_rc [5, 16, 44, 64, 93, 113, 126] 120 _).trans rfl
set_option maxRecDepth 100000 in
set_option maxHeartbeats 400000 in
/-- IllLightModel.weightOf(I)J -/
theorem E_X9_weightOf_5 (h : PH) (x1 : Int32) (y2 : Int64) (x4 : Int32) : pm_ev (245, 5, [vr 8 0, vi x1, vl y2, none, vi x4], [], h) = (if pm_inb (h.1 8 0 30) 5104 = true then pm_ev (245, 16, [vr 8 0, vi x1, vl y2, none, vi x4], [vi (h.1 33 0 ((h.1 8 0 30).toNatClampNeg)), vi x4], h) else none) := (ev_rc [5, 16, 44, 64, 93, 113, 126] 120 _).trans rfl
set_option maxRecDepth 100000 in
set_option maxHeartbeats 400000 in
/-- IllLightModel.weightOf(I)J -/
theorem E_X9_weightOf_16 (h : PH) (x1 : Int32) (y2 : Int64) (x4 : Int32) (s0 : Int32) (s1 : Int32) : pm_ev (245, 16, [vr 8 0, vi x1, vl y2, none, vi x4], [vi s0, vi s1], h) = (if s1 < s0 then (if (x1 >>> (x4 &&& 31)) &&& 1 = 1 then (if pm_inb (((h.1 8 0 30) + 4) + x4) 5104 = true then pm_ev (245, 44, [vr 8 0, vi x1, vl y2, none, vi x4], [vi (h.1 33 0 ((((h.1 8 0 30) + 4) + x4).toNatClampNeg)), vl y2], h) else none) else (if pm_inb (((h.1 8 0 30) + 4) + x4) 5104 = true then pm_ev (245, 64, [vr 8 0, vi x1, none, none, vi x4], [vi (h.1 33 0 ((((h.1 8 0 30) + 4) + x4).toNatClampNeg)), vi 10, vl y2], h) else none)) else (pm_bI (pm_ev (241, 0, [vr 8 0, vi x1, none, none], [], h)) fun r2 h1 => (if pm_inb ((h1.1 8 0 30) + 2) 5104 = true then pm_ev (245, 93, [vr 8 0, vi x1, vl y2, none, vi r2], [vi (h1.1 33 0 (((h1.1 8 0 30) + 2).toNatClampNeg)), vl y2], h1) else none))) := (ev_rc [5, 16, 44, 64, 93, 113, 126] 120 _).trans rfl
set_option maxRecDepth 100000 in
set_option maxHeartbeats 400000 in
/-- IllLightModel.weightOf(I)J -/
theorem E_X9_weightOf_44 (h : PH) (x1 : Int32) (y2 : Int64) (x4 : Int32) (s0 : Int32) (s1 : Int64) : pm_ev (245, 44, [vr 8 0, vi x1, vl y2, none, vi x4], [vi s0, vl s1], h) = pm_ev (245, 5, [vr 8 0, vi x1, vl (s1 * ((s0 : Int32).toInt64)), none, vi (x4 + 1)], [], h) := (ev_rc [5, 16, 44, 64, 93, 113, 126] 120 _).trans rfl
set_option maxRecDepth 100000 in
set_option maxHeartbeats 400000 in
/-- IllLightModel.weightOf(I)J -/
theorem E_X9_weightOf_64 (h : PH) (x1 : Int32) (x4 : Int32) (s0 : Int32) (s1 : Int32) (s2 : Int64) : pm_ev (245, 64, [vr 8 0, vi x1, none, none, vi x4], [vi s0, vi s1, vl s2], h) = pm_ev (245, 5, [vr 8 0, vi x1, vl (s2 * ((s1 - s0 : Int32).toInt64)), none, vi (x4 + 1)], [], h) := (ev_rc [5, 16, 44, 64, 93, 113, 126] 120 _).trans rfl
set_option maxRecDepth 100000 in
set_option maxHeartbeats 400000 in
/-- IllLightModel.weightOf(I)J -/
theorem E_X9_weightOf_93 (h : PH) (x1 : Int32) (y2 : Int64) (x4 : Int32) (s0 : Int32) (s1 : Int64) : pm_ev (245, 93, [vr 8 0, vi x1, vl y2, none, vi x4], [vi s0, vl s1], h) = (pm_bL (pm_ev (236, 0, [vl ((s0 : Int32).toInt64), none, vi x4, none, none, none], [], h)) fun l4 h3 => (if pm_inb ((h3.1 8 0 30) + 2) 5104 = true then pm_ev (245, 113, [vr 8 0, vi x1, vl y2, none, vi x4], [vi (h3.1 33 0 (((h3.1 8 0 30) + 2).toNatClampNeg)), vi 10, vl (s1 * l4)], h3) else none)) := (ev_rc [5, 16, 44, 64, 93, 113, 126] 120 _).trans rfl
set_option maxRecDepth 100000 in
set_option maxHeartbeats 400000 in
/-- IllLightModel.weightOf(I)J -/
theorem E_X9_weightOf_113 (h : PH) (x1 : Int32) (y2 : Int64) (x4 : Int32) (s0 : Int32) (s1 : Int32) (s2 : Int64) : pm_ev (245, 113, [vr 8 0, vi x1, vl y2, none, vi x4], [vi s0, vi s1, vl s2], h) = (if pm_inb ((h.1 8 0 30) + 3) 5104 = true then pm_ev (245, 126, [vr 8 0, vi x1, vl y2, none, vi x4], [vi (h.1 33 0 (((h.1 8 0 30) + 3).toNatClampNeg)), vl ((s1 - s0 : Int32).toInt64), vl s2], h) else none) := (ev_rc [5, 16, 44, 64, 93, 113, 126] 120 _).trans rfl
set_option maxRecDepth 100000 in
set_option maxHeartbeats 400000 in
/-- IllLightModel.weightOf(I)J -/
theorem E_X9_weightOf_126 (h : PH) (x1 : Int32) (y2 : Int64) (x4 : Int32) (s0 : Int32) (s1 : Int64) (s2 : Int64) : pm_ev (245, 126, [vr 8 0, vi x1, vl y2, none, vi x4], [vi s0, vl s1, vl s2], h) = (pm_bL (pm_ev (236, 0, [vl s1, none, vi (s0 - x4), none, none, none], [], h)) fun l6 h5 => some (some (vl (s2 * l6)), h5)) := (ev_rc [5, 16, 44, 64, 93, 113, 126] 120 _).trans rfl
set_option maxRecDepth 100000 in
set_option maxHeartbeats 400000 in
/-- IllLightModel.belief(IIZ)J -/
theorem E_X9_belief (h : PH) (a : Int32) (b : Int32) (c : Int32) : pm_ev (246, 0, [vr 8 0, vi a, vi b, vi c, none, none, none, none, none, none, none], [], h) = (pm_bI (pm_ev (238, 0, [vr 8 0, vi a], [], h)) fun r2 h1 => (if r2 = 0 then some (some (vl (-1)), h1) else (if pm_inb (h1.1 8 0 30) 5104 = true then pm_ev (246, 19, [vr 8 0, vi a, vi b, vi c, none, none, none, none, none, none, none], [vi (h1.1 33 0 ((h1.1 8 0 30).toNatClampNeg)), vi 0, vi b], h1) else none))) := (ev_rc [19, 40, 52] 120 _).trans rfl
set_option maxRecDepth 100000 in
set_option maxHeartbeats 400000 in
/-- IllLightModel.belief(IIZ)J -/
theorem E_X9_belief_19 (h : PH) (x1 : Int32) (x2 : Int32) (x3 : Int32) (s0 : Int32) (s1 : Int32) (s2 : Int32) : pm_ev (246, 19, [vr 8 0, vi x1, vi x2, vi x3, none, none, none, none, none, none, none], [vi s0, vi s1, vi s2], h) = (pm_bI (pm_ev (153, 0, [vi s2, vi s1, vi (s0 - 1)], [], h)) fun r4 h3 => (if r4 = 0 then some (some (vl (-1)), h3) else pm_ev (246, 40, [vr 8 0, none, vi x2, vi x3, vl 0, none, vl 0, none, vi 0, none, none], [], h3))) := (ev_rc [19, 40, 52] 120 _).trans rfl
set_option maxRecDepth 100000 in
set_option maxHeartbeats 400000 in
/-- IllLightModel.belief(IIZ)J -/
theorem E_X9_belief_40 (h : PH) (x2 : Int32) (x3 : Int32) (y4 : Int64) (y6 : Int64) (x8 : Int32) : pm_ev (246, 40, [vr 8 0, none, vi x2, vi x3, vl y4, none, vl y6, none, vi x8, none, none], [], h) = (if pm_inb (h.1 8 0 30) 5104 = true then pm_ev (246, 52, [vr 8 0, none, vi x2, vi x3, vl y4, none, vl y6, none, vi x8, none, none], [vi (h.1 33 0 ((h.1 8 0 30).toNatClampNeg)), vi 1, vi x8], h) else none) := (ev_rc [19, 40, 52] 120 _).trans rfl
set_option maxRecDepth 100000 in
set_option maxHeartbeats 400000 in
/-- IllLightModel.belief(IIZ)J -/
theorem E_X9_belief_52 (h : PH) (x2 : Int32) (x3 : Int32) (y4 : Int64) (y6 : Int64) (x8 : Int32) (s0 : Int32) (s1 : Int32) (s2 : Int32) : pm_ev (246, 52, [vr 8 0, none, vi x2, vi x3, vl y4, none, vl y6, none, vi x8, none, none], [vi s0, vi s1, vi s2], h) = (if s2 < s1 <<< (s0 &&& 31) then (pm_bL (pm_ev (245, 0, [vr 8 0, vi x8, none, none, none], [], h)) fun l6 h5 => (if (x8 >>> (x2 &&& 31)) &&& 1 = 1 then pm_ev (246, 40, [vr 8 0, none, vi x2, vi x3, vl (y4 + l6), none, vl (y6 + l6), none, vi (x8 + 1), none, none], [], h5) else pm_ev (246, 40, [vr 8 0, none, vi x2, vi x3, vl (y4 + 0), none, vl (y6 + l6), none, vi (x8 + 1), none, none], [], h5))) else (if lg_cmp y6 0 = 0 then (if x3 = 0 then some (some (vl 0), h) else some (some (vl 1), h)) else (if x3 = 0 then (pm_bL (pm_ev (235, 0, [vl y4, none, vl y6, none, none, none, none, none, none, none], [], h)) fun l8 h7 => (if l8 = 0 then none else some (some (vl (y4 / l8)), h7))) else (pm_bL (pm_ev (235, 0, [vl y4, none, vl y6, none, none, none, none, none, none, none], [], h)) fun l10 h9 => (if l10 = 0 then none else some (some (vl (y6 / l10)), h9)))))) := (ev_rc [19, 40, 52] 120 _).trans rfl
set_option maxRecDepth 100000 in
set_option maxHeartbeats 400000 in
/-- IllLightModel.darkest(I)I -/
theorem E_X9_darkest (h : PH) (a : Int32) : pm_ev (247, 0, [vr 8 0, vi a, none, none, none], [], h) = pm_ev (247, 7, [vr 8 0, vi a, vi 0, vi 0, vi 0], [], h) := (ev_rc [7] 120 _).trans rfl
set_option maxRecDepth 100000 in
set_option maxHeartbeats 400000 in
/-- IllLightModel.darkest(I)I -/
theorem E_X9_darkest_7 (h : PH) (x1 : Int32) (x2 : Int32) (x3 : Int32) (x4 : Int32) : pm_ev (247, 7, [vr 8 0, vi x1, vi x2, vi x3, vi x4], [], h) = (if x4 < 24 then (pm_bI (pm_ev (196, 0, [vr 8 0, vi x1, vi x4, none], [], h)) fun r2 h1 => (if r2 = 0 then (if x2 < x3 + 1 then pm_ev (247, 7, [vr 8 0, vi x1, vi (x3 + 1), vi (x3 + 1), vi (x4 + 1)], [], h1) else pm_ev (247, 7, [vr 8 0, vi x1, vi x2, vi (x3 + 1), vi (x4 + 1)], [], h1)) else (if x2 < 0 then pm_ev (247, 7, [vr 8 0, vi x1, vi 0, vi 0, vi (x4 + 1)], [], h1) else pm_ev (247, 7, [vr 8 0, vi x1, vi x2, vi 0, vi (x4 + 1)], [], h1)))) else some (some (vi x2), h)) := (ev_rc [7] 120 _).trans rfl
set_option maxRecDepth 100000 in
set_option maxHeartbeats 400000 in
/-- IllLightModel.hours(III)I -/
theorem E_X9_hours (h : PH) (a : Int32) (b : Int32) (c : Int32) : pm_ev (248, 0, [vr 8 0, vi a, vi b, vi c, none, none, none, none, none], [], h) = (pm_bI (pm_ev (185, 0, [vr 8 0, vi a], [], h)) fun r2 h1 => (if r2 = 0 then some (some (vi (-1)), h1) else (pm_bI (pm_ev (187, 0, [vr 8 0, vi b], [], h1)) fun r4 h3 => pm_ev (248, 13, [vr 8 0, vi a, vi b, vi c, none, none, none, none, none], [vi r4], h3)))) := (ev_rc [13, 31, 54, 118, 146] 120 _).trans rfl
set_option maxRecDepth 100000 in
set_option maxHeartbeats 400000 in
/-- IllLightModel.hours(III)I -/
theorem E_X9_hours_13 (h : PH) (x1 : Int32) (x2 : Int32) (x3 : Int32) (s0 : Int32) : pm_ev (248, 13, [vr 8 0, vi x1, vi x2, vi x3, none, none, none, none, none], [vi s0], h) = (if s0 = 0 then some (some (vi (-1)), h) else (pm_bI (pm_ev (153, 0, [vi x3, vi 0, vi 4], [], h)) fun r6 h5 => (if r6 = 0 then some (some (vi (-1)), h5) else (pm_bV (pm_ev (191, 0, [vr 8 0, none], [], h5)) fun h7 => pm_ev (248, 31, [vr 8 0, none, vi x2, vi x3, none, none, none, none, none], [], h7))))) := (ev_rc [13, 31, 54, 118, 146] 120 _).trans rfl
set_option maxRecDepth 100000 in
set_option maxHeartbeats 400000 in
/-- IllLightModel.hours(III)I -/
theorem E_X9_hours_31 (h : PH) (x2 : Int32) (x3 : Int32) : pm_ev (248, 31, [vr 8 0, none, vi x2, vi x3, none, none, none, none, none], [], h) = (if x3 = 2 then (pm_bI (pm_ev (247, 0, [vr 8 0, vi x2, none, none, none], [], h)) fun r9 h8 => some (some (vi r9), h8)) else pm_ev (248, 54, [vr 8 0, none, vi x2, vi x3, vi 0, vi 0, vi 0, vi 0, none], [], h)) := (ev_rc [13, 31, 54, 118, 146] 120 _).trans rfl
set_option maxRecDepth 100000 in
set_option maxHeartbeats 400000 in
/-- IllLightModel.hours(III)I -/
theorem E_X9_hours_54 (h : PH) (x2 : Int32) (x3 : Int32) (x4 : Int32) (x5 : Int32) (x6 : Int32) (x7 : Int32) : pm_ev (248, 54, [vr 8 0, none, vi x2, vi x3, vi x4, vi x5, vi x6, vi x7, none], [], h) = (if x7 < 24 then (if x3 = 0 then (pm_bI (pm_ev (196, 0, [vr 8 0, vi x2, vi x7, none], [], h)) fun r11 h10 => (if r11 = 0 then (pm_bI (pm_ev (194, 0, [vr 8 0, vi x2, vi x7, none, none], [], h10)) fun r13 h12 => pm_ev (248, 118, [vr 8 0, none, vi x2, vi x3, vi (x4 ||| 0), vi x5, vi x6, vi x7, none], [vi r13], h12)) else (pm_bI (pm_ev (194, 0, [vr 8 0, vi x2, vi x7, none, none], [], h10)) fun r15 h14 => pm_ev (248, 118, [vr 8 0, none, vi x2, vi x3, vi (x4 ||| ((1 : Int32) <<< (x7 &&& 31))), vi x5, vi x6, vi x7, none], [vi r15], h14)))) else (pm_bI (pm_ev (195, 0, [vr 8 0, vi x2, vi x7, none, none], [], h)) fun r17 h16 => (if r17 = 1 then (pm_bI (pm_ev (194, 0, [vr 8 0, vi x2, vi x7, none, none], [], h16)) fun r19 h18 => pm_ev (248, 118, [vr 8 0, none, vi x2, vi x3, vi (x4 ||| ((1 : Int32) <<< (x7 &&& 31))), vi x5, vi x6, vi x7, none], [vi r19], h18)) else (pm_bI (pm_ev (194, 0, [vr 8 0, vi x2, vi x7, none, none], [], h16)) fun r21 h20 => pm_ev (248, 118, [vr 8 0, none, vi x2, vi x3, vi (x4 ||| 0), vi x5, vi x6, vi x7, none], [vi r21], h20))))) else (if x3 = 3 then some (some (vi x5), h) else (if x3 = 4 then some (some (vi x6), h) else some (some (vi x4), h)))) := (ev_rc [13, 31, 54, 118, 146] 120 _).trans rfl
set_option maxRecDepth 100000 in
set_option maxHeartbeats 400000 in
/-- IllLightModel.hours(III)I -/
theorem E_X9_hours_118 (h : PH) (x2 : Int32) (x3 : Int32) (x4 : Int32) (x5 : Int32) (x6 : Int32) (x7 : Int32) (s0 : Int32) : pm_ev (248, 118, [vr 8 0, none, vi x2, vi x3, vi x4, vi x5, vi x6, vi x7, none], [vi s0], h) = (pm_bI (pm_ev (194, 0, [vr 8 0, vi x2, vi x5, none, none], [], h)) fun r23 h22 => (if r23 < s0 then (pm_bI (pm_ev (195, 0, [vr 8 0, vi x2, vi x7, none, none], [], h22)) fun r25 h24 => pm_ev (248, 146, [vr 8 0, none, vi x2, vi x3, vi x4, vi x7, vi x6, vi x7, none], [vi r25, vi x6], h24)) else (pm_bI (pm_ev (195, 0, [vr 8 0, vi x2, vi x7, none, none], [], h22)) fun r27 h26 => pm_ev (248, 146, [vr 8 0, none, vi x2, vi x3, vi x4, vi x5, vi x6, vi x7, none], [vi r27, vi x6], h26)))) := (ev_rc [13, 31, 54, 118, 146] 120 _).trans rfl
set_option maxRecDepth 100000 in
set_option maxHeartbeats 400000 in
/-- IllLightModel.hours(III)I -/
theorem E_X9_hours_146 (h : PH) (x2 : Int32) (x3 : Int32) (x4 : Int32) (x5 : Int32) (x6 : Int32) (x7 : Int32) (s0 : Int32) (s1 : Int32) : pm_ev (248, 146, [vr 8 0, none, vi x2, vi x3, vi x4, vi x5, vi x6, vi x7, none], [vi s0, vi s1], h) = (if s0 = 2 then pm_ev (248, 54, [vr 8 0, none, vi x2, vi x3, vi x4, vi x5, vi (s1 + 1), vi (x7 + 1), none], [], h) else pm_ev (248, 54, [vr 8 0, none, vi x2, vi x3, vi x4, vi x5, vi (s1 + 0), vi (x7 + 1), none], [], h)) := (ev_rc [13, 31, 54, 118, 146] 120 _).trans rfl
set_option maxRecDepth 100000 in
set_option maxHeartbeats 400000 in
/-- IllLightModel.shade(II)I -/
theorem E_X9_shade (h : PH) (a : Int32) (b : Int32) : pm_ev (249, 0, [vr 8 0, vi a, vi b, none, none, none], [], h) = (pm_bI (pm_ev (185, 0, [vr 8 0, vi a], [], h)) fun r2 h1 => (if r2 = 0 then some (some (vi (-1)), h1) else (pm_bI (pm_ev (187, 0, [vr 8 0, vi b], [], h1)) fun r4 h3 => pm_ev (249, 13, [vr 8 0, vi a, vi b, none, none, none], [vi r4], h3)))) := (ev_rc [13, 37, 48] 120 _).trans rfl
set_option maxRecDepth 100000 in
set_option maxHeartbeats 400000 in
/-- IllLightModel.shade(II)I -/
theorem E_X9_shade_13 (h : PH) (x1 : Int32) (x2 : Int32) (s0 : Int32) : pm_ev (249, 13, [vr 8 0, vi x1, vi x2, none, none, none], [vi s0], h) = (if s0 = 0 then some (some (vi (-1)), h) else (pm_bI (pm_ev (188, 0, [vr 8 0, vi x2, vi 0], [], h)) fun r6 h5 => (if pm_inb ((h5.1 8 0 13) + 2) 5104 = true then pm_ev (249, 37, [vr 8 0, none, vi x2, vi r6, none, none], [vi (h5.1 33 0 (((h5.1 8 0 13) + 2).toNatClampNeg)), vi r6], h5) else none))) := (ev_rc [13, 37, 48] 120 _).trans rfl
set_option maxRecDepth 100000 in
set_option maxHeartbeats 400000 in
/-- IllLightModel.shade(II)I -/
theorem E_X9_shade_37 (h : PH) (x2 : Int32) (x3 : Int32) (s0 : Int32) (s1 : Int32) : pm_ev (249, 37, [vr 8 0, none, vi x2, vi x3, none, none], [vi s0, vi s1], h) = (if s1 = s0 then some (some (vi 0), h) else pm_ev (249, 48, [vr 8 0, none, none, vi x3, vi 0, vi 0], [], h)) := (ev_rc [13, 37, 48] 120 _).trans rfl
set_option maxRecDepth 100000 in
set_option maxHeartbeats 400000 in
/-- IllLightModel.shade(II)I -/
theorem E_X9_shade_48 (h : PH) (x3 : Int32) (x4 : Int32) (x5 : Int32) : pm_ev (249, 48, [vr 8 0, none, none, vi x3, vi x4, vi x5], [], h) = (if x5 < (h.1 8 0 14) * (h.1 8 0 15) then (pm_bI (pm_ev (206, 0, [vr 8 0, vi x3, vi x5, none, none, none, none, none], [], h)) fun r8 h7 => (if r8 = 0 then pm_ev (249, 48, [vr 8 0, none, none, vi x3, vi (x4 + 0), vi (x5 + 1)], [], h7) else pm_ev (249, 48, [vr 8 0, none, none, vi x3, vi (x4 + 1), vi (x5 + 1)], [], h7))) else some (some (vi x4), h)) := (ev_rc [13, 37, 48] 120 _).trans rfl
set_option maxRecDepth 100000 in
set_option maxHeartbeats 400000 in
/-- IllLightModel.mutiny(IIIZ)I -/
theorem E_X9_mutiny (h : PH) (a : Int32) (b : Int32) (c : Int32) (d : Int32) : pm_ev (256, 0, [vr 8 0, vi a, vi b, vi c, vi d, none, none, none], [], h) = (pm_bI (pm_ev (185, 0, [vr 8 0, vi a], [], h)) fun r2 h1 => (if r2 = 0 then some (some (vi (-1)), h1) else (pm_bI (pm_ev (187, 0, [vr 8 0, vi b], [], h1)) fun r4 h3 => pm_ev (256, 13, [vr 8 0, vi a, vi b, vi c, vi d, none, none, none], [vi r4], h3)))) := (ev_rc [13, 32, 50, 71, 100] 120 _).trans rfl
set_option maxRecDepth 100000 in
set_option maxHeartbeats 400000 in
/-- IllLightModel.mutiny(IIIZ)I -/
theorem E_X9_mutiny_13 (h : PH) (x1 : Int32) (x2 : Int32) (x3 : Int32) (x4 : Int32) (s0 : Int32) : pm_ev (256, 13, [vr 8 0, vi x1, vi x2, vi x3, vi x4, none, none, none], [vi s0], h) = (if s0 = 0 then some (some (vi (-1)), h) else (pm_bI (pm_ev (188, 0, [vr 8 0, vi x2, vi 3], [], h)) fun r6 h5 => (if r6 = 0 then some (some (vi (-1)), h5) else (pm_bI (pm_ev (153, 0, [vi x3, vi 0, vi 23], [], h5)) fun r8 h7 => pm_ev (256, 32, [vr 8 0, vi x1, vi x2, vi x3, vi x4, none, none, none], [vi r8], h7))))) := (ev_rc [13, 32, 50, 71, 100] 120 _).trans rfl
set_option maxRecDepth 100000 in
set_option maxHeartbeats 400000 in
/-- IllLightModel.mutiny(IIIZ)I -/
theorem E_X9_mutiny_32 (h : PH) (x1 : Int32) (x2 : Int32) (x3 : Int32) (x4 : Int32) (s0 : Int32) : pm_ev (256, 32, [vr 8 0, vi x1, vi x2, vi x3, vi x4, none, none, none], [vi s0], h) = (if s0 = 0 then some (some (vi (-1)), h) else (pm_bV (pm_ev (191, 0, [vr 8 0, none], [], h)) fun h9 => pm_ev (256, 50, [vr 8 0, none, vi x2, vi x3, vi x4, vi 0, vi 0, vi 0], [], h9))) := (ev_rc [13, 32, 50, 71, 100] 120 _).trans rfl
set_option maxRecDepth 100000 in
set_option maxHeartbeats 400000 in
/-- IllLightModel.mutiny(IIIZ)I -/
theorem E_X9_mutiny_50 (h : PH) (x2 : Int32) (x3 : Int32) (x4 : Int32) (x5 : Int32) (x6 : Int32) (x7 : Int32) : pm_ev (256, 50, [vr 8 0, none, vi x2, vi x3, vi x4, vi x5, vi x6, vi x7], [], h) = (pm_bI (pm_ev (188, 0, [vr 8 0, vi x2, vi 3], [], h)) fun r11 h10 => (if x7 < r11 then (pm_bI (pm_ev (193, 0, [vr 8 0, vi x2, vi x7, vi x3, none], [], h10)) fun r13 h12 => pm_ev (256, 71, [vr 8 0, none, vi x2, vi x3, vi x4, vi x5, vi x6, vi x7], [vi r13, vi x5], h12)) else (if x4 = 0 then some (some (vi x5), h10) else some (some (vi x6), h10)))) := (ev_rc [13, 32, 50, 71, 100] 120 _).trans rfl
set_option maxRecDepth 100000 in
set_option maxHeartbeats 400000 in
/-- IllLightModel.mutiny(IIIZ)I -/
theorem E_X9_mutiny_71 (h : PH) (x2 : Int32) (x3 : Int32) (x4 : Int32) (x5 : Int32) (x6 : Int32) (x7 : Int32) (s0 : Int32) (s1 : Int32) : pm_ev (256, 71, [vr 8 0, none, vi x2, vi x3, vi x4, vi x5, vi x6, vi x7], [vi s0, vi s1], h) = (pm_bI (pm_ev (193, 0, [vr 8 0, vi x2, vi 0, vi x3, none], [], h)) fun r15 h14 => (if r15 < s0 then (pm_bI (pm_ev (193, 0, [vr 8 0, vi x2, vi x7, vi x3, none], [], h14)) fun r17 h16 => pm_ev (256, 100, [vr 8 0, none, vi x2, vi x3, vi x4, vi (s1 ||| ((1 : Int32) <<< (x7 &&& 31))), vi x6, vi x7], [vi r17], h16)) else (pm_bI (pm_ev (193, 0, [vr 8 0, vi x2, vi x7, vi x3, none], [], h14)) fun r19 h18 => pm_ev (256, 100, [vr 8 0, none, vi x2, vi x3, vi x4, vi (s1 ||| 0), vi x6, vi x7], [vi r19], h18)))) := (ev_rc [13, 32, 50, 71, 100] 120 _).trans rfl
set_option maxRecDepth 100000 in
set_option maxHeartbeats 400000 in
/-- IllLightModel.mutiny(IIIZ)I -/
theorem E_X9_mutiny_100 (h : PH) (x2 : Int32) (x3 : Int32) (x4 : Int32) (x5 : Int32) (x6 : Int32) (x7 : Int32) (s0 : Int32) : pm_ev (256, 100, [vr 8 0, none, vi x2, vi x3, vi x4, vi x5, vi x6, vi x7], [vi s0], h) = (pm_bI (pm_ev (193, 0, [vr 8 0, vi x2, vi x6, vi x3, none], [], h)) fun r21 h20 => (if r21 < s0 then pm_ev (256, 50, [vr 8 0, none, vi x2, vi x3, vi x4, vi x5, vi x7, vi (x7 + 1)], [], h20) else pm_ev (256, 50, [vr 8 0, none, vi x2, vi x3, vi x4, vi x5, vi x6, vi (x7 + 1)], [], h20))) := (ev_rc [13, 32, 50, 71, 100] 120 _).trans rfl
set_option maxRecDepth 100000 in
set_option maxHeartbeats 400000 in
/-- IllLightModel.fraction(Z)J -/
theorem E_X9_fraction (h : PH) (a : Int32) : pm_ev (257, 0, [vr 8 0, vi a], [], h) = (if lg_cmp (h.2 8 0 35) 0 = 0 then (if a = 0 then some (some (vl 0), h) else some (some (vl 1), h)) else (if a = 0 then (pm_bL (pm_ev (235, 0, [vl (h.2 8 0 34), none, vl (h.2 8 0 35), none, none, none, none, none, none, none], [], h)) fun l2 h1 => (if l2 = 0 then none else some (some (vl ((h.2 8 0 34) / l2)), h1))) else (pm_bL (pm_ev (235, 0, [vl (h.2 8 0 34), none, vl (h.2 8 0 35), none, none, none, none, none, none, none], [], h)) fun l4 h3 => (if l4 = 0 then none else some (some (vl ((h.2 8 0 35) / l4)), h3))))) := (ev_rc [] 120 _).trans rfl
set_option maxRecDepth 100000 in
set_option maxHeartbeats 400000 in
/-- IllLightModel.weighs(ZJ)V -/
theorem E_X9_weighs (h : PH) (a : Int32) (b : Int64) : pm_ev (258, 0, [vr 8 0, vi a, vl b, none], [], h) = (if a = 0 then some (none, (pm_sL (pm_sL h 8 0 35 ((h.2 8 0 35) + b)) 8 0 34 ((h.2 8 0 34) + 0))) else some (none, (pm_sL (pm_sL h 8 0 35 ((h.2 8 0 35) + b)) 8 0 34 ((h.2 8 0 34) + b)))) := (ev_rc [] 120 _).trans rfl
set_option maxRecDepth 100000 in
set_option maxHeartbeats 400000 in
/-- IllLightModel.next(IIZ)J -/
theorem E_X9_next (h : PH) (a : Int32) (b : Int32) (c : Int32) : pm_ev (259, 0, [vr 8 0, vi a, vi b, vi c, none], [], h) = (pm_bI (pm_ev (238, 0, [vr 8 0, vi a], [], h)) fun r2 h1 => (if r2 = 0 then some (some (vl (-1)), h1) else (pm_bI (pm_ev (153, 0, [vi b, vi 0, vi 23], [], h1)) fun r4 h3 => pm_ev (259, 15, [vr 8 0, vi a, vi b, vi c, none], [vi r4], h3)))) := (ev_rc [15, 35, 47, 65] 120 _).trans rfl
set_option maxRecDepth 100000 in
set_option maxHeartbeats 400000 in
/-- IllLightModel.next(IIZ)J -/
theorem E_X9_next_15 (h : PH) (x1 : Int32) (x2 : Int32) (x3 : Int32) (s0 : Int32) : pm_ev (259, 15, [vr 8 0, vi x1, vi x2, vi x3, none], [vi s0], h) = (if s0 = 0 then some (some (vl (-1)), h) else pm_ev (259, 35, [vr 8 0, none, vi x2, vi x3, vi 0], [], (pm_sL (pm_sL h 8 0 34 0) 8 0 35 0))) := (ev_rc [15, 35, 47, 65] 120 _).trans rfl
set_option maxRecDepth 100000 in
set_option maxHeartbeats 400000 in
/-- IllLightModel.next(IIZ)J -/
theorem E_X9_next_35 (h : PH) (x2 : Int32) (x3 : Int32) (x4 : Int32) : pm_ev (259, 35, [vr 8 0, none, vi x2, vi x3, vi x4], [], h) = (if pm_inb (h.1 8 0 30) 5104 = true then pm_ev (259, 47, [vr 8 0, none, vi x2, vi x3, vi x4], [vi (h.1 33 0 ((h.1 8 0 30).toNatClampNeg)), vi 1, vi x4], h) else none) := (ev_rc [15, 35, 47, 65] 120 _).trans rfl
set_option maxRecDepth 100000 in
set_option maxHeartbeats 400000 in
/-- IllLightModel.next(IIZ)J -/
theorem E_X9_next_47 (h : PH) (x2 : Int32) (x3 : Int32) (x4 : Int32) (s0 : Int32) (s1 : Int32) (s2 : Int32) : pm_ev (259, 47, [vr 8 0, none, vi x2, vi x3, vi x4], [vi s0, vi s1, vi s2], h) = (if s2 < s1 <<< (s0 &&& 31) then (pm_bI (pm_ev (240, 0, [vr 8 0, vi x4, vi x2], [], h)) fun r6 h5 => (pm_bL (pm_ev (245, 0, [vr 8 0, vi x4, none, none, none], [], h5)) fun l8 h7 => pm_ev (259, 65, [vr 8 0, none, vi x2, vi x3, vi x4], [vl l8, vi r6, vr 8 0], h7))) else (pm_bL (pm_ev (257, 0, [vr 8 0, vi x3], [], h)) fun l10 h9 => some (some (vl l10), h9))) := (ev_rc [15, 35, 47, 65] 120 _).trans rfl
set_option maxRecDepth 100000 in
set_option maxHeartbeats 400000 in
/-- IllLightModel.next(IIZ)J -/
theorem E_X9_next_65 (h : PH) (x2 : Int32) (x3 : Int32) (x4 : Int32) (s0 : Int64) (s1 : Int32) (s2 : Nat) : pm_ev (259, 65, [vr 8 0, none, vi x2, vi x3, vi x4], [vl s0, vi s1, vr 8 s2], h) = (pm_bV (pm_ev (258, 0, [vr 8 s2, vi s1, vl s0, none], [], h)) fun h11 => pm_ev (259, 35, [vr 8 0, none, vi x2, vi x3, vi (x4 + 1)], [], h11)) := (ev_rc [15, 35, 47, 65] 120 _).trans rfl
set_option maxRecDepth 100000 in
set_option maxHeartbeats 400000 in
/-- IllLightModel.both(IIIZ)J -/
theorem E_X9_both (h : PH) (a : Int32) (b : Int32) (c : Int32) (d : Int32) : pm_ev (260, 0, [vr 8 0, vi a, vi b, vi c, vi d, none], [], h) = (pm_bI (pm_ev (238, 0, [vr 8 0, vi a], [], h)) fun r2 h1 => (if r2 = 0 then some (some (vl (-1)), h1) else (if b = c then some (some (vl (-1)), h1) else (if pm_inb (h1.1 8 0 30) 5104 = true then pm_ev (260, 24, [vr 8 0, vi a, vi b, vi c, vi d, none], [vi (h1.1 33 0 ((h1.1 8 0 30).toNatClampNeg)), vi 0, vi b], h1) else none)))) := (ev_rc [24, 43, 68, 80, 119] 120 _).trans rfl
set_option maxRecDepth 100000 in
set_option maxHeartbeats 400000 in
/-- IllLightModel.both(IIIZ)J -/
theorem E_X9_both_24 (h : PH) (x1 : Int32) (x2 : Int32) (x3 : Int32) (x4 : Int32) (s0 : Int32) (s1 : Int32) (s2 : Int32) : pm_ev (260, 24, [vr 8 0, vi x1, vi x2, vi x3, vi x4, none], [vi s0, vi s1, vi s2], h) = (pm_bI (pm_ev (153, 0, [vi s2, vi s1, vi (s0 - 1)], [], h)) fun r4 h3 => (if r4 = 0 then some (some (vl (-1)), h3) else (if pm_inb (h3.1 8 0 30) 5104 = true then pm_ev (260, 43, [vr 8 0, vi x1, vi x2, vi x3, vi x4, none], [vi (h3.1 33 0 ((h3.1 8 0 30).toNatClampNeg)), vi 0, vi x3], h3) else none))) := (ev_rc [24, 43, 68, 80, 119] 120 _).trans rfl
set_option maxRecDepth 100000 in
set_option maxHeartbeats 400000 in
/-- IllLightModel.both(IIIZ)J -/
theorem E_X9_both_43 (h : PH) (x1 : Int32) (x2 : Int32) (x3 : Int32) (x4 : Int32) (s0 : Int32) (s1 : Int32) (s2 : Int32) : pm_ev (260, 43, [vr 8 0, vi x1, vi x2, vi x3, vi x4, none], [vi s0, vi s1, vi s2], h) = (pm_bI (pm_ev (153, 0, [vi s2, vi s1, vi (s0 - 1)], [], h)) fun r6 h5 => (if r6 = 0 then some (some (vl (-1)), h5) else pm_ev (260, 68, [vr 8 0, none, vi x2, vi x3, vi x4, vi 0], [], (pm_sL (pm_sL h5 8 0 34 0) 8 0 35 0)))) := (ev_rc [24, 43, 68, 80, 119] 120 _).trans rfl
set_option maxRecDepth 100000 in
set_option maxHeartbeats 400000 in
/-- IllLightModel.both(IIIZ)J -/
theorem E_X9_both_68 (h : PH) (x2 : Int32) (x3 : Int32) (x4 : Int32) (x5 : Int32) : pm_ev (260, 68, [vr 8 0, none, vi x2, vi x3, vi x4, vi x5], [], h) = (if pm_inb (h.1 8 0 30) 5104 = true then pm_ev (260, 80, [vr 8 0, none, vi x2, vi x3, vi x4, vi x5], [vi (h.1 33 0 ((h.1 8 0 30).toNatClampNeg)), vi 1, vi x5], h) else none) := (ev_rc [24, 43, 68, 80, 119] 120 _).trans rfl
set_option maxRecDepth 100000 in
set_option maxHeartbeats 400000 in
/-- IllLightModel.both(IIIZ)J -/
theorem E_X9_both_80 (h : PH) (x2 : Int32) (x3 : Int32) (x4 : Int32) (x5 : Int32) (s0 : Int32) (s1 : Int32) (s2 : Int32) : pm_ev (260, 80, [vr 8 0, none, vi x2, vi x3, vi x4, vi x5], [vi s0, vi s1, vi s2], h) = (if s2 < s1 <<< (s0 &&& 31) then (if (x5 >>> (x2 &&& 31)) &&& 1 = 1 then (if (x5 >>> (x3 &&& 31)) &&& 1 = 1 then (pm_bL (pm_ev (245, 0, [vr 8 0, vi x5, none, none, none], [], h)) fun l8 h7 => (pm_bV (pm_ev (258, 0, [vr 8 0, vi 1, vl l8, none], [], h7)) fun h9 => pm_ev (260, 119, [vr 8 0, none, vi x2, vi x3, vi x4, vi x5], [], h9))) else (pm_bL (pm_ev (245, 0, [vr 8 0, vi x5, none, none, none], [], h)) fun l11 h10 => (pm_bV (pm_ev (258, 0, [vr 8 0, vi 0, vl l11, none], [], h10)) fun h12 => pm_ev (260, 119, [vr 8 0, none, vi x2, vi x3, vi x4, vi x5], [], h12)))) else (pm_bL (pm_ev (245, 0, [vr 8 0, vi x5, none, none, none], [], h)) fun l14 h13 => (pm_bV (pm_ev (258, 0, [vr 8 0, vi 0, vl l14, none], [], h13)) fun h15 => pm_ev (260, 119, [vr 8 0, none, vi x2, vi x3, vi x4, vi x5], [], h15)))) else (pm_bL (pm_ev (257, 0, [vr 8 0, vi x4], [], h)) fun l17 h16 => some (some (vl l17), h16))) := (ev_rc [24, 43, 68, 80, 119] 120 _).trans rfl
set_option maxRecDepth 100000 in
set_option maxHeartbeats 400000 in
/-- IllLightModel.both(IIIZ)J -/
theorem E_X9_both_119 (h : PH) (x2 : Int32) (x3 : Int32) (x4 : Int32) (x5 : Int32) : pm_ev (260, 119, [vr 8 0, none, vi x2, vi x3, vi x4, vi x5], [], h) = pm_ev (260, 68, [vr 8 0, none, vi x2, vi x3, vi x4, vi (x5 + 1)], [], h) := (ev_rc [24, 43, 68, 80, 119] 120 _).trans rfl
set_option maxRecDepth 100000 in
set_option maxHeartbeats 400000 in
/-- IllLightModel.below(I)I -/
theorem E_X9_below (h : PH) (a : Int32) : pm_ev (261, 0, [vr 8 0, vi a], [], h) = (if a = 0 then none else some (some (vi (((((pm_sI h 8 0 36 (((h.1 8 0 36) * 1103515245) + 12345)).1 8 0 36).toUInt32 >>> ((16 : Int32).toUInt32 &&& Int32.toUInt32 31)).toInt32) - ((((pm_sI h 8 0 36 (((h.1 8 0 36) * 1103515245) + 12345)).1 8 0 36).toUInt32 >>> ((16 : Int32).toUInt32 &&& Int32.toUInt32 31)).toInt32) / a * a)), (pm_sI h 8 0 36 (((h.1 8 0 36) * 1103515245) + 12345)))) := (ev_rc [] 120 _).trans rfl
set_option maxRecDepth 100000 in
set_option maxHeartbeats 400000 in
/-- IllLightModel.drawn(IIII)I -/
theorem E_X9_drawn (h : PH) (a : Int32) (b : Int32) (c : Int32) (d : Int32) : pm_ev (263, 0, [vr 8 0, vi a, vi b, vi c, vi d, none], [], h) = (pm_bI (pm_ev (185, 0, [vr 8 0, vi a], [], h)) fun r2 h1 => (if r2 = 0 then some (some (vi (-2)), h1) else (if h1.1 8 0 16 = 0 then some (some (vi (-2)), h1) else (pm_bI (pm_ev (153, 0, [vi c, vi 0, vi 60], [], h1)) fun r4 h3 => pm_ev (263, 22, [vr 8 0, vi a, vi b, vi c, vi d, none], [vi r4], h3))))) := (ev_rc [22, 45] 120 _).trans rfl
set_option maxRecDepth 100000 in
set_option maxHeartbeats 400000 in
/-- IllLightModel.drawn(IIII)I -/
theorem E_X9_drawn_22 (h : PH) (x1 : Int32) (x2 : Int32) (x3 : Int32) (x4 : Int32) (s0 : Int32) : pm_ev (263, 22, [vr 8 0, vi x1, vi x2, vi x3, vi x4, none], [vi s0], h) = (if s0 = 0 then some (some (vi (-2)), h) else (if x4 < 0 then some (some (vi (-2)), h) else (pm_bV (pm_ev (200, 0, [vr 8 0, none], [], (pm_sI h 8 0 36 x2))) fun h5 => pm_ev (263, 45, [vr 8 0, none, none, vi x3, vi x4, vi 0], [], h5)))) := (ev_rc [22, 45] 120 _).trans rfl
set_option maxRecDepth 100000 in
set_option maxHeartbeats 400000 in
/-- IllLightModel.drawn(IIII)I -/
theorem E_X9_drawn_45 (h : PH) (x3 : Int32) (x4 : Int32) (x5 : Int32) : pm_ev (263, 45, [vr 8 0, none, none, vi x3, vi x4, vi x5], [], h) = (if x5 < x3 then (pm_bV (pm_ev (262, 0, [vr 8 0, none, none, none], [], h)) fun h6 => pm_ev (263, 45, [vr 8 0, none, none, vi x3, vi x4, vi (x5 + 1)], [], h6)) else (pm_bI (pm_ev (216, 0, [vr 8 0, vi x4, none, none], [], h)) fun r8 h7 => some (some (vi r8), h7))) := (ev_rc [22, 45] 120 _).trans rfl
set_option maxRecDepth 100000 in
set_option maxHeartbeats 400000 in
/-- IllLightModel.count(I)I -/
theorem E_X9_count (h : PH) (a : Int32) : pm_ev (264, 0, [vr 8 0, vi a], [], h) = (pm_bI (pm_ev (153, 0, [vi a, vi 0, vi 2], [], h)) fun r2 h1 => (if r2 = 0 then some (some (vi (-2)), h1) else (if pm_inb a 5104 = true then pm_ev (264, 15, [vr 8 0, vi a], [vi (h1.1 33 0 a.toNatClampNeg)], h1) else none))) := (ev_rc [15] 120 _).trans rfl
set_option maxRecDepth 100000 in
set_option maxHeartbeats 400000 in
/-- IllLightModel.count(I)I -/
theorem E_X9_count_15 (h : PH) (x1 : Int32) (s0 : Int32) : pm_ev (264, 15, [vr 8 0, vi x1], [vi s0], h) = some (some (vi s0), h) := (ev_rc [15] 120 _).trans rfl
