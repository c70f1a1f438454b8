set_option maxRecDepth 100000 in
set_option maxHeartbeats 400000 in
/-- IllLightModel.isIn(III)Z -/
theorem E_X9_isIn (h : PH) (a : Int32) (b : Int32) (c : Int32) : pm_ev (153, 0, [vi a, vi b, vi c], [], h) = (if a < b then some (some (vi 0), h) else (if c < a then some (some (vi 0), h) else some (some (vi 1), h))) := (ev_rc [] 120 _).trans rfl
set_option maxRecDepth 100000 in
set_option maxHeartbeats 400000 in
/-- IllLightModel.placeOf(II)I -/
theorem E_X9_placeOf (h : PH) (a : Int32) (b : Int32) : pm_ev (178, 0, [vi a, vi b], [], h) = (if a = 0 then some (some (vi (610 + (142 * b))), h) else (if a = 1 then some (some (vi (894 + (161 * b))), h) else some (some (vi (1216 + (30 * b))), h))) := (ev_rc [] 120 _).trans rfl
set_option maxRecDepth 100000 in
set_option maxHeartbeats 400000 in
/-- IllLightModel.isOf(II)Z -/
theorem E_X9_isOf (h : PH) (a : Int32) (b : Int32) : pm_ev (180, 0, [vr 8 0, vi a, vi b], [], h) = (if pm_inb a 5104 = true then (pm_bI (pm_ev (153, 0, [vi b, vi 0, vi ((h.1 33 0 a.toNatClampNeg) - 1)], [], h)) fun r2 h1 => (if r2 &&& 1 = r2 then some (some (vi r2), h1) else none)) else none) := (ev_rc [] 120 _).trans rfl
set_option maxRecDepth 100000 in
set_option maxHeartbeats 400000 in
/-- IllLightModel.fault(I)I -/
theorem E_X9_fault (h : PH) (a : Int32) : pm_ev (184, 0, [vr 8 0, vi a], [], h) = (if a = 0 then some (some (vi (h.1 33 0 ((5 : Int32).toNatClampNeg))), h) else (if a = 1 then some (some (vi (h.1 33 0 ((6 : Int32).toNatClampNeg))), h) else some (some (vi (-1)), h))) := (ev_rc [] 120 _).trans rfl
set_option maxRecDepth 100000 in
set_option maxHeartbeats 400000 in
/-- IllLightModel.isCoast(I)Z -/
theorem E_X9_isCoast (h : PH) (a : Int32) : pm_ev (185, 0, [vr 8 0, vi a], [], h) = (pm_bI (pm_ev (180, 0, [vr 8 0, vi 0, vi a], [], h)) fun r2 h1 => pm_ev (185, 6, [vr 8 0, vi a], [vi r2], h1)) := (ev_rc [6, 17, 20, 33, 48, 63] 120 _).trans rfl
set_option maxRecDepth 100000 in
set_option maxHeartbeats 400000 in
/-- IllLightModel.isCoast(I)Z -/
theorem E_X9_isCoast_6 (h : PH) (x1 : Int32) (s0 : Int32) : pm_ev (185, 6, [vr 8 0, vi x1], [vi s0], h) = (if s0 = 0 then some (some (vi 0), h) else (pm_bI (pm_ev (178, 0, [vi 0, vi x1], [], h)) fun r4 h3 => pm_ev (185, 17, [vr 8 0, vi x1], [vi r4, vr 8 0], h3))) := (ev_rc [6, 17, 20, 33, 48, 63] 120 _).trans rfl
set_option maxRecDepth 100000 in
set_option maxHeartbeats 400000 in
/-- IllLightModel.isCoast(I)Z -/
theorem E_X9_isCoast_17 (h : PH) (x1 : Int32) (s0 : Int32) (s1 : Nat) : pm_ev (185, 17, [vr 8 0, vi x1], [vi s0, vr 8 s1], h) = pm_ev (185, 20, [vr 8 0, vi x1], [], (pm_sI h 8 s1 13 s0)) := (ev_rc [6, 17, 20, 33, 48, 63] 120 _).trans rfl
set_option maxRecDepth 100000 in
set_option maxHeartbeats 400000 in
/-- IllLightModel.isCoast(I)Z -/
theorem E_X9_isCoast_20 (h : PH) (x1 : Int32) : pm_ev (185, 20, [vr 8 0, vi x1], [], h) = (if pm_inb (h.1 8 0 13) 5104 = true then pm_ev (185, 33, [vr 8 0, vi x1], [], (pm_sI h 8 0 14 (h.1 33 0 ((h.1 8 0 13).toNatClampNeg)))) else none) := (ev_rc [6, 17, 20, 33, 48, 63] 120 _).trans rfl
set_option maxRecDepth 100000 in
set_option maxHeartbeats 400000 in
/-- IllLightModel.isCoast(I)Z -/
theorem E_X9_isCoast_33 (h : PH) (x1 : Int32) : pm_ev (185, 33, [vr 8 0, vi x1], [], h) = (if pm_inb ((h.1 8 0 13) + 1) 5104 = true then pm_ev (185, 48, [vr 8 0, vi x1], [], (pm_sI h 8 0 15 (h.1 33 0 (((h.1 8 0 13) + 1).toNatClampNeg)))) else none) := (ev_rc [6, 17, 20, 33, 48, 63] 120 _).trans rfl
set_option maxRecDepth 100000 in
set_option maxHeartbeats 400000 in
/-- IllLightModel.isCoast(I)Z -/
theorem E_X9_isCoast_48 (h : PH) (x1 : Int32) : pm_ev (185, 48, [vr 8 0, vi x1], [], h) = (if pm_inb ((h.1 8 0 13) + 5) 5104 = true then pm_ev (185, 63, [vr 8 0, vi x1], [], (pm_sI h 8 0 16 (h.1 33 0 (((h.1 8 0 13) + 5).toNatClampNeg)))) else none) := (ev_rc [6, 17, 20, 33, 48, 63] 120 _).trans rfl
set_option maxRecDepth 100000 in
set_option maxHeartbeats 400000 in
/-- IllLightModel.isCoast(I)Z -/
theorem E_X9_isCoast_63 (h : PH) (x1 : Int32) : pm_ev (185, 63, [vr 8 0, vi x1], [], h) = some (some (vi 1), h) := (ev_rc [6, 17, 20, 33, 48, 63] 120 _).trans rfl
set_option maxRecDepth 100000 in
set_option maxHeartbeats 400000 in
/-- IllLightModel.isCell(I)Z -/
theorem E_X9_isCell (h : PH) (a : Int32) : pm_ev (186, 0, [vr 8 0, vi a], [], h) = (pm_bI (pm_ev (153, 0, [vi a, vi 0, vi (((h.1 8 0 14) * (h.1 8 0 15)) - 1)], [], h)) fun r2 h1 => (if r2 &&& 1 = r2 then some (some (vi r2), h1) else none)) := (ev_rc [] 120 _).trans rfl
set_option maxRecDepth 100000 in
set_option maxHeartbeats 400000 in
/-- IllLightModel.isShip(I)Z -/
theorem E_X9_isShip (h : PH) (a : Int32) : pm_ev (187, 0, [vr 8 0, vi a], [], h) = (pm_bI (pm_ev (153, 0, [vi a, vi 0, vi ((h.1 8 0 16) - 1)], [], h)) fun r2 h1 => (if r2 &&& 1 = r2 then some (some (vi r2), h1) else none)) := (ev_rc [] 120 _).trans rfl
set_option maxRecDepth 100000 in
set_option maxHeartbeats 400000 in
/-- IllLightModel.of(II)I -/
theorem E_X9_of (h : PH) (a : Int32) (b : Int32) : pm_ev (188, 0, [vr 8 0, vi a, vi b], [], h) = (if pm_inb ((((h.1 8 0 13) + 14) + (4 * a)) + b) 5104 = true then some (some (vi (h.1 33 0 (((((h.1 8 0 13) + 14) + (4 * a)) + b).toNatClampNeg))), h) else none) := (ev_rc [] 120 _).trans rfl
set_option maxRecDepth 100000 in
set_option maxHeartbeats 400000 in
/-- IllLightModel.coast(II)I -/
theorem E_X9_coast (h : PH) (a : Int32) (b : Int32) : pm_ev (189, 0, [vr 8 0, vi a, vi b, none], [], h) = (pm_bI (pm_ev (185, 0, [vr 8 0, vi a], [], h)) fun r2 h1 => (if r2 = 0 then some (some (vi (-1)), h1) else (pm_bI (pm_ev (153, 0, [vi b, vi 0, vi 5], [], h1)) fun r4 h3 => (if r4 = 0 then (pm_bI (pm_ev (153, 0, [vi b, vi 100, vi (99 + ((h3.1 8 0 14) * (h3.1 8 0 15)))], [], h3)) fun r6 h5 => (if r6 = 0 then (pm_bI (pm_ev (153, 0, [vi b, vi 10, vi 29], [], h5)) fun r8 h7 => pm_ev (189, 83, [vr 8 0, none, vi b, vi (b - b / 10 * 10)], [vi r8], h7)) else (if pm_inb ((((h5.1 8 0 13) + 78) + b) - 100) 5104 = true then some (some (vi (h5.1 33 0 (((((h5.1 8 0 13) + 78) + b) - 100).toNatClampNeg))), h5) else none))) else (if pm_inb ((h3.1 8 0 13) + b) 5104 = true then some (some (vi (h3.1 33 0 (((h3.1 8 0 13) + b).toNatClampNeg))), h3) else none))))) := (ev_rc [83, 123] 120 _).trans rfl
set_option maxRecDepth 100000 in
set_option maxHeartbeats 400000 in
/-- IllLightModel.coast(II)I -/
theorem E_X9_coast_83 (h : PH) (x2 : Int32) (x3 : Int32) (s0 : Int32) : pm_ev (189, 83, [vr 8 0, none, vi x2, vi x3], [vi s0], h) = (if s0 = 0 then (pm_bI (pm_ev (153, 0, [vi x2, vi 30, vi 69], [], h)) fun r10 h9 => (if r10 = 0 then some (some (vi (-1)), h9) else (pm_bI (pm_ev (187, 0, [vr 8 0, vi x3], [], h9)) fun r12 h11 => (if r12 = 0 then some (some (vi (-1)), h11) else (pm_bI (pm_ev (188, 0, [vr 8 0, vi x3, vi ((x2 / 10) - 3)], [], h11)) fun r14 h13 => some (some (vi r14), h13)))))) else (if pm_inb ((h.1 8 0 13) + 4) 5104 = true then (if x3 < h.1 33 0 (((h.1 8 0 13) + 4).toNatClampNeg) then pm_ev (189, 123, [vr 8 0, none, vi x2, vi x3], [vi (((((h.1 8 0 13) + 6) + (2 * x3)) + (x2 / 10)) - 1), vr 33 0], h) else some (some (vi (-1)), h)) else none)) := (ev_rc [83, 123] 120 _).trans rfl
set_option maxRecDepth 100000 in
set_option maxHeartbeats 400000 in
/-- IllLightModel.coast(II)I -/
theorem E_X9_coast_123 (h : PH) (x2 : Int32) (x3 : Int32) (s0 : Int32) (s1 : Nat) : pm_ev (189, 123, [vr 8 0, none, vi x2, vi x3], [vi s0, vr 33 s1], h) = (if pm_inb s0 5104 = true then some (some (vi (h.1 33 s1 s0.toNatClampNeg)), h) else none) := (ev_rc [83, 123] 120 _).trans rfl
set_option maxRecDepth 100000 in
set_option maxHeartbeats 400000 in
/-- IllLightModel.man(IIII)I -/
theorem E_X9_man (h : PH) (a : Int32) (b : Int32) (c : Int32) (d : Int32) : pm_ev (190, 0, [vr 8 0, vi a, vi b, vi c, vi d], [], h) = (pm_bI (pm_ev (185, 0, [vr 8 0, vi a], [], h)) fun r2 h1 => (if r2 = 0 then some (some (vi (-1)), h1) else (pm_bI (pm_ev (187, 0, [vr 8 0, vi b], [], h1)) fun r4 h3 => (if r4 = 0 then some (some (vi (-1)), h3) else (pm_bI (pm_ev (188, 0, [vr 8 0, vi b, vi 3], [], h3)) fun r6 h5 => (pm_bI (pm_ev (153, 0, [vi c, vi 0, vi (r6 - 1)], [], h5)) fun r8 h7 => pm_ev (190, 29, [vr 8 0, vi a, vi b, vi c, vi d], [vi r8], h7))))))) := (ev_rc [29] 120 _).trans rfl
set_option maxRecDepth 100000 in
set_option maxHeartbeats 400000 in
/-- IllLightModel.man(IIII)I -/
theorem E_X9_man_29 (h : PH) (x1 : Int32) (x2 : Int32) (x3 : Int32) (x4 : Int32) (s0 : Int32) : pm_ev (190, 29, [vr 8 0, vi x1, vi x2, vi x3, vi x4], [vi s0], h) = (if s0 = 0 then some (some (vi (-1)), h) else (pm_bI (pm_ev (153, 0, [vi x4, vi 0, vi 2], [], h)) fun r10 h9 => (if r10 = 0 then some (some (vi (-1)), h9) else (if pm_inb (((((h9.1 8 0 13) + 30) + (12 * x2)) + (3 * x3)) + x4) 5104 = true then some (some (vi (h9.1 33 0 ((((((h9.1 8 0 13) + 30) + (12 * x2)) + (3 * x3)) + x4).toNatClampNeg))), h9) else none)))) := (ev_rc [29] 120 _).trans rfl
set_option maxRecDepth 100000 in
set_option maxHeartbeats 400000 in
/-- IllLightModel.asTold()V -/
theorem E_X9_asTold (h : PH)  : pm_ev (191, 0, [vr 8 0, none], [], h) = pm_ev (191, 2, [vr 8 0, vi 0], [], h) := (ev_rc [2, 28, 36, 53] 120 _).trans rfl
set_option maxRecDepth 100000 in
set_option maxHeartbeats 400000 in
/-- IllLightModel.asTold()V -/
theorem E_X9_asTold_2 (h : PH) (x1 : Int32) : pm_ev (191, 2, [vr 8 0, vi x1], [], h) = (if x1 < 48 then (if pm_inb (((h.1 8 0 13) + 30) + x1) 5104 = true then (if pm_inb x1 48 = true then pm_ev (191, 28, [vr 8 0, vi x1], [], (pm_sI h 36 0 x1.toNatClampNeg (h.1 33 0 ((((h.1 8 0 13) + 30) + x1).toNatClampNeg)))) else none) else none) else pm_ev (191, 36, [vr 8 0, vi 0], [], h)) := (ev_rc [2, 28, 36, 53] 120 _).trans rfl
set_option maxRecDepth 100000 in
set_option maxHeartbeats 400000 in
/-- IllLightModel.asTold()V -/
theorem E_X9_asTold_28 (h : PH) (x1 : Int32) : pm_ev (191, 28, [vr 8 0, vi x1], [], h) = pm_ev (191, 2, [vr 8 0, vi (x1 + 1)], [], h) := (ev_rc [2, 28, 36, 53] 120 _).trans rfl
set_option maxRecDepth 100000 in
set_option maxHeartbeats 400000 in
/-- IllLightModel.asTold()V -/
theorem E_X9_asTold_36 (h : PH) (x1 : Int32) : pm_ev (191, 36, [vr 8 0, vi x1], [], h) = (if x1 < 4 then (pm_bI (pm_ev (188, 0, [vr 8 0, vi x1, vi 1], [], h)) fun r2 h1 => (if pm_inb x1 4 = true then pm_ev (191, 53, [vr 8 0, vi x1], [], (pm_sI h1 37 0 x1.toNatClampNeg r2)) else none)) else some (none, (pm_sI h 8 0 19 15))) := (ev_rc [2, 28, 36, 53] 120 _).trans rfl
set_option maxRecDepth 100000 in
set_option maxHeartbeats 400000 in
/-- IllLightModel.asTold()V -/
theorem E_X9_asTold_53 (h : PH) (x1 : Int32) : pm_ev (191, 53, [vr 8 0, vi x1], [], h) = pm_ev (191, 36, [vr 8 0, vi (x1 + 1)], [], h) := (ev_rc [2, 28, 36, 53] 120 _).trans rfl
set_option maxRecDepth 100000 in
set_option maxHeartbeats 400000 in
/-- IllLightModel.meansAlone(II)I -/
theorem E_X9_meansAlone (h : PH) (a : Int32) (b : Int32) : pm_ev (192, 0, [vr 8 0, vi a, vi b, none], [], h) = (if pm_inb (a + 1) 48 = true then (if pm_inb a 48 = true then (if h.1 36 0 a.toNatClampNeg = 0 then some (some (vi (h.1 36 0 ((a + 1).toNatClampNeg))), h) else (if h.1 36 0 a.toNatClampNeg = 1 then some (some (vi 0), h) else (if h.1 36 0 a.toNatClampNeg = 2 then (if pm_inb (a + 2) 48 = true then (if b < h.1 36 0 ((a + 2).toNatClampNeg) then some (some (vi (h.1 36 0 ((a + 1).toNatClampNeg))), h) else some (some (vi 0), h)) else none) else (if h.1 36 0 a.toNatClampNeg = 3 then (if b - b / 2 * 2 = 0 then some (some (vi (h.1 36 0 ((a + 1).toNatClampNeg))), h) else some (some (vi 0), h)) else (if h.1 36 0 a.toNatClampNeg = 4 then some (some (vi 0), h) else (if h.1 36 0 a.toNatClampNeg = 5 then pm_ev (192, 89, [vr 8 0, none, none, vi (h.1 36 0 ((a + 1).toNatClampNeg))], [vi (h.1 36 0 ((a + 1).toNatClampNeg)), vr 37 0], h) else some (some (vi 0), h))))))) else none) else none) := (ev_rc [89] 120 _).trans rfl
set_option maxRecDepth 100000 in
set_option maxHeartbeats 400000 in
/-- IllLightModel.meansAlone(II)I -/
theorem E_X9_meansAlone_89 (h : PH) (x3 : Int32) (s0 : Int32) (s1 : Nat) : pm_ev (192, 89, [vr 8 0, none, none, vi x3], [vi s0, vr 37 s1], h) = (if pm_inb s0 4 = true then some (some (vi (h.1 37 s1 s0.toNatClampNeg)), h) else none) := (ev_rc [89] 120 _).trans rfl
set_option maxRecDepth 100000 in
set_option maxHeartbeats 400000 in
/-- IllLightModel.means(III)I -/
theorem E_X9_means (h : PH) (a : Int32) (b : Int32) (c : Int32) : pm_ev (193, 0, [vr 8 0, vi a, vi b, vi c, none], [], h) = (if pm_inb ((12 * a) + (3 * b)) 48 = true then (if h.1 36 0 (((12 * a) + (3 * b)).toNatClampNeg) = 1 then (if b = 0 then some (some (vi 0), h) else (if (h.1 8 0 19) &&& 1 = 0 then some (some (vi 0), h) else (pm_bI (pm_ev (192, 0, [vr 8 0, vi (12 * a), vi c, none], [], h)) fun r2 h1 => some (some (vi r2), h1)))) else (pm_bI (pm_ev (192, 0, [vr 8 0, vi ((12 * a) + (3 * b)), vi c, none], [], h)) fun r4 h3 => some (some (vi r4), h3))) else none) := (ev_rc [] 120 _).trans rfl
set_option maxRecDepth 100000 in
set_option maxHeartbeats 400000 in
/-- IllLightModel.harmOf(II)I -/
theorem E_X9_harmOf (h : PH) (a : Int32) (b : Int32) : pm_ev (194, 0, [vr 8 0, vi a, vi b, none, none], [], h) = (if pm_inb a 4 = true then (pm_bI (pm_ev (188, 0, [vr 8 0, vi a, vi 2], [], h)) fun r2 h1 => pm_ev (194, 19, [vr 8 0, vi a, vi b, vi ((h.1 37 0 a.toNatClampNeg) - (2 * r2)), vi 0], [], h1)) else none) := (ev_rc [19] 120 _).trans rfl
set_option maxRecDepth 100000 in
set_option maxHeartbeats 400000 in
/-- IllLightModel.harmOf(II)I -/
theorem E_X9_harmOf_19 (h : PH) (x1 : Int32) (x2 : Int32) (x3 : Int32) (x4 : Int32) : pm_ev (194, 19, [vr 8 0, vi x1, vi x2, vi x3, vi x4], [], h) = (pm_bI (pm_ev (188, 0, [vr 8 0, vi x1, vi 3], [], h)) fun r4 h3 => (if x4 < r4 then (if ((h3.1 8 0 19) >>> (x4 &&& 31)) &&& 1 = 1 then (pm_bI (pm_ev (193, 0, [vr 8 0, vi x1, vi x4, vi x2, none], [], h3)) fun r6 h5 => pm_ev (194, 19, [vr 8 0, vi x1, vi x2, vi (x3 + r6), vi (x4 + 1)], [], h5)) else pm_ev (194, 19, [vr 8 0, vi x1, vi x2, vi (x3 + 0), vi (x4 + 1)], [], h3)) else (if (0 : Int32) < x3 then some (some (vi x3), h3) else some (some (vi 0), h3)))) := (ev_rc [19] 120 _).trans rfl
set_option maxRecDepth 100000 in
set_option maxHeartbeats 400000 in
/-- IllLightModel.lightOf(II)I -/
theorem E_X9_lightOf (h : PH) (a : Int32) (b : Int32) : pm_ev (195, 0, [vr 8 0, vi a, vi b, none, none], [], h) = (pm_bI (pm_ev (194, 0, [vr 8 0, vi a, vi b, none, none], [], h)) fun r2 h1 => (if pm_inb ((h1.1 8 0 13) + 3) 5104 = true then (if r2 < h1.1 33 0 (((h1.1 8 0 13) + 3).toNatClampNeg) then some (some (vi 0), h1) else pm_ev (195, 27, [vr 8 0, vi a, vi b, vi 0, vi 0], [], h1)) else none)) := (ev_rc [27, 84, 88] 120 _).trans rfl
set_option maxRecDepth 100000 in
set_option maxHeartbeats 400000 in
/-- IllLightModel.lightOf(II)I -/
theorem E_X9_lightOf_27 (h : PH) (x1 : Int32) (x2 : Int32) (x3 : Int32) (x4 : Int32) : pm_ev (195, 27, [vr 8 0, vi x1, vi x2, vi x3, vi x4], [], h) = (pm_bI (pm_ev (188, 0, [vr 8 0, vi x1, vi 3], [], h)) fun r4 h3 => (if x4 < r4 then (if x3 = 0 then (if ((h3.1 8 0 19) >>> (x4 &&& 31)) &&& 1 = 1 then (if pm_inb ((12 * x1) + (3 * x4)) 48 = true then (if h3.1 36 0 (((12 * x1) + (3 * x4)).toNatClampNeg) = 4 then pm_ev (195, 88, [vr 8 0, vi x1, vi x2, none, vi x4], [], h3) else (pm_bI (pm_ev (193, 0, [vr 8 0, vi x1, vi x4, vi x2, none], [], h3)) fun r6 h5 => (if r6 = 0 then pm_ev (195, 84, [vr 8 0, vi x1, vi x2, none, vi x4], [], h5) else pm_ev (195, 88, [vr 8 0, vi x1, vi x2, none, vi x4], [], h5)))) else none) else pm_ev (195, 88, [vr 8 0, vi x1, vi x2, none, vi x4], [], h3)) else pm_ev (195, 84, [vr 8 0, vi x1, vi x2, none, vi x4], [], h3)) else (if x3 = 0 then some (some (vi 2), h3) else some (some (vi 1), h3)))) := (ev_rc [27, 84, 88] 120 _).trans rfl
set_option maxRecDepth 100000 in
set_option maxHeartbeats 400000 in
/-- IllLightModel.lightOf(II)I -/
theorem E_X9_lightOf_88 (h : PH) (x1 : Int32) (x2 : Int32) (x4 : Int32) : pm_ev (195, 88, [vr 8 0, vi x1, vi x2, none, vi x4], [], h) = pm_ev (195, 27, [vr 8 0, vi x1, vi x2, vi 0, vi (x4 + 1)], [], h) := (ev_rc [27, 84, 88] 120 _).trans rfl
set_option maxRecDepth 100000 in
set_option maxHeartbeats 400000 in
/-- IllLightModel.lightOf(II)I -/
theorem E_X9_lightOf_84 (h : PH) (x1 : Int32) (x2 : Int32) (x4 : Int32) : pm_ev (195, 84, [vr 8 0, vi x1, vi x2, none, vi x4], [], h) = pm_ev (195, 27, [vr 8 0, vi x1, vi x2, vi 1, vi (x4 + 1)], [], h) := (ev_rc [27, 84, 88] 120 _).trans rfl
set_option maxRecDepth 100000 in
set_option maxHeartbeats 400000 in
/-- IllLightModel.isLit(II)Z -/
theorem E_X9_isLit (h : PH) (a : Int32) (b : Int32) : pm_ev (196, 0, [vr 8 0, vi a, vi b, none], [], h) = (pm_bI (pm_ev (195, 0, [vr 8 0, vi a, vi b, none, none], [], h)) fun r2 h1 => (if r2 = 2 then some (some (vi 1), h1) else (if r2 = 1 then (if b - b / 2 * 2 = 0 then some (some (vi 1), h1) else some (some (vi 0), h1)) else some (some (vi 0), h1)))) := (ev_rc [] 120 _).trans rfl
set_option maxRecDepth 100000 in
set_option maxHeartbeats 400000 in
/-- IllLightModel.light(IIII)I -/
theorem E_X9_light (h : PH) (a : Int32) (b : Int32) (c : Int32) (d : Int32) : pm_ev (197, 0, [vr 8 0, vi a, vi b, vi c, vi d], [], h) = (pm_bI (pm_ev (185, 0, [vr 8 0, vi a], [], h)) fun r2 h1 => (if r2 = 0 then some (some (vi (-1)), h1) else (pm_bI (pm_ev (187, 0, [vr 8 0, vi b], [], h1)) fun r4 h3 => (if r4 = 0 then some (some (vi (-1)), h3) else (pm_bI (pm_ev (153, 0, [vi c, vi 0, vi 23], [], h3)) fun r6 h5 => (if r6 = 0 then some (some (vi (-1)), h5) else (pm_bV (pm_ev (191, 0, [vr 8 0, none], [], h5)) fun h7 => pm_ev (197, 32, [vr 8 0, none, vi b, vi c, vi d], [], h7)))))))) := (ev_rc [32] 120 _).trans rfl
set_option maxRecDepth 100000 in
set_option maxHeartbeats 400000 in
/-- IllLightModel.light(IIII)I -/
theorem E_X9_light_32 (h : PH) (x2 : Int32) (x3 : Int32) (x4 : Int32) : pm_ev (197, 32, [vr 8 0, none, vi x2, vi x3, vi x4], [], h) = (pm_bI (pm_ev (188, 0, [vr 8 0, vi x2, vi 3], [], h)) fun r9 h8 => (pm_bI (pm_ev (153, 0, [vi x4, vi 10, vi (9 + r9)], [], h8)) fun r11 h10 => (if r11 = 0 then (if x4 = 0 then (pm_bI (pm_ev (194, 0, [vr 8 0, vi x2, vi x3, none, none], [], h10)) fun r13 h12 => some (some (vi r13), h12)) else (if x4 = 1 then (pm_bI (pm_ev (195, 0, [vr 8 0, vi x2, vi x3, none, none], [], h10)) fun r15 h14 => some (some (vi r15), h14)) else (if x4 = 2 then (pm_bI (pm_ev (196, 0, [vr 8 0, vi x2, vi x3, none], [], h10)) fun r17 h16 => (if r17 = 0 then some (some (vi 0), h16) else some (some (vi 1), h16))) else some (some (vi (-1)), h10)))) else (pm_bI (pm_ev (193, 0, [vr 8 0, vi x2, vi (x4 - 10), vi x3, none], [], h10)) fun r19 h18 => some (some (vi r19), h18))))) := (ev_rc [32] 120 _).trans rfl
set_option maxRecDepth 100000 in
set_option maxHeartbeats 400000 in
/-- IllLightModel.isNight(I)Z -/
theorem E_X9_isNight (h : PH) (a : Int32) : pm_ev (198, 0, [vr 8 0, vi a], [], h) = (pm_bI (pm_ev (180, 0, [vr 8 0, vi 1, vi a], [], h)) fun r2 h1 => (if r2 = 0 then some (some (vi 0), h1) else (pm_bI (pm_ev (178, 0, [vi 1, vi a], [], h1)) fun r4 h3 => some (some (vi 1), (pm_sI h3 8 0 20 r4))))) := (ev_rc [] 120 _).trans rfl
set_option maxRecDepth 100000 in
set_option maxHeartbeats 400000 in
/-- IllLightModel.deed(III)I -/
theorem E_X9_deed (h : PH) (a : Int32) (b : Int32) (c : Int32) : pm_ev (199, 0, [vr 8 0, vi a, vi b, vi c], [], h) = (pm_bI (pm_ev (198, 0, [vr 8 0, vi a], [], h)) fun r2 h1 => (if r2 = 0 then some (some (vi (-2)), h1) else (if b = (-1) then (if c = 0 then (if pm_inb (h1.1 8 0 20) 5104 = true then some (some (vi (h1.1 33 0 ((h1.1 8 0 20).toNatClampNeg))), h1) else none) else some (some (vi (-2)), h1)) else (if pm_inb (h1.1 8 0 20) 5104 = true then (pm_bI (pm_ev (153, 0, [vi b, vi 0, vi ((h1.1 33 0 ((h1.1 8 0 20).toNatClampNeg)) - 1)], [], h1)) fun r4 h3 => (if r4 = 0 then some (some (vi (-2)), h3) else (pm_bI (pm_ev (153, 0, [vi c, vi 0, vi 3], [], h3)) fun r6 h5 => (if r6 = 0 then some (some (vi (-2)), h5) else (if pm_inb ((((h5.1 8 0 20) + 1) + (4 * b)) + c) 5104 = true then some (some (vi (h5.1 33 0 (((((h5.1 8 0 20) + 1) + (4 * b)) + c).toNatClampNeg))), h5) else none))))) else none)))) := (ev_rc [] 120 _).trans rfl
set_option maxRecDepth 100000 in
set_option maxHeartbeats 400000 in
/-- IllLightModel.begins()V -/
theorem E_X9_begins (h : PH)  : pm_ev (200, 0, [vr 8 0, none], [], h) = (pm_bV (pm_ev (191, 0, [vr 8 0, none], [], h)) fun h1 => pm_ev (200, 6, [vr 8 0, vi 0], [], h1)) := (ev_rc [6, 23] 120 _).trans rfl
set_option maxRecDepth 100000 in
set_option maxHeartbeats 400000 in
/-- IllLightModel.begins()V -/
theorem E_X9_begins_6 (h : PH) (x1 : Int32) : pm_ev (200, 6, [vr 8 0, vi x1], [], h) = (if x1 < 4 then (pm_bI (pm_ev (188, 0, [vr 8 0, vi x1, vi 0], [], h)) fun r3 h2 => (if pm_inb x1 4 = true then pm_ev (200, 23, [vr 8 0, vi x1], [], (pm_sI h2 38 0 x1.toNatClampNeg r3)) else none)) else some (none, (pm_sI (pm_sI (pm_sI (pm_sI (pm_sI h 8 0 22 0) 8 0 23 0) 8 0 24 0) 8 0 25 0) 8 0 26 0))) := (ev_rc [6, 23] 120 _).trans rfl
set_option maxRecDepth 100000 in
set_option maxHeartbeats 400000 in
/-- IllLightModel.begins()V -/
theorem E_X9_begins_23 (h : PH) (x1 : Int32) : pm_ev (200, 23, [vr 8 0, vi x1], [], h) = pm_ev (200, 6, [vr 8 0, vi (x1 + 1)], [], h) := (ev_rc [6, 23] 120 _).trans rfl
set_option maxRecDepth 100000 in
set_option maxHeartbeats 400000 in
/-- IllLightModel.isLost(I)Z -/
theorem E_X9_isLost (h : PH) (a : Int32) : pm_ev (201, 0, [vr 8 0, vi a], [], h) = (if (((h.1 8 0 23) ||| (h.1 8 0 24)) >>> (a &&& 31)) &&& 1 = 1 then some (some (vi 1), h) else some (some (vi 0), h)) := (ev_rc [] 120 _).trans rfl
set_option maxRecDepth 100000 in
set_option maxHeartbeats 400000 in
/-- IllLightModel.stepTo(II)I -/
theorem E_X9_stepTo (h : PH) (a : Int32) (b : Int32) : pm_ev (202, 0, [vr 8 0, vi a, vi b, none, none], [], h) = (if h.1 8 0 14 = 0 then none else (if b = 1 then (if h.1 8 0 14 = 0 then none else (if b = 2 then (pm_bI (pm_ev (153, 0, [vi ((a - a / (h.1 8 0 14) * (h.1 8 0 14)) + 1), vi 0, vi ((h.1 8 0 14) - 1)], [], h)) fun r2 h1 => (if r2 = 0 then pm_ev (202, 95, [none, none, none, none, none], [], h1) else pm_ev (202, 68, [vr 8 0, none, none, vi ((a - a / (h.1 8 0 14) * (h.1 8 0 14)) + 1), vi ((a / (h.1 8 0 14)) + 1)], [], h1))) else (if b = 0 then (pm_bI (pm_ev (153, 0, [vi ((a - a / (h.1 8 0 14) * (h.1 8 0 14)) + 1), vi 0, vi ((h.1 8 0 14) - 1)], [], h)) fun r4 h3 => (if r4 = 0 then pm_ev (202, 95, [none, none, none, none, none], [], h3) else pm_ev (202, 68, [vr 8 0, none, none, vi ((a - a / (h.1 8 0 14) * (h.1 8 0 14)) + 1), vi ((a / (h.1 8 0 14)) + (-1))], [], h3))) else (pm_bI (pm_ev (153, 0, [vi ((a - a / (h.1 8 0 14) * (h.1 8 0 14)) + 1), vi 0, vi ((h.1 8 0 14) - 1)], [], h)) fun r6 h5 => (if r6 = 0 then pm_ev (202, 95, [none, none, none, none, none], [], h5) else pm_ev (202, 68, [vr 8 0, none, none, vi ((a - a / (h.1 8 0 14) * (h.1 8 0 14)) + 1), vi ((a / (h.1 8 0 14)) + 0)], [], h5)))))) else (if b = 3 then (if h.1 8 0 14 = 0 then none else (if b = 2 then (pm_bI (pm_ev (153, 0, [vi ((a - a / (h.1 8 0 14) * (h.1 8 0 14)) + (-1)), vi 0, vi ((h.1 8 0 14) - 1)], [], h)) fun r8 h7 => (if r8 = 0 then pm_ev (202, 95, [none, none, none, none, none], [], h7) else pm_ev (202, 68, [vr 8 0, none, none, vi ((a - a / (h.1 8 0 14) * (h.1 8 0 14)) + (-1)), vi ((a / (h.1 8 0 14)) + 1)], [], h7))) else (if b = 0 then (pm_bI (pm_ev (153, 0, [vi ((a - a / (h.1 8 0 14) * (h.1 8 0 14)) + (-1)), vi 0, vi ((h.1 8 0 14) - 1)], [], h)) fun r10 h9 => (if r10 = 0 then pm_ev (202, 95, [none, none, none, none, none], [], h9) else pm_ev (202, 68, [vr 8 0, none, none, vi ((a - a / (h.1 8 0 14) * (h.1 8 0 14)) + (-1)), vi ((a / (h.1 8 0 14)) + (-1))], [], h9))) else (pm_bI (pm_ev (153, 0, [vi ((a - a / (h.1 8 0 14) * (h.1 8 0 14)) + (-1)), vi 0, vi ((h.1 8 0 14) - 1)], [], h)) fun r12 h11 => (if r12 = 0 then pm_ev (202, 95, [none, none, none, none, none], [], h11) else pm_ev (202, 68, [vr 8 0, none, none, vi ((a - a / (h.1 8 0 14) * (h.1 8 0 14)) + (-1)), vi ((a / (h.1 8 0 14)) + 0)], [], h11)))))) else (if h.1 8 0 14 = 0 then none else (if b = 2 then (pm_bI (pm_ev (153, 0, [vi ((a - a / (h.1 8 0 14) * (h.1 8 0 14)) + 0), vi 0, vi ((h.1 8 0 14) - 1)], [], h)) fun r14 h13 => (if r14 = 0 then pm_ev (202, 95, [none, none, none, none, none], [], h13) else pm_ev (202, 68, [vr 8 0, none, none, vi ((a - a / (h.1 8 0 14) * (h.1 8 0 14)) + 0), vi ((a / (h.1 8 0 14)) + 1)], [], h13))) else (if b = 0 then (pm_bI (pm_ev (153, 0, [vi ((a - a / (h.1 8 0 14) * (h.1 8 0 14)) + 0), vi 0, vi ((h.1 8 0 14) - 1)], [], h)) fun r16 h15 => (if r16 = 0 then pm_ev (202, 95, [none, none, none, none, none], [], h15) else pm_ev (202, 68, [vr 8 0, none, none, vi ((a - a / (h.1 8 0 14) * (h.1 8 0 14)) + 0), vi ((a / (h.1 8 0 14)) + (-1))], [], h15))) else (pm_bI (pm_ev (153, 0, [vi ((a - a / (h.1 8 0 14) * (h.1 8 0 14)) + 0), vi 0, vi ((h.1 8 0 14) - 1)], [], h)) fun r18 h17 => (if r18 = 0 then pm_ev (202, 95, [none, none, none, none, none], [], h17) else pm_ev (202, 68, [vr 8 0, none, none, vi ((a - a / (h.1 8 0 14) * (h.1 8 0 14)) + 0), vi ((a / (h.1 8 0 14)) + 0)], [], h17))))))))) := (ev_rc [68, 83, 95] 120 _).trans rfl
set_option maxRecDepth 100000 in
set_option maxHeartbeats 400000 in
/-- IllLightModel.stepTo(II)I -/
theorem E_X9_stepTo_95 (h : PH)  : pm_ev (202, 95, [none, none, none, none, none], [], h) = some (some (vi (-1)), h) := (ev_rc [68, 83, 95] 120 _).trans rfl
set_option maxRecDepth 100000 in
set_option maxHeartbeats 400000 in
/-- IllLightModel.stepTo(II)I -/
theorem E_X9_stepTo_68 (h : PH) (x3 : Int32) (x4 : Int32) : pm_ev (202, 68, [vr 8 0, none, none, vi x3, vi x4], [], h) = (pm_bI (pm_ev (153, 0, [vi x4, vi 0, vi ((h.1 8 0 15) - 1)], [], h)) fun r20 h19 => (if r20 = 0 then pm_ev (202, 95, [none, none, none, none, none], [], h19) else pm_ev (202, 83, [vr 8 0, none, none, vi x3, vi x4], [], h19))) := (ev_rc [68, 83, 95] 120 _).trans rfl
set_option maxRecDepth 100000 in
set_option maxHeartbeats 400000 in
/-- IllLightModel.stepTo(II)I -/
theorem E_X9_stepTo_83 (h : PH) (x3 : Int32) (x4 : Int32) : pm_ev (202, 83, [vr 8 0, none, none, vi x3, vi x4], [], h) = some (some (vi (((h.1 8 0 14) * x4) + x3)), h) := (ev_rc [68, 83, 95] 120 _).trans rfl
set_option maxRecDepth 100000 in
set_option maxHeartbeats 400000 in
/-- IllLightModel.far(II)I -/
theorem E_X9_far (h : PH) (a : Int32) (b : Int32) : pm_ev (203, 0, [vi a, vi b], [], h) = (if b < a then some (some (vi (a - b)), h) else some (some (vi (b - a)), h)) := (ev_rc [] 120 _).trans rfl
set_option maxRecDepth 100000 in
set_option maxHeartbeats 400000 in
/-- IllLightModel.apart(II)I -/
theorem E_X9_apart (h : PH) (a : Int32) (b : Int32) : pm_ev (204, 0, [vr 8 0, vi a, vi b], [], h) = (if h.1 8 0 14 = 0 then none else (if h.1 8 0 14 = 0 then none else (pm_bI (pm_ev (203, 0, [vi (a - a / (h.1 8 0 14) * (h.1 8 0 14)), vi (b - b / (h.1 8 0 14) * (h.1 8 0 14))], [], h)) fun r2 h1 => (if h1.1 8 0 14 = 0 then none else (if h1.1 8 0 14 = 0 then none else (pm_bI (pm_ev (203, 0, [vi (a / (h1.1 8 0 14)), vi (b / (h1.1 8 0 14))], [], h1)) fun r4 h3 => some (some (vi (r2 + r4)), h3))))))) := (ev_rc [] 120 _).trans rfl
set_option maxRecDepth 100000 in
set_option maxHeartbeats 400000 in
/-- IllLightModel.side(I)I -/
theorem E_X9_side (h : PH) (a : Int32) : pm_ev (205, 0, [vi a], [], h) = (if (0 : Int32) < a then some (some (vi 1), h) else (if a < 0 then some (some (vi (-1)), h) else some (some (vi 0), h))) := (ev_rc [] 120 _).trans rfl
set_option maxRecDepth 100000 in
set_option maxHeartbeats 400000 in
/-- IllLightModel.isBetween(II)Z -/
theorem E_X9_isBetween (h : PH) (a : Int32) (b : Int32) : pm_ev (206, 0, [vr 8 0, vi a, vi b, none, none, none, none, none], [], h) = (if pm_inb ((h.1 8 0 13) + 2) 5104 = true then (if h.1 8 0 14 = 0 then none else (if h.1 8 0 14 = 0 then none else (if h.1 8 0 14 = 0 then none else (if h.1 8 0 14 = 0 then none else (if h.1 8 0 14 = 0 then none else (if h.1 8 0 14 = 0 then none else pm_ev (206, 57, [vr 8 0, vi a, vi b, vi (h.1 33 0 (((h.1 8 0 13) + 2).toNatClampNeg)), vi ((b - b / (h.1 8 0 14) * (h.1 8 0 14)) - ((h.1 33 0 (((h.1 8 0 13) + 2).toNatClampNeg)) - (h.1 33 0 (((h.1 8 0 13) + 2).toNatClampNeg)) / (h.1 8 0 14) * (h.1 8 0 14))), vi ((b / (h.1 8 0 14)) - ((h.1 33 0 (((h.1 8 0 13) + 2).toNatClampNeg)) / (h.1 8 0 14))), vi ((a - a / (h.1 8 0 14) * (h.1 8 0 14)) - ((h.1 33 0 (((h.1 8 0 13) + 2).toNatClampNeg)) - (h.1 33 0 (((h.1 8 0 13) + 2).toNatClampNeg)) / (h.1 8 0 14) * (h.1 8 0 14))), none], [], h))))))) else none) := (ev_rc [57, 105] 120 _).trans rfl
set_option maxRecDepth 100000 in
set_option maxHeartbeats 400000 in
/-- IllLightModel.isBetween(II)Z -/
theorem E_X9_isBetween_57 (h : PH) (x1 : Int32) (x2 : Int32) (x3 : Int32) (x4 : Int32) (x5 : Int32) (x6 : Int32) : pm_ev (206, 57, [vr 8 0, vi x1, vi x2, vi x3, vi x4, vi x5, vi x6, none], [], h) = (if h.1 8 0 14 = 0 then none else (if h.1 8 0 14 = 0 then none else (if x4 = 0 then (pm_bI (pm_ev (205, 0, [vi x4], [], h)) fun r2 h1 => (pm_bI (pm_ev (205, 0, [vi x6], [], h1)) fun r4 h3 => (if r2 = r4 then (pm_bI (pm_ev (205, 0, [vi x5], [], h3)) fun r6 h5 => (pm_bI (pm_ev (205, 0, [vi ((x1 / (h.1 8 0 14)) - (x3 / (h.1 8 0 14)))], [], h5)) fun r8 h7 => pm_ev (206, 105, [vr 8 0, vi x1, vi x2, vi x3, vi x4, vi x5, vi x6, vi ((x1 / (h.1 8 0 14)) - (x3 / (h.1 8 0 14)))], [vi r8, vi r6], h7))) else some (some (vi 0), h3)))) else (if x5 = 0 then (pm_bI (pm_ev (205, 0, [vi x4], [], h)) fun r10 h9 => (pm_bI (pm_ev (205, 0, [vi x6], [], h9)) fun r12 h11 => (if r10 = r12 then (pm_bI (pm_ev (205, 0, [vi x5], [], h11)) fun r14 h13 => (pm_bI (pm_ev (205, 0, [vi ((x1 / (h.1 8 0 14)) - (x3 / (h.1 8 0 14)))], [], h13)) fun r16 h15 => pm_ev (206, 105, [vr 8 0, vi x1, vi x2, vi x3, vi x4, vi x5, vi x6, vi ((x1 / (h.1 8 0 14)) - (x3 / (h.1 8 0 14)))], [vi r16, vi r14], h15))) else some (some (vi 0), h11)))) else some (some (vi 0), h))))) := (ev_rc [57, 105] 120 _).trans rfl
set_option maxRecDepth 100000 in
set_option maxHeartbeats 400000 in
/-- IllLightModel.isBetween(II)Z -/
theorem E_X9_isBetween_105 (h : PH) (x1 : Int32) (x2 : Int32) (x3 : Int32) (x4 : Int32) (x5 : Int32) (x6 : Int32) (x7 : Int32) (s0 : Int32) (s1 : Int32) : pm_ev (206, 105, [vr 8 0, vi x1, vi x2, vi x3, vi x4, vi x5, vi x6, vi x7], [vi s0, vi s1], h) = (if s1 = s0 then (pm_bI (pm_ev (204, 0, [vr 8 0, vi x1, vi x3], [], h)) fun r18 h17 => (pm_bI (pm_ev (204, 0, [vr 8 0, vi x2, vi x3], [], h17)) fun r20 h19 => (if r18 < r20 then some (some (vi 1), h19) else some (some (vi 0), h19)))) else some (some (vi 0), h)) := (ev_rc [57, 105] 120 _).trans rfl
set_option maxRecDepth 100000 in
set_option maxHeartbeats 400000 in
/-- IllLightModel.shadeOf(I)I -/
theorem E_X9_shadeOf (h : PH) (a : Int32) : pm_ev (207, 0, [vr 8 0, vi a, none, none], [], h) = pm_ev (207, 4, [vr 8 0, vi a, vi (-1), vi 0], [], h) := (ev_rc [4, 63] 120 _).trans rfl
set_option maxRecDepth 100000 in
set_option maxHeartbeats 400000 in
/-- IllLightModel.shadeOf(I)I -/
theorem E_X9_shadeOf_4 (h : PH) (x1 : Int32) (x2 : Int32) (x3 : Int32) : pm_ev (207, 4, [vr 8 0, vi x1, vi x2, vi x3], [], h) = (if x3 < h.1 8 0 16 then (if x3 = x1 then pm_ev (207, 63, [vr 8 0, vi x1, vi x2, vi x3], [], h) else (pm_bI (pm_ev (201, 0, [vr 8 0, vi x3], [], h)) fun r2 h1 => (if r2 = 0 then (if pm_inb x3 4 = true then (if pm_inb x1 4 = true then (pm_bI (pm_ev (206, 0, [vr 8 0, vi (h1.1 38 0 x3.toNatClampNeg), vi (h1.1 38 0 x1.toNatClampNeg), none, none, none, none, none], [], h1)) fun r4 h3 => (if r4 = 0 then pm_ev (207, 63, [vr 8 0, vi x1, vi x2, vi x3], [], h3) else (if x2 = (-1) then pm_ev (207, 63, [vr 8 0, vi x1, vi x3, vi x3], [], h3) else (pm_bI (pm_ev (208, 0, [vr 8 0, vi x3, vi x2], [], h3)) fun r6 h5 => (if r6 = 0 then pm_ev (207, 63, [vr 8 0, vi x1, vi x2, vi x3], [], h5) else pm_ev (207, 63, [vr 8 0, vi x1, vi x3, vi x3], [], h5)))))) else none) else none) else pm_ev (207, 63, [vr 8 0, vi x1, vi x2, vi x3], [], h1)))) else some (some (vi x2), h)) := (ev_rc [4, 63] 120 _).trans rfl
set_option maxRecDepth 100000 in
set_option maxHeartbeats 400000 in
/-- IllLightModel.shadeOf(I)I -/
theorem E_X9_shadeOf_63 (h : PH) (x1 : Int32) (x2 : Int32) (x3 : Int32) : pm_ev (207, 63, [vr 8 0, vi x1, vi x2, vi x3], [], h) = pm_ev (207, 4, [vr 8 0, vi x1, vi x2, vi (x3 + 1)], [], h) := (ev_rc [4, 63] 120 _).trans rfl
set_option maxRecDepth 100000 in
set_option maxHeartbeats 400000 in
/-- IllLightModel.isNearer(II)Z -/
theorem E_X9_isNearer (h : PH) (a : Int32) (b : Int32) : pm_ev (208, 0, [vr 8 0, vi a, vi b], [], h) = (if pm_inb a 4 = true then (if pm_inb ((h.1 8 0 13) + 2) 5104 = true then (pm_bI (pm_ev (204, 0, [vr 8 0, vi (h.1 38 0 a.toNatClampNeg), vi (h.1 33 0 (((h.1 8 0 13) + 2).toNatClampNeg))], [], h)) fun r2 h1 => (if pm_inb b 4 = true then (if pm_inb ((h1.1 8 0 13) + 2) 5104 = true then (pm_bI (pm_ev (204, 0, [vr 8 0, vi (h1.1 38 0 b.toNatClampNeg), vi (h1.1 33 0 (((h1.1 8 0 13) + 2).toNatClampNeg))], [], h1)) fun r4 h3 => (if r2 < r4 then some (some (vi 1), h3) else some (some (vi 0), h3))) else none) else none)) else none) else none) := (ev_rc [] 120 _).trans rfl
set_option maxRecDepth 100000 in
set_option maxHeartbeats 400000 in
/-- IllLightModel.isBeamed(I)Z -/
theorem E_X9_isBeamed (h : PH) (a : Int32) : pm_ev (209, 0, [vr 8 0, vi a, none], [], h) = (pm_bI (pm_ev (207, 0, [vr 8 0, vi a, none, none], [], h)) fun r2 h1 => (if r2 = (-1) then (pm_bI (pm_ev (196, 0, [vr 8 0, vi a, vi (h1.1 8 0 25), none], [], h1)) fun r4 h3 => (if r4 &&& 1 = r4 then some (some (vi r4), h3) else none)) else (pm_bI (pm_ev (196, 0, [vr 8 0, vi r2, vi (h1.1 8 0 25), none], [], h1)) fun r6 h5 => (if r6 &&& 1 = r6 then some (some (vi r6), h5) else none)))) := (ev_rc [] 120 _).trans rfl
set_option maxRecDepth 100000 in
set_option maxHeartbeats 400000 in
/-- IllLightModel.isGuarded(I)Z -/
theorem E_X9_isGuarded (h : PH) (a : Int32) : pm_ev (210, 0, [vr 8 0, vi a, none, none], [], h) = pm_ev (210, 4, [vr 8 0, vi a, vi 0, vi 0], [], h) := (ev_rc [4, 65, 69] 120 _).trans rfl
set_option maxRecDepth 100000 in
set_option maxHeartbeats 400000 in
/-- IllLightModel.isGuarded(I)Z -/
theorem E_X9_isGuarded_4 (h : PH) (x1 : Int32) (x2 : Int32) (x3 : Int32) : pm_ev (210, 4, [vr 8 0, vi x1, vi x2, vi x3], [], h) = (if pm_inb ((h.1 8 0 13) + 4) 5104 = true then (if x3 < h.1 33 0 (((h.1 8 0 13) + 4).toNatClampNeg) then (if x2 = 0 then (if pm_inb (((h.1 8 0 13) + 6) + (2 * x3)) 5104 = true then (pm_bI (pm_ev (204, 0, [vr 8 0, vi x1, vi (h.1 33 0 ((((h.1 8 0 13) + 6) + (2 * x3)).toNatClampNeg))], [], h)) fun r2 h1 => (if pm_inb ((((h1.1 8 0 13) + 6) + (2 * x3)) + 1) 5104 = true then (if h1.1 33 0 (((((h1.1 8 0 13) + 6) + (2 * x3)) + 1).toNatClampNeg) < r2 then pm_ev (210, 69, [vr 8 0, vi x1, none, vi x3], [], h1) else pm_ev (210, 65, [vr 8 0, vi x1, none, vi x3], [], h1)) else none)) else none) else pm_ev (210, 65, [vr 8 0, vi x1, none, vi x3], [], h)) else (if x2 &&& 1 = x2 then some (some (vi x2), h) else none)) else none) := (ev_rc [4, 65, 69] 120 _).trans rfl
set_option maxRecDepth 100000 in
set_option maxHeartbeats 400000 in
/-- IllLightModel.isGuarded(I)Z -/
theorem E_X9_isGuarded_69 (h : PH) (x1 : Int32) (x3 : Int32) : pm_ev (210, 69, [vr 8 0, vi x1, none, vi x3], [], h) = pm_ev (210, 4, [vr 8 0, vi x1, vi 0, vi (x3 + 1)], [], h) := (ev_rc [4, 65, 69] 120 _).trans rfl
set_option maxRecDepth 100000 in
set_option maxHeartbeats 400000 in
/-- IllLightModel.isGuarded(I)Z -/
theorem E_X9_isGuarded_65 (h : PH) (x1 : Int32) (x3 : Int32) : pm_ev (210, 65, [vr 8 0, vi x1, none, vi x3], [], h) = pm_ev (210, 4, [vr 8 0, vi x1, vi 1, vi (x3 + 1)], [], h) := (ev_rc [4, 65, 69] 120 _).trans rfl
set_option maxRecDepth 100000 in
set_option maxHeartbeats 400000 in
/-- IllLightModel.isRock(I)Z -/
theorem E_X9_isRock (h : PH) (a : Int32) : pm_ev (211, 0, [vr 8 0, vi a], [], h) = (if pm_inb (((h.1 8 0 13) + 78) + a) 5104 = true then (if h.1 33 0 ((((h.1 8 0 13) + 78) + a).toNatClampNeg) = 1 then some (some (vi 1), h) else some (some (vi 0), h)) else none) := (ev_rc [] 120 _).trans rfl
set_option maxRecDepth 100000 in
set_option maxHeartbeats 400000 in
/-- IllLightModel.stop(II)I -/
theorem E_X9_stop (h : PH) (a : Int32) (b : Int32) : pm_ev (215, 0, [vr 8 0, vi a, vi b], [], h) = (pm_bI (pm_ev (185, 0, [vr 8 0, vi a], [], h)) fun r2 h1 => (if r2 = 0 then some (some (vi (-1)), h1) else (pm_bI (pm_ev (198, 0, [vr 8 0, vi b], [], h1)) fun r4 h3 => (if r4 = 0 then some (some (vi (-1)), h3) else (pm_bV (pm_ev (214, 0, [vr 8 0, vi 40], [], h3)) fun h5 => some (some (vi (h5.1 8 0 26)), h5)))))) := (ev_rc [] 120 _).trans rfl
set_option maxRecDepth 100000 in
set_option maxHeartbeats 400000 in
/-- IllLightModel.state(IIII)I -/
theorem E_X9_state (h : PH) (a : Int32) (b : Int32) (c : Int32) (d : Int32) : pm_ev (217, 0, [vr 8 0, vi a, vi b, vi c, vi d], [], h) = (pm_bI (pm_ev (185, 0, [vr 8 0, vi a], [], h)) fun r2 h1 => (if r2 = 0 then some (some (vi (-2)), h1) else (pm_bI (pm_ev (198, 0, [vr 8 0, vi b], [], h1)) fun r4 h3 => (if r4 = 0 then some (some (vi (-2)), h3) else (if c < 0 then some (some (vi (-2)), h3) else (if d < 0 then some (some (vi (-2)), h3) else (pm_bV (pm_ev (214, 0, [vr 8 0, vi c], [], h3)) fun h5 => (if h5.1 8 0 26 = c then (pm_bI (pm_ev (216, 0, [vr 8 0, vi d, none, none], [], h5)) fun r7 h6 => pm_ev (217, 47, [vr 8 0, none, none, vi c, vi d], [vi r7], h6)) else some (some (vi (-2)), h5))))))))) := (ev_rc [47] 120 _).trans rfl
set_option maxRecDepth 100000 in
set_option maxHeartbeats 400000 in
/-- IllLightModel.state(IIII)I -/
theorem E_X9_state_47 (h : PH) (x3 : Int32) (x4 : Int32) (s0 : Int32) : pm_ev (217, 47, [vr 8 0, none, none, vi x3, vi x4], [vi s0], h) = some (some (vi s0), h) := (ev_rc [47] 120 _).trans rfl
set_option maxRecDepth 100000 in
set_option maxHeartbeats 400000 in
/-- IllLightModel.bitsOf(I)I -/
theorem E_X9_bitsOf (h : PH) (a : Int32) : pm_ev (223, 0, [vi a, none, none], [], h) = pm_ev (223, 4, [vi a, vi 0, vi 0], [], h) := (ev_rc [4] 120 _).trans rfl
set_option maxRecDepth 100000 in
set_option maxHeartbeats 400000 in
/-- IllLightModel.bitsOf(I)I -/
theorem E_X9_bitsOf_4 (h : PH) (x0 : Int32) (x1 : Int32) (x2 : Int32) : pm_ev (223, 4, [vi x0, vi x1, vi x2], [], h) = (if x2 < 6 then pm_ev (223, 4, [vi x0, vi (x1 + ((x0 >>> (x2 &&& 31)) &&& 1)), vi (x2 + 1)], [], h) else some (some (vi x1), h)) := (ev_rc [4] 120 _).trans rfl
set_option maxRecDepth 100000 in
set_option maxHeartbeats 400000 in
/-- IllLightModel.openOf(I)I -/
theorem E_X9_openOf (h : PH) (a : Int32) : pm_ev (230, 0, [vr 8 0, vi a, none, none], [], h) = pm_ev (230, 4, [vr 8 0, vi a, vi 0, vi 0], [], h) := (ev_rc [4] 120 _).trans rfl
set_option maxRecDepth 100000 in
set_option maxHeartbeats 400000 in
/-- IllLightModel.openOf(I)I -/
theorem E_X9_openOf_4 (h : PH) (x1 : Int32) (x2 : Int32) (x3 : Int32) : pm_ev (230, 4, [vr 8 0, vi x1, vi x2, vi x3], [], h) = (if x3 < h.1 8 0 14 then (pm_bI (pm_ev (211, 0, [vr 8 0, vi (((h.1 8 0 14) * x1) + x3)], [], h)) fun r2 h1 => (if r2 = 0 then pm_ev (230, 4, [vr 8 0, vi x1, vi (x2 + 1), vi (x3 + 1)], [], h1) else pm_ev (230, 4, [vr 8 0, vi x1, vi (x2 + 0), vi (x3 + 1)], [], h1))) else some (some (vi x2), h)) := (ev_rc [4] 120 _).trans rfl
set_option maxRecDepth 100000 in
set_option maxHeartbeats 400000 in
/-- IllLightModel.wins(III)Z -/
theorem E_X9_wins (h : PH) (a : Int32) (b : Int32) (c : Int32) : pm_ev (231, 0, [vr 8 0, vi a, vi b, vi c], [], h) = (pm_bI (pm_ev (203, 0, [vi a, vi b], [], h)) fun r2 h1 => (if c < r2 then some (some (vi 1), h1) else some (some (vi 0), h1))) := (ev_rc [] 120 _).trans rfl
set_option maxRecDepth 100000 in
set_option maxHeartbeats 400000 in
/-- IllLightModel.isRest(III)Z -/
theorem E_X9_isRest (h : PH) (a : Int32) (b : Int32) (c : Int32) : pm_ev (232, 0, [vr 8 0, vi a, vi b, vi c, none, none, none, none], [], h) = (pm_bI (pm_ev (231, 0, [vr 8 0, vi a, vi b, vi c], [], h)) fun r2 h1 => (if r2 = 0 then (pm_bI (pm_ev (231, 0, [vr 8 0, vi a, vi b, vi c], [], h1)) fun r4 h3 => (if r4 = 0 then (pm_bI (pm_ev (230, 0, [vr 8 0, vi a, none, none], [], h3)) fun r6 h5 => pm_ev (232, 40, [vr 8 0, vi a, vi b, vi c, vi 0, none, none, none], [vi r6], h5)) else pm_ev (232, 40, [vr 8 0, vi a, vi b, vi c, vi 0, none, none, none], [vi 0], h3))) else (pm_bI (pm_ev (230, 0, [vr 8 0, vi a, none, none], [], h1)) fun r8 h7 => (pm_bI (pm_ev (231, 0, [vr 8 0, vi a, vi b, vi c], [], h7)) fun r10 h9 => (if r10 = 0 then (pm_bI (pm_ev (230, 0, [vr 8 0, vi a, none, none], [], h9)) fun r12 h11 => pm_ev (232, 40, [vr 8 0, vi a, vi b, vi c, vi r8, none, none, none], [vi r12], h11)) else pm_ev (232, 40, [vr 8 0, vi a, vi b, vi c, vi r8, none, none, none], [vi 0], h9)))))) := (ev_rc [40, 48, 120, 132] 120 _).trans rfl
set_option maxRecDepth 100000 in
set_option maxHeartbeats 400000 in
/-- IllLightModel.isRest(III)Z -/
theorem E_X9_isRest_40 (h : PH) (x1 : Int32) (x2 : Int32) (x3 : Int32) (x4 : Int32) (s0 : Int32) : pm_ev (232, 40, [vr 8 0, vi x1, vi x2, vi x3, vi x4, none, none, none], [vi s0], h) = pm_ev (232, 48, [vr 8 0, vi x1, vi x2, vi x3, vi x4, vi s0, vi 1, vi 0], [], h) := (ev_rc [40, 48, 120, 132] 120 _).trans rfl
set_option maxRecDepth 100000 in
set_option maxHeartbeats 400000 in
/-- IllLightModel.isRest(III)Z -/
theorem E_X9_isRest_48 (h : PH) (x1 : Int32) (x2 : Int32) (x3 : Int32) (x4 : Int32) (x5 : Int32) (x6 : Int32) (x7 : Int32) : pm_ev (232, 48, [vr 8 0, vi x1, vi x2, vi x3, vi x4, vi x5, vi x6, vi x7], [], h) = (if x7 < h.1 8 0 15 then (if x6 = 0 then pm_ev (232, 132, [vr 8 0, vi x1, vi x2, vi x3, vi x4, vi x5, vi 0, vi x7], [], h) else (pm_bI (pm_ev (231, 0, [vr 8 0, vi x7, vi x2, vi x3], [], h)) fun r14 h13 => (if r14 = 0 then (if x4 < 0 then pm_ev (232, 132, [vr 8 0, vi x1, vi x2, vi x3, vi x4, vi x5, vi 0, vi x7], [], h13) else (pm_bI (pm_ev (231, 0, [vr 8 0, vi x1, vi x7, vi x3], [], h13)) fun r16 h15 => (if r16 = 0 then (pm_bI (pm_ev (230, 0, [vr 8 0, vi x1, none, none], [], h15)) fun r18 h17 => pm_ev (232, 120, [vr 8 0, vi x1, vi x2, vi x3, vi x4, vi x5, none, vi x7], [vi r18], h17)) else pm_ev (232, 120, [vr 8 0, vi x1, vi x2, vi x3, vi x4, vi x5, none, vi x7], [vi 0], h15)))) else (pm_bI (pm_ev (230, 0, [vr 8 0, vi x7, none, none], [], h13)) fun r20 h19 => (if x4 < r20 then pm_ev (232, 132, [vr 8 0, vi x1, vi x2, vi x3, vi x4, vi x5, vi 0, vi x7], [], h19) else (pm_bI (pm_ev (231, 0, [vr 8 0, vi x1, vi x7, vi x3], [], h19)) fun r22 h21 => (if r22 = 0 then (pm_bI (pm_ev (230, 0, [vr 8 0, vi x1, none, none], [], h21)) fun r24 h23 => pm_ev (232, 120, [vr 8 0, vi x1, vi x2, vi x3, vi x4, vi x5, none, vi x7], [vi r24], h23)) else pm_ev (232, 120, [vr 8 0, vi x1, vi x2, vi x3, vi x4, vi x5, none, vi x7], [vi 0], h21)))))))) else (if x6 &&& 1 = x6 then some (some (vi x6), h) else none)) := (ev_rc [40, 48, 120, 132] 120 _).trans rfl
set_option maxRecDepth 100000 in
set_option maxHeartbeats 400000 in
/-- IllLightModel.isRest(III)Z -/
theorem E_X9_isRest_132 (h : PH) (x1 : Int32) (x2 : Int32) (x3 : Int32) (x4 : Int32) (x5 : Int32) (x6 : Int32) (x7 : Int32) : pm_ev (232, 132, [vr 8 0, vi x1, vi x2, vi x3, vi x4, vi x5, vi x6, vi x7], [], h) = pm_ev (232, 48, [vr 8 0, vi x1, vi x2, vi x3, vi x4, vi x5, vi x6, vi (x7 + 1)], [], h) := (ev_rc [40, 48, 120, 132] 120 _).trans rfl
set_option maxRecDepth 100000 in
set_option maxHeartbeats 400000 in
/-- IllLightModel.isRest(III)Z -/
theorem E_X9_isRest_120 (h : PH) (x1 : Int32) (x2 : Int32) (x3 : Int32) (x4 : Int32) (x5 : Int32) (x7 : Int32) (s0 : Int32) : pm_ev (232, 120, [vr 8 0, vi x1, vi x2, vi x3, vi x4, vi x5, none, vi x7], [vi s0], h) = (if x5 < s0 then pm_ev (232, 132, [vr 8 0, vi x1, vi x2, vi x3, vi x4, vi x5, vi 0, vi x7], [], h) else pm_ev (232, 132, [vr 8 0, vi x1, vi x2, vi x3, vi x4, vi x5, vi 1, vi x7], [], h)) := (ev_rc [40, 48, 120, 132] 120 _).trans rfl
set_option maxRecDepth 100000 in
set_option maxHeartbeats 400000 in
/-- IllLightModel.safestOf(I)I -/
theorem E_X9_safestOf (h : PH) (a : Int32) : pm_ev (233, 0, [vr 8 0, vi a, none, none, none, none, none], [], h) = pm_ev (233, 7, [vr 8 0, vi a, vi 0, vi (-1), vi 0, none, none], [], h) := (ev_rc [7, 27] 120 _).trans rfl
set_option maxRecDepth 100000 in
set_option maxHeartbeats 400000 in
/-- IllLightModel.safestOf(I)I -/
theorem E_X9_safestOf_7 (h : PH) (x1 : Int32) (x2 : Int32) (x3 : Int32) (x4 : Int32) : pm_ev (233, 7, [vr 8 0, vi x1, vi x2, vi x3, vi x4, none, none], [], h) = (if x4 < h.1 8 0 15 then (pm_bI (pm_ev (230, 0, [vr 8 0, vi x4, none, none], [], h)) fun r2 h1 => pm_ev (233, 27, [vr 8 0, vi x1, vi x2, vi x3, vi x4, vi r2, vi 0], [], h1)) else some (some (vi x2), h)) := (ev_rc [7, 27] 120 _).trans rfl
set_option maxRecDepth 100000 in
set_option maxHeartbeats 400000 in
/-- IllLightModel.safestOf(I)I -/
theorem E_X9_safestOf_27 (h : PH) (x1 : Int32) (x2 : Int32) (x3 : Int32) (x4 : Int32) (x5 : Int32) (x6 : Int32) : pm_ev (233, 27, [vr 8 0, vi x1, vi x2, vi x3, vi x4, vi x5, vi x6], [], h) = (if x6 < h.1 8 0 15 then (pm_bI (pm_ev (231, 0, [vr 8 0, vi x4, vi x6, vi x1], [], h)) fun r4 h3 => (if r4 = 0 then pm_ev (233, 27, [vr 8 0, vi x1, vi x2, vi x3, vi x4, vi 0, vi (x6 + 1)], [], h3) else pm_ev (233, 27, [vr 8 0, vi x1, vi x2, vi x3, vi x4, vi x5, vi (x6 + 1)], [], h3))) else (if x3 < x5 then pm_ev (233, 7, [vr 8 0, vi x1, vi x4, vi x5, vi (x4 + 1), none, none], [], h) else pm_ev (233, 7, [vr 8 0, vi x1, vi x2, vi x3, vi (x4 + 1), none, none], [], h))) := (ev_rc [7, 27] 120 _).trans rfl
set_option maxRecDepth 100000 in
set_option maxHeartbeats 400000 in
/-- IllLightModel.rest(III)I -/
theorem E_X9_rest (h : PH) (a : Int32) (b : Int32) (c : Int32) : pm_ev (234, 0, [vr 8 0, vi a, vi b, vi c, none, none], [], h) = (pm_bI (pm_ev (185, 0, [vr 8 0, vi a], [], h)) fun r2 h1 => (if r2 = 0 then some (some (vi (-1)), h1) else (pm_bI (pm_ev (153, 0, [vi b, vi 0, vi 7], [], h1)) fun r4 h3 => (if r4 = 0 then some (some (vi (-1)), h3) else (if c < (-2) then some (some (vi (-1)), h3) else (if c = (-2) then (pm_bI (pm_ev (233, 0, [vr 8 0, vi b, none, none, none, none, none], [], h3)) fun r6 h5 => some (some (vi r6), h5)) else pm_ev (234, 44, [vr 8 0, none, vi b, vi c, vi 0, vi 0], [], h3))))))) := (ev_rc [44] 120 _).trans rfl
set_option maxRecDepth 100000 in
set_option maxHeartbeats 400000 in
/-- IllLightModel.rest(III)I -/
theorem E_X9_rest_44 (h : PH) (x2 : Int32) (x3 : Int32) (x4 : Int32) (x5 : Int32) : pm_ev (234, 44, [vr 8 0, none, vi x2, vi x3, vi x4, vi x5], [], h) = (if x5 < 64 then (if x5 / 8 < h.1 8 0 15 then (if x5 - x5 / 8 * 8 < h.1 8 0 15 then (pm_bI (pm_ev (232, 0, [vr 8 0, vi (x5 / 8), vi (x5 - x5 / 8 * 8), vi x2, none, none, none, none], [], h)) fun r8 h7 => (if r8 = 0 then pm_ev (234, 44, [vr 8 0, none, vi x2, vi x3, vi x4, vi (x5 + 1)], [], h7) else (if x4 = x3 then some (some (vi x5), h7) else pm_ev (234, 44, [vr 8 0, none, vi x2, vi x3, vi (x4 + 1), vi (x5 + 1)], [], h7)))) else pm_ev (234, 44, [vr 8 0, none, vi x2, vi x3, vi x4, vi (x5 + 1)], [], h)) else pm_ev (234, 44, [vr 8 0, none, vi x2, vi x3, vi x4, vi (x5 + 1)], [], h)) else (if x3 = (-1) then some (some (vi x4), h) else some (some (vi (-1)), h))) := (ev_rc [44] 120 _).trans rfl
set_option maxRecDepth 100000 in
set_option maxHeartbeats 400000 in
/-- IllLightModel.common(JJ)J -/
theorem E_X9_common (h : PH) (a : Int64) (b : Int64) : pm_ev (235, 0, [vl a, none, vl b, none, none, none, none, none, none, none], [], h) = pm_ev (235, 6, [none, none, none, none, vl a, none, vl b, none, none, none], [], h) := (ev_rc [6] 120 _).trans rfl
set_option maxRecDepth 100000 in
set_option maxHeartbeats 400000 in
/-- IllLightModel.common(JJ)J -/
theorem E_X9_common_6 (h : PH) (y4 : Int64) (y6 : Int64) : pm_ev (235, 6, [none, none, none, none, vl y4, none, vl y6, none, none, none], [], h) = (if lg_cmp y6 0 = 0 then some (some (vl y4), h) else (if y6 = 0 then none else pm_ev (235, 6, [none, none, none, none, vl y6, none, vl (y4 - y4 / y6 * y6), none, none, none], [], h))) := (ev_rc [6] 120 _).trans rfl
set_option maxRecDepth 100000 in
set_option maxHeartbeats 400000 in
/-- IllLightModel.power(JI)J -/
theorem E_X9_power (h : PH) (a : Int64) (b : Int32) : pm_ev (236, 0, [vl a, none, vi b, none, none, none], [], h) = pm_ev (236, 5, [vl a, none, vi b, vl 1, none, vi 0], [], h) := (ev_rc [5] 120 _).trans rfl
set_option maxRecDepth 100000 in
set_option maxHeartbeats 400000 in
/-- IllLightModel.power(JI)J -/
theorem E_X9_power_5 (h : PH) (y0 : Int64) (x2 : Int32) (y3 : Int64) (x5 : Int32) : pm_ev (236, 5, [vl y0, none, vi x2, vl y3, none, vi x5], [], h) = (if x5 < x2 then pm_ev (236, 5, [vl y0, none, vi x2, vl (y3 * y0), none, vi (x5 + 1)], [], h) else some (some (vl y3), h)) := (ev_rc [5] 120 _).trans rfl
set_option maxRecDepth 100000 in
set_option maxHeartbeats 400000 in
/-- IllLightModel.premium(IIIZ)J -/
theorem E_X9_premium (h : PH) (a : Int32) (b : Int32) (c : Int32) (d : Int32) : pm_ev (237, 0, [vr 8 0, vi a, vi b, vi c, vi d, none, none, none, none], [], h) = (pm_bI (pm_ev (153, 0, [vi a, vi 1, vi 9], [], h)) fun r2 h1 => (if r2 = 0 then some (some (vl (-1)), h1) else (pm_bI (pm_ev (153, 0, [vi b, vi 0, vi 10], [], h1)) fun r4 h3 => (if r4 = 0 then some (some (vl (-1)), h3) else (pm_bI (pm_ev (153, 0, [vi c, vi 0, vi 99], [], h3)) fun r6 h5 => (if r6 = 0 then some (some (vl (-1)), h5) else (pm_bL (pm_ev (236, 0, [vl 10, none, vi a, none, none, none], [], h5)) fun l8 h7 => pm_ev (237, 41, [none, vi a, vi b, vi c, vi d, none, none, none, none], [vl l8], h7)))))))) := (ev_rc [41] 120 _).trans rfl
set_option maxRecDepth 100000 in
set_option maxHeartbeats 400000 in
/-- IllLightModel.premium(IIIZ)J -/
theorem E_X9_premium_41 (h : PH) (x1 : Int32) (x2 : Int32) (x3 : Int32) (x4 : Int32) (s0 : Int64) : pm_ev (237, 41, [none, vi x1, vi x2, vi x3, vi x4, none, none, none, none], [vl s0], h) = (pm_bL (pm_ev (236, 0, [vl ((10 - x2 : Int32).toInt64), none, vi x1, none, none, none], [], h)) fun l10 h9 => (if x4 = 0 then (pm_bL (pm_ev (235, 0, [vl (((x3 : Int32).toInt64) * (s0 - l10)), none, vl s0, none, none, none, none, none, none, none], [], h9)) fun l12 h11 => (if l12 = 0 then none else some (some (vl ((((x3 : Int32).toInt64) * (s0 - l10)) / l12)), h11))) else (pm_bL (pm_ev (235, 0, [vl (((x3 : Int32).toInt64) * (s0 - l10)), none, vl s0, none, none, none, none, none, none, none], [], h9)) fun l14 h13 => (if l14 = 0 then none else some (some (vl (s0 / l14)), h13))))) := (ev_rc [41] 120 _).trans rfl
set_option maxRecDepth 100000 in
set_option maxHeartbeats 400000 in
/-- IllLightModel.isLog(I)Z -/
theorem E_X9_isLog (h : PH) (a : Int32) : pm_ev (238, 0, [vr 8 0, vi a], [], h) = (pm_bI (pm_ev (180, 0, [vr 8 0, vi 2, vi a], [], h)) fun r2 h1 => (if r2 = 0 then some (some (vi 0), h1) else (pm_bI (pm_ev (178, 0, [vi 2, vi a], [], h1)) fun r4 h3 => some (some (vi 1), (pm_sI h3 8 0 30 r4))))) := (ev_rc [] 120 _).trans rfl
set_option maxRecDepth 100000 in
set_option maxHeartbeats 400000 in
/-- IllLightModel.log(II)I -/
theorem E_X9_log (h : PH) (a : Int32) (b : Int32) : pm_ev (239, 0, [vr 8 0, vi a, vi b, none], [], h) = (pm_bI (pm_ev (238, 0, [vr 8 0, vi a], [], h)) fun r2 h1 => (if r2 = 0 then some (some (vi (-1)), h1) else (pm_bI (pm_ev (153, 0, [vi b, vi 0, vi 3], [], h1)) fun r4 h3 => (if r4 = 0 then (pm_bI (pm_ev (153, 0, [vi b, vi 10, vi 19], [], h3)) fun r6 h5 => (if r6 = 0 then (pm_bI (pm_ev (153, 0, [vi b, vi 20, vi 39], [], h5)) fun r8 h7 => pm_ev (239, 86, [vr 8 0, none, vi b, vi (b - b / 10 * 10)], [vi r8], h7)) else (if pm_inb (h5.1 8 0 30) 5104 = true then (if b - b / 10 * 10 < h5.1 33 0 ((h5.1 8 0 30).toNatClampNeg) then pm_ev (239, 72, [vr 8 0, none, vi b, vi (b - b / 10 * 10)], [vi (((h5.1 8 0 30) + 4) + (b - b / 10 * 10)), vr 33 0], h5) else some (some (vi (-1)), h5)) else none))) else (if pm_inb ((h3.1 8 0 30) + b) 5104 = true then some (some (vi (h3.1 33 0 (((h3.1 8 0 30) + b).toNatClampNeg))), h3) else none))))) := (ev_rc [72, 86, 126] 120 _).trans rfl
set_option maxRecDepth 100000 in
set_option maxHeartbeats 400000 in
/-- IllLightModel.log(II)I -/
theorem E_X9_log_86 (h : PH) (x2 : Int32) (x3 : Int32) (s0 : Int32) : pm_ev (239, 86, [vr 8 0, none, vi x2, vi x3], [vi s0], h) = (if s0 = 0 then some (some (vi (-1)), h) else (if pm_inb ((h.1 8 0 30) + 3) 5104 = true then (if x3 < h.1 33 0 (((h.1 8 0 30) + 3).toNatClampNeg) then pm_ev (239, 126, [vr 8 0, none, vi x2, vi x3], [vi (((((h.1 8 0 30) + 10) + (2 * x3)) + (x2 / 10)) - 2), vr 33 0], h) else some (some (vi (-1)), h)) else none)) := (ev_rc [72, 86, 126] 120 _).trans rfl
set_option maxRecDepth 100000 in
set_option maxHeartbeats 400000 in
/-- IllLightModel.log(II)I -/
theorem E_X9_log_72 (h : PH) (x2 : Int32) (x3 : Int32) (s0 : Int32) (s1 : Nat) : pm_ev (239, 72, [vr 8 0, none, vi x2, vi x3], [vi s0, vr 33 s1], h) = (if pm_inb s0 5104 = true then some (some (vi (h.1 33 s1 s0.toNatClampNeg)), h) else none) := (ev_rc [72, 86, 126] 120 _).trans rfl
set_option maxRecDepth 100000 in
set_option maxHeartbeats 400000 in
/-- IllLightModel.log(II)I -/
theorem E_X9_log_126 (h : PH) (x2 : Int32) (x3 : Int32) (s0 : Int32) (s1 : Nat) : pm_ev (239, 126, [vr 8 0, none, vi x2, vi x3], [vi s0, vr 33 s1], h) = (if pm_inb s0 5104 = true then some (some (vi (h.1 33 s1 s0.toNatClampNeg)), h) else none) := (ev_rc [72, 86, 126] 120 _).trans rfl
set_option maxRecDepth 100000 in
set_option maxHeartbeats 400000 in
/-- IllLightModel.isLitBy(II)Z -/
theorem E_X9_isLitBy (h : PH) (a : Int32) (b : Int32) : pm_ev (240, 0, [vr 8 0, vi a, vi b], [], h) = (pm_bI (pm_ev (223, 0, [vi a, none, none], [], h)) fun r2 h1 => (if pm_inb ((h1.1 8 0 30) + 1) 5104 = true then (if r2 < h1.1 33 0 (((h1.1 8 0 30) + 1).toNatClampNeg) then some (some (vi 0), h1) else (pm_bI (pm_ev (223, 0, [vi a, none, none], [], h1)) fun r4 h3 => (if pm_inb (h3.1 8 0 30) 5104 = true then (if r4 = h3.1 33 0 ((h3.1 8 0 30).toNatClampNeg) then some (some (vi 1), h3) else (if b - b / 2 * 2 = 0 then some (some (vi 1), h3) else some (some (vi 0), h3))) else none))) else none)) := (ev_rc [] 120 _).trans rfl
set_option maxRecDepth 100000 in
set_option maxHeartbeats 400000 in
/-- IllLightModel.wrongBy(I)I -/
theorem E_X9_wrongBy (h : PH) (a : Int32) : pm_ev (241, 0, [vr 8 0, vi a, none, none], [], h) = pm_ev (241, 4, [vr 8 0, vi a, vi 0, vi 0], [], h) := (ev_rc [4, 76] 120 _).trans rfl
set_option maxRecDepth 100000 in
set_option maxHeartbeats 400000 in
/-- IllLightModel.wrongBy(I)I -/
theorem E_X9_wrongBy_4 (h : PH) (x1 : Int32) (x2 : Int32) (x3 : Int32) : pm_ev (241, 4, [vr 8 0, vi x1, vi x2, vi x3], [], h) = (if pm_inb ((h.1 8 0 30) + 3) 5104 = true then (if x3 < h.1 33 0 (((h.1 8 0 30) + 3).toNatClampNeg) then (if pm_inb (((h.1 8 0 30) + 11) + (2 * x3)) 5104 = true then (pm_bI (pm_ev (240, 0, [vr 8 0, vi x1, vi (h.1 33 0 ((((h.1 8 0 30) + 11) + (2 * x3)).toNatClampNeg))], [], h)) fun r2 h1 => (if pm_inb (((h1.1 8 0 30) + 10) + (2 * x3)) 5104 = true then (if h1.1 33 0 ((((h1.1 8 0 30) + 10) + (2 * x3)).toNatClampNeg) = 1 then (if r2 = 1 then pm_ev (241, 76, [vr 8 0, vi x1, vi (x2 + 0), vi x3], [], h1) else pm_ev (241, 76, [vr 8 0, vi x1, vi (x2 + 1), vi x3], [], h1)) else (if r2 = 0 then pm_ev (241, 76, [vr 8 0, vi x1, vi (x2 + 0), vi x3], [], h1) else pm_ev (241, 76, [vr 8 0, vi x1, vi (x2 + 1), vi x3], [], h1))) else none)) else none) else some (some (vi x2), h)) else none) := (ev_rc [4, 76] 120 _).trans rfl
set_option maxRecDepth 100000 in
set_option maxHeartbeats 400000 in
/-- IllLightModel.wrongBy(I)I -/
theorem E_X9_wrongBy_76 (h : PH) (x1 : Int32) (x2 : Int32) (x3 : Int32) : pm_ev (241, 76, [vr 8 0, vi x1, vi x2, vi x3], [], h) = pm_ev (241, 4, [vr 8 0, vi x1, vi x2, vi (x3 + 1)], [], h) := (ev_rc [4, 76] 120 _).trans rfl
set_option maxRecDepth 100000 in
set_option maxHeartbeats 400000 in
/-- IllLightModel.countOf(I)I -/
theorem E_X9_countOf (h : PH) (a : Int32) : pm_ev (242, 0, [vr 8 0, vi a, none, none], [], h) = pm_ev (242, 4, [vr 8 0, vi a, vi 0, vi 0], [], h) := (ev_rc [4] 120 _).trans rfl
set_option maxRecDepth 100000 in
set_option maxHeartbeats 400000 in
/-- IllLightModel.countOf(I)I -/
theorem E_X9_countOf_4 (h : PH) (x1 : Int32) (x2 : Int32) (x3 : Int32) : pm_ev (242, 4, [vr 8 0, vi x1, vi x2, vi x3], [], h) = (if pm_inb (h.1 8 0 30) 5104 = true then (if x3 < (1 : Int32) <<< ((h.1 33 0 ((h.1 8 0 30).toNatClampNeg)) &&& 31) then (pm_bI (pm_ev (241, 0, [vr 8 0, vi x3, none, none], [], h)) fun r2 h1 => (if r2 = 0 then (if x1 = (-1) then pm_ev (242, 4, [vr 8 0, vi x1, vi (x2 + 1), vi (x3 + 1)], [], h1) else (pm_bI (pm_ev (240, 0, [vr 8 0, vi x3, vi x1], [], h1)) fun r4 h3 => (if r4 = 0 then pm_ev (242, 4, [vr 8 0, vi x1, vi (x2 + 0), vi (x3 + 1)], [], h3) else pm_ev (242, 4, [vr 8 0, vi x1, vi (x2 + 1), vi (x3 + 1)], [], h3)))) else pm_ev (242, 4, [vr 8 0, vi x1, vi (x2 + 0), vi (x3 + 1)], [], h1))) else some (some (vi x2), h)) else none) := (ev_rc [4] 120 _).trans rfl
set_option maxRecDepth 100000 in
set_option maxHeartbeats 400000 in
/-- IllLightModel.askOf()I -/
theorem E_X9_askOf (h : PH)  : pm_ev (243, 0, [vr 8 0, none, none, none, none, none], [], h) = pm_ev (243, 8, [vr 8 0, vi 0, vi 999, vi 0, none, none], [], h) := (ev_rc [8] 120 _).trans rfl
set_option maxRecDepth 100000 in
set_option maxHeartbeats 400000 in
/-- IllLightModel.askOf()I -/
theorem E_X9_askOf_8 (h : PH) (x1 : Int32) (x2 : Int32) (x3 : Int32) : pm_ev (243, 8, [vr 8 0, vi x1, vi x2, vi x3, none, none], [], h) = (if x3 < 24 then (pm_bI (pm_ev (242, 0, [vr 8 0, vi x3, none, none], [], h)) fun r2 h1 => (if (h1.1 8 0 31) - r2 < r2 then (if r2 < x2 then pm_ev (243, 8, [vr 8 0, vi x3, vi r2, vi (x3 + 1), none, none], [], h1) else pm_ev (243, 8, [vr 8 0, vi x1, vi x2, vi (x3 + 1), none, none], [], h1)) else (if (h1.1 8 0 31) - r2 < x2 then pm_ev (243, 8, [vr 8 0, vi x3, vi ((h1.1 8 0 31) - r2), vi (x3 + 1), none, none], [], h1) else pm_ev (243, 8, [vr 8 0, vi x1, vi x2, vi (x3 + 1), none, none], [], h1)))) else some (some (vi x1), h)) := (ev_rc [8] 120 _).trans rfl
set_option maxRecDepth 100000 in
set_option maxHeartbeats 400000 in
/-- IllLightModel.fits(II)I -/
theorem E_X9_fits (h : PH) (a : Int32) (b : Int32) : pm_ev (244, 0, [vr 8 0, vi a, vi b, none, none], [], h) = (pm_bI (pm_ev (238, 0, [vr 8 0, vi a], [], h)) fun r2 h1 => (if r2 = 0 then some (some (vi (-2)), h1) else (pm_bI (pm_ev (242, 0, [vr 8 0, vi (-1), none, none], [], h1)) fun r4 h3 => (if b = 0 then some (some (vi ((pm_sI h3 8 0 31 r4).1 8 0 31)), (pm_sI h3 8 0 31 r4)) else (pm_bI (pm_ev (153, 0, [vi b, vi 1, vi 2], [], (pm_sI h3 8 0 31 r4))) fun r6 h5 => (if r6 = 0 then pm_ev (244, 123, [vr 8 0, none, vi b, vi 0, vi 0], [], h5) else (if h5.1 8 0 31 = 0 then some (some (vi (-1)), h5) else (if pm_inb (h5.1 8 0 30) 5104 = true then pm_ev (244, 64, [vr 8 0, none, vi b, vi (((1 : Int32) <<< ((h5.1 33 0 ((h5.1 8 0 30).toNatClampNeg)) &&& 31)) - 1), vi 0], [], h5) else none)))))))) := (ev_rc [64, 123] 120 _).trans rfl
set_option maxRecDepth 100000 in
set_option maxHeartbeats 400000 in
/-- IllLightModel.fits(II)I -/
theorem E_X9_fits_123 (h : PH) (x2 : Int32) (x3 : Int32) (x4 : Int32) : pm_ev (244, 123, [vr 8 0, none, vi x2, vi x3, vi x4], [], h) = (if pm_inb (h.1 8 0 30) 5104 = true then (if x4 < (1 : Int32) <<< ((h.1 33 0 ((h.1 8 0 30).toNatClampNeg)) &&& 31) then (pm_bI (pm_ev (241, 0, [vr 8 0, vi x4, none, none], [], h)) fun r8 h7 => (if (0 : Int32) < r8 then pm_ev (244, 123, [vr 8 0, none, vi x2, vi x3, vi (x4 + 1)], [], h7) else (if x2 = 10 + x3 then some (some (vi x4), h7) else pm_ev (244, 123, [vr 8 0, none, vi x2, vi (x3 + 1), vi (x4 + 1)], [], h7)))) else some (some (vi (-2)), h)) else none) := (ev_rc [64, 123] 120 _).trans rfl
set_option maxRecDepth 100000 in
set_option maxHeartbeats 400000 in
/-- IllLightModel.fits(II)I -/
theorem E_X9_fits_64 (h : PH) (x2 : Int32) (x3 : Int32) (x4 : Int32) : pm_ev (244, 64, [vr 8 0, none, vi x2, vi x3, vi x4], [], h) = (if pm_inb (h.1 8 0 30) 5104 = true then (if x4 < (1 : Int32) <<< ((h.1 33 0 ((h.1 8 0 30).toNatClampNeg)) &&& 31) then (pm_bI (pm_ev (241, 0, [vr 8 0, vi x4, none, none], [], h)) fun r10 h9 => (if r10 = 0 then pm_ev (244, 64, [vr 8 0, none, vi x2, vi (x3 &&& x4), vi (x4 + 1)], [], h9) else pm_ev (244, 64, [vr 8 0, none, vi x2, vi (x3 &&& x3), vi (x4 + 1)], [], h9))) else (if x2 = 1 then some (some (vi x3), h) else (pm_bI (pm_ev (243, 0, [vr 8 0, none, none, none, none, none], [], h)) fun r12 h11 => some (some (vi r12), h11)))) else none) := (ev_rc [64, 123] 120 _).trans rfl
set_option maxRecDepth 100000 in
set_option maxHeartbeats 400000 in
/-- IllLightModel.weightOf(I)J -/
theorem E_X9_weightOf (h : PH) (a : Int32) : pm_ev (245, 0, [vr 8 0, vi a, none, none, none], [], h) = pm_ev (245, 5, [vr 8 0, vi a, vl 1, none, vi 0], [], h) := (ev_rc [5] 120 _).trans rfl
set_option maxRecDepth 100000 in
set_option maxHeartbeats 400000 in
/-- IllLightModel.weightOf(I)J -/
theorem E_X9_weightOf_5 (h : PH) (x1 : Int32) (y2 : Int64) (x4 : Int32) : pm_ev (245, 5, [vr 8 0, vi x1, vl y2, none, vi x4], [], h) = (if pm_inb (h.1 8 0 30) 5104 = true then (if x4 < h.1 33 0 ((h.1 8 0 30).toNatClampNeg) then (if (x1 >>> (x4 &&& 31)) &&& 1 = 1 then (if pm_inb (((h.1 8 0 30) + 4) + x4) 5104 = true then pm_ev (245, 5, [vr 8 0, vi x1, vl (y2 * ((h.1 33 0 ((((h.1 8 0 30) + 4) + x4).toNatClampNeg) : Int32).toInt64)), none, vi (x4 + 1)], [], h) else none) else (if pm_inb (((h.1 8 0 30) + 4) + x4) 5104 = true then pm_ev (245, 5, [vr 8 0, vi x1, vl (y2 * ((10 - (h.1 33 0 ((((h.1 8 0 30) + 4) + x4).toNatClampNeg)) : Int32).toInt64)), none, vi (x4 + 1)], [], h) else none)) else (pm_bI (pm_ev (241, 0, [vr 8 0, vi x1, none, none], [], h)) fun r2 h1 => (if pm_inb ((h1.1 8 0 30) + 2) 5104 = true then (pm_bL (pm_ev (236, 0, [vl ((h1.1 33 0 (((h1.1 8 0 30) + 2).toNatClampNeg) : Int32).toInt64), none, vi r2, none, none, none], [], h1)) fun l4 h3 => (if pm_inb ((h3.1 8 0 30) + 2) 5104 = true then (if pm_inb ((h3.1 8 0 30) + 3) 5104 = true then (pm_bL (pm_ev (236, 0, [vl ((10 - (h3.1 33 0 (((h3.1 8 0 30) + 2).toNatClampNeg)) : Int32).toInt64), none, vi ((h3.1 33 0 (((h3.1 8 0 30) + 3).toNatClampNeg)) - r2), none, none, none], [], h3)) fun l6 h5 => some (some (vl ((y2 * l4) * l6)), h5)) else none) else none)) else none))) else none) := (ev_rc [5] 120 _).trans rfl
set_option maxRecDepth 100000 in
set_option maxHeartbeats 400000 in
/-- IllLightModel.belief(IIZ)J -/
theorem E_X9_belief (h : PH) (a : Int32) (b : Int32) (c : Int32) : pm_ev (246, 0, [vr 8 0, vi a, vi b, vi c, none, none, none, none, none, none, none], [], h) = (pm_bI (pm_ev (238, 0, [vr 8 0, vi a], [], h)) fun r2 h1 => (if r2 = 0 then some (some (vl (-1)), h1) else (if pm_inb (h1.1 8 0 30) 5104 = true then (pm_bI (pm_ev (153, 0, [vi b, vi 0, vi ((h1.1 33 0 ((h1.1 8 0 30).toNatClampNeg)) - 1)], [], h1)) fun r4 h3 => (if r4 = 0 then some (some (vl (-1)), h3) else pm_ev (246, 40, [vr 8 0, none, vi b, vi c, vl 0, none, vl 0, none, vi 0, none, none], [], h3))) else none))) := (ev_rc [40] 120 _).trans rfl
set_option maxRecDepth 100000 in
set_option maxHeartbeats 400000 in
/-- IllLightModel.belief(IIZ)J -/
theorem E_X9_belief_40 (h : PH) (x2 : Int32) (x3 : Int32) (y4 : Int64) (y6 : Int64) (x8 : Int32) : pm_ev (246, 40, [vr 8 0, none, vi x2, vi x3, vl y4, none, vl y6, none, vi x8, none, none], [], h) = (if pm_inb (h.1 8 0 30) 5104 = true then (if x8 < (1 : Int32) <<< ((h.1 33 0 ((h.1 8 0 30).toNatClampNeg)) &&& 31) then (pm_bL (pm_ev (245, 0, [vr 8 0, vi x8, none, none, none], [], h)) fun l6 h5 => (if (x8 >>> (x2 &&& 31)) &&& 1 = 1 then pm_ev (246, 40, [vr 8 0, none, vi x2, vi x3, vl (y4 + l6), none, vl (y6 + l6), none, vi (x8 + 1), none, none], [], h5) else pm_ev (246, 40, [vr 8 0, none, vi x2, vi x3, vl (y4 + 0), none, vl (y6 + l6), none, vi (x8 + 1), none, none], [], h5))) else (if lg_cmp y6 0 = 0 then (if x3 = 0 then some (some (vl 0), h) else some (some (vl 1), h)) else (if x3 = 0 then (pm_bL (pm_ev (235, 0, [vl y4, none, vl y6, none, none, none, none, none, none, none], [], h)) fun l8 h7 => (if l8 = 0 then none else some (some (vl (y4 / l8)), h7))) else (pm_bL (pm_ev (235, 0, [vl y4, none, vl y6, none, none, none, none, none, none, none], [], h)) fun l10 h9 => (if l10 = 0 then none else some (some (vl (y6 / l10)), h9)))))) else none) := (ev_rc [40] 120 _).trans rfl
set_option maxRecDepth 100000 in
set_option maxHeartbeats 400000 in
/-- IllLightModel.darkest(I)I -/
theorem E_X9_darkest (h : PH) (a : Int32) : pm_ev (247, 0, [vr 8 0, vi a, none, none, none], [], h) = pm_ev (247, 7, [vr 8 0, vi a, vi 0, vi 0, vi 0], [], h) := (ev_rc [7] 120 _).trans rfl
set_option maxRecDepth 100000 in
set_option maxHeartbeats 400000 in
/-- IllLightModel.darkest(I)I -/
theorem E_X9_darkest_7 (h : PH) (x1 : Int32) (x2 : Int32) (x3 : Int32) (x4 : Int32) : pm_ev (247, 7, [vr 8 0, vi x1, vi x2, vi x3, vi x4], [], h) = (if x4 < 24 then (pm_bI (pm_ev (196, 0, [vr 8 0, vi x1, vi x4, none], [], h)) fun r2 h1 => (if r2 = 0 then (if x2 < x3 + 1 then pm_ev (247, 7, [vr 8 0, vi x1, vi (x3 + 1), vi (x3 + 1), vi (x4 + 1)], [], h1) else pm_ev (247, 7, [vr 8 0, vi x1, vi x2, vi (x3 + 1), vi (x4 + 1)], [], h1)) else (if x2 < 0 then pm_ev (247, 7, [vr 8 0, vi x1, vi 0, vi 0, vi (x4 + 1)], [], h1) else pm_ev (247, 7, [vr 8 0, vi x1, vi x2, vi 0, vi (x4 + 1)], [], h1)))) else some (some (vi x2), h)) := (ev_rc [7] 120 _).trans rfl
set_option maxRecDepth 100000 in
set_option maxHeartbeats 400000 in
/-- IllLightModel.hours(III)I -/
theorem E_X9_hours (h : PH) (a : Int32) (b : Int32) (c : Int32) : pm_ev (248, 0, [vr 8 0, vi a, vi b, vi c, none, none, none, none, none], [], h) = (pm_bI (pm_ev (185, 0, [vr 8 0, vi a], [], h)) fun r2 h1 => (if r2 = 0 then some (some (vi (-1)), h1) else (pm_bI (pm_ev (187, 0, [vr 8 0, vi b], [], h1)) fun r4 h3 => (if r4 = 0 then some (some (vi (-1)), h3) else (pm_bI (pm_ev (153, 0, [vi c, vi 0, vi 4], [], h3)) fun r6 h5 => (if r6 = 0 then some (some (vi (-1)), h5) else (pm_bV (pm_ev (191, 0, [vr 8 0, none], [], h5)) fun h7 => pm_ev (248, 31, [vr 8 0, none, vi b, vi c, none, none, none, none, none], [], h7)))))))) := (ev_rc [31, 54, 128, 133, 137, 146] 120 _).trans rfl
set_option maxRecDepth 100000 in
set_option maxHeartbeats 400000 in
/-- IllLightModel.hours(III)I -/
theorem E_X9_hours_31 (h : PH) (x2 : Int32) (x3 : Int32) : pm_ev (248, 31, [vr 8 0, none, vi x2, vi x3, none, none, none, none, none], [], h) = (if x3 = 2 then (pm_bI (pm_ev (247, 0, [vr 8 0, vi x2, none, none, none], [], h)) fun r9 h8 => some (some (vi r9), h8)) else pm_ev (248, 54, [vr 8 0, none, vi x2, vi x3, vi 0, vi 0, vi 0, vi 0, none], [], h)) := (ev_rc [31, 54, 128, 133, 137, 146] 120 _).trans rfl
set_option maxRecDepth 100000 in
set_option maxHeartbeats 400000 in
/-- IllLightModel.hours(III)I -/
theorem E_X9_hours_54 (h : PH) (x2 : Int32) (x3 : Int32) (x4 : Int32) (x5 : Int32) (x6 : Int32) (x7 : Int32) : pm_ev (248, 54, [vr 8 0, none, vi x2, vi x3, vi x4, vi x5, vi x6, vi x7, none], [], h) = (if x7 < 24 then (if x3 = 0 then (pm_bI (pm_ev (196, 0, [vr 8 0, vi x2, vi x7, none], [], h)) fun r11 h10 => (if r11 = 0 then (pm_bI (pm_ev (194, 0, [vr 8 0, vi x2, vi x7, none, none], [], h10)) fun r13 h12 => (pm_bI (pm_ev (194, 0, [vr 8 0, vi x2, vi x5, none, none], [], h12)) fun r15 h14 => (if r15 < r13 then pm_ev (248, 128, [vr 8 0, none, vi x2, vi x3, vi (x4 ||| 0), vi x5, vi x6, vi x7, none], [], h14) else pm_ev (248, 133, [vr 8 0, none, vi x2, vi x3, vi (x4 ||| 0), vi x5, vi x6, vi x7, none], [], h14)))) else (pm_bI (pm_ev (194, 0, [vr 8 0, vi x2, vi x7, none, none], [], h10)) fun r17 h16 => (pm_bI (pm_ev (194, 0, [vr 8 0, vi x2, vi x5, none, none], [], h16)) fun r19 h18 => (if r19 < r17 then pm_ev (248, 128, [vr 8 0, none, vi x2, vi x3, vi (x4 ||| ((1 : Int32) <<< (x7 &&& 31))), vi x5, vi x6, vi x7, none], [], h18) else pm_ev (248, 133, [vr 8 0, none, vi x2, vi x3, vi (x4 ||| ((1 : Int32) <<< (x7 &&& 31))), vi x5, vi x6, vi x7, none], [], h18)))))) else (pm_bI (pm_ev (195, 0, [vr 8 0, vi x2, vi x7, none, none], [], h)) fun r21 h20 => (if r21 = 1 then (pm_bI (pm_ev (194, 0, [vr 8 0, vi x2, vi x7, none, none], [], h20)) fun r23 h22 => (pm_bI (pm_ev (194, 0, [vr 8 0, vi x2, vi x5, none, none], [], h22)) fun r25 h24 => (if r25 < r23 then pm_ev (248, 128, [vr 8 0, none, vi x2, vi x3, vi (x4 ||| ((1 : Int32) <<< (x7 &&& 31))), vi x5, vi x6, vi x7, none], [], h24) else pm_ev (248, 133, [vr 8 0, none, vi x2, vi x3, vi (x4 ||| ((1 : Int32) <<< (x7 &&& 31))), vi x5, vi x6, vi x7, none], [], h24)))) else (pm_bI (pm_ev (194, 0, [vr 8 0, vi x2, vi x7, none, none], [], h20)) fun r27 h26 => (pm_bI (pm_ev (194, 0, [vr 8 0, vi x2, vi x5, none, none], [], h26)) fun r29 h28 => (if r29 < r27 then pm_ev (248, 128, [vr 8 0, none, vi x2, vi x3, vi (x4 ||| 0), vi x5, vi x6, vi x7, none], [], h28) else pm_ev (248, 133, [vr 8 0, none, vi x2, vi x3, vi (x4 ||| 0), vi x5, vi x6, vi x7, none], [], h28))))))) else (if x3 = 3 then some (some (vi x5), h) else (if x3 = 4 then some (some (vi x6), h) else some (some (vi x4), h)))) := (ev_rc [31, 54, 128, 133, 137, 146] 120 _).trans rfl
set_option maxRecDepth 100000 in
set_option maxHeartbeats 400000 in
/-- IllLightModel.hours(III)I -/
theorem E_X9_hours_128 (h : PH) (x2 : Int32) (x3 : Int32) (x4 : Int32) (x5 : Int32) (x6 : Int32) (x7 : Int32) : pm_ev (248, 128, [vr 8 0, none, vi x2, vi x3, vi x4, vi x5, vi x6, vi x7, none], [], h) = pm_ev (248, 137, [vr 8 0, none, vi x2, vi x3, vi x4, vi x7, vi x6, vi x7, none], [], h) := (ev_rc [31, 54, 128, 133, 137, 146] 120 _).trans rfl
set_option maxRecDepth 100000 in
set_option maxHeartbeats 400000 in
/-- IllLightModel.hours(III)I -/
theorem E_X9_hours_133 (h : PH) (x2 : Int32) (x3 : Int32) (x4 : Int32) (x5 : Int32) (x6 : Int32) (x7 : Int32) : pm_ev (248, 133, [vr 8 0, none, vi x2, vi x3, vi x4, vi x5, vi x6, vi x7, none], [], h) = pm_ev (248, 137, [vr 8 0, none, vi x2, vi x3, vi x4, vi x5, vi x6, vi x7, none], [], h) := (ev_rc [31, 54, 128, 133, 137, 146] 120 _).trans rfl
set_option maxRecDepth 100000 in
set_option maxHeartbeats 400000 in
/-- IllLightModel.hours(III)I -/
theorem E_X9_hours_137 (h : PH) (x2 : Int32) (x3 : Int32) (x4 : Int32) (x5 : Int32) (x6 : Int32) (x7 : Int32) : pm_ev (248, 137, [vr 8 0, none, vi x2, vi x3, vi x4, vi x5, vi x6, vi x7, none], [], h) = (pm_bI (pm_ev (195, 0, [vr 8 0, vi x2, vi x7, none, none], [], h)) fun r31 h30 => pm_ev (248, 146, [vr 8 0, none, vi x2, vi x3, vi x4, vi x5, vi x6, vi x7, none], [vi r31, vi x6], h30)) := (ev_rc [31, 54, 128, 133, 137, 146] 120 _).trans rfl
set_option maxRecDepth 100000 in
set_option maxHeartbeats 400000 in
/-- IllLightModel.hours(III)I -/
theorem E_X9_hours_146 (h : PH) (x2 : Int32) (x3 : Int32) (x4 : Int32) (x5 : Int32) (x6 : Int32) (x7 : Int32) (s0 : Int32) (s1 : Int32) : pm_ev (248, 146, [vr 8 0, none, vi x2, vi x3, vi x4, vi x5, vi x6, vi x7, none], [vi s0, vi s1], h) = (if s0 = 2 then pm_ev (248, 54, [vr 8 0, none, vi x2, vi x3, vi x4, vi x5, vi (s1 + 1), vi (x7 + 1), none], [], h) else pm_ev (248, 54, [vr 8 0, none, vi x2, vi x3, vi x4, vi x5, vi (s1 + 0), vi (x7 + 1), none], [], h)) := (ev_rc [31, 54, 128, 133, 137, 146] 120 _).trans rfl
set_option maxRecDepth 100000 in
set_option maxHeartbeats 400000 in
/-- IllLightModel.shade(II)I -/
theorem E_X9_shade (h : PH) (a : Int32) (b : Int32) : pm_ev (249, 0, [vr 8 0, vi a, vi b, none, none, none], [], h) = (pm_bI (pm_ev (185, 0, [vr 8 0, vi a], [], h)) fun r2 h1 => (if r2 = 0 then some (some (vi (-1)), h1) else (pm_bI (pm_ev (187, 0, [vr 8 0, vi b], [], h1)) fun r4 h3 => (if r4 = 0 then some (some (vi (-1)), h3) else (pm_bI (pm_ev (188, 0, [vr 8 0, vi b, vi 0], [], h3)) fun r6 h5 => (if pm_inb ((h5.1 8 0 13) + 2) 5104 = true then (if r6 = h5.1 33 0 (((h5.1 8 0 13) + 2).toNatClampNeg) then some (some (vi 0), h5) else pm_ev (249, 48, [vr 8 0, none, none, vi r6, vi 0, vi 0], [], h5)) else none)))))) := (ev_rc [48] 120 _).trans rfl
set_option maxRecDepth 100000 in
set_option maxHeartbeats 400000 in
/-- IllLightModel.shade(II)I -/
theorem E_X9_shade_48 (h : PH) (x3 : Int32) (x4 : Int32) (x5 : Int32) : pm_ev (249, 48, [vr 8 0, none, none, vi x3, vi x4, vi x5], [], h) = (if x5 < (h.1 8 0 14) * (h.1 8 0 15) then (pm_bI (pm_ev (206, 0, [vr 8 0, vi x3, vi x5, none, none, none, none, none], [], h)) fun r8 h7 => (if r8 = 0 then pm_ev (249, 48, [vr 8 0, none, none, vi x3, vi (x4 + 0), vi (x5 + 1)], [], h7) else pm_ev (249, 48, [vr 8 0, none, none, vi x3, vi (x4 + 1), vi (x5 + 1)], [], h7))) else some (some (vi x4), h)) := (ev_rc [48] 120 _).trans rfl
set_option maxRecDepth 100000 in
set_option maxHeartbeats 400000 in
/-- IllLightModel.mutiny(IIIZ)I -/
theorem E_X9_mutiny (h : PH) (a : Int32) (b : Int32) (c : Int32) (d : Int32) : pm_ev (256, 0, [vr 8 0, vi a, vi b, vi c, vi d, none, none, none], [], h) = (pm_bI (pm_ev (185, 0, [vr 8 0, vi a], [], h)) fun r2 h1 => (if r2 = 0 then some (some (vi (-1)), h1) else (pm_bI (pm_ev (187, 0, [vr 8 0, vi b], [], h1)) fun r4 h3 => (if r4 = 0 then some (some (vi (-1)), h3) else (pm_bI (pm_ev (188, 0, [vr 8 0, vi b, vi 3], [], h3)) fun r6 h5 => (if r6 = 0 then some (some (vi (-1)), h5) else (pm_bI (pm_ev (153, 0, [vi c, vi 0, vi 23], [], h5)) fun r8 h7 => pm_ev (256, 32, [vr 8 0, vi a, vi b, vi c, vi d, none, none, none], [vi r8], h7)))))))) := (ev_rc [32, 50, 100] 120 _).trans rfl
set_option maxRecDepth 100000 in
set_option maxHeartbeats 400000 in
/-- IllLightModel.mutiny(IIIZ)I -/
theorem E_X9_mutiny_32 (h : PH) (x1 : Int32) (x2 : Int32) (x3 : Int32) (x4 : Int32) (s0 : Int32) : pm_ev (256, 32, [vr 8 0, vi x1, vi x2, vi x3, vi x4, none, none, none], [vi s0], h) = (if s0 = 0 then some (some (vi (-1)), h) else (pm_bV (pm_ev (191, 0, [vr 8 0, none], [], h)) fun h9 => pm_ev (256, 50, [vr 8 0, none, vi x2, vi x3, vi x4, vi 0, vi 0, vi 0], [], h9))) := (ev_rc [32, 50, 100] 120 _).trans rfl
set_option maxRecDepth 100000 in
set_option maxHeartbeats 400000 in
/-- IllLightModel.mutiny(IIIZ)I -/
theorem E_X9_mutiny_50 (h : PH) (x2 : Int32) (x3 : Int32) (x4 : Int32) (x5 : Int32) (x6 : Int32) (x7 : Int32) : pm_ev (256, 50, [vr 8 0, none, vi x2, vi x3, vi x4, vi x5, vi x6, vi x7], [], h) = (pm_bI (pm_ev (188, 0, [vr 8 0, vi x2, vi 3], [], h)) fun r11 h10 => (if x7 < r11 then (pm_bI (pm_ev (193, 0, [vr 8 0, vi x2, vi x7, vi x3, none], [], h10)) fun r13 h12 => (pm_bI (pm_ev (193, 0, [vr 8 0, vi x2, vi 0, vi x3, none], [], h12)) fun r15 h14 => (if r15 < r13 then (pm_bI (pm_ev (193, 0, [vr 8 0, vi x2, vi x7, vi x3, none], [], h14)) fun r17 h16 => pm_ev (256, 100, [vr 8 0, none, vi x2, vi x3, vi x4, vi (x5 ||| ((1 : Int32) <<< (x7 &&& 31))), vi x6, vi x7], [vi r17], h16)) else (pm_bI (pm_ev (193, 0, [vr 8 0, vi x2, vi x7, vi x3, none], [], h14)) fun r19 h18 => pm_ev (256, 100, [vr 8 0, none, vi x2, vi x3, vi x4, vi (x5 ||| 0), vi x6, vi x7], [vi r19], h18))))) else (if x4 = 0 then some (some (vi x5), h10) else some (some (vi x6), h10)))) := (ev_rc [32, 50, 100] 120 _).trans rfl
set_option maxRecDepth 100000 in
set_option maxHeartbeats 400000 in
/-- IllLightModel.mutiny(IIIZ)I -/
theorem E_X9_mutiny_100 (h : PH) (x2 : Int32) (x3 : Int32) (x4 : Int32) (x5 : Int32) (x6 : Int32) (x7 : Int32) (s0 : Int32) : pm_ev (256, 100, [vr 8 0, none, vi x2, vi x3, vi x4, vi x5, vi x6, vi x7], [vi s0], h) = (pm_bI (pm_ev (193, 0, [vr 8 0, vi x2, vi x6, vi x3, none], [], h)) fun r21 h20 => (if r21 < s0 then pm_ev (256, 50, [vr 8 0, none, vi x2, vi x3, vi x4, vi x5, vi x7, vi (x7 + 1)], [], h20) else pm_ev (256, 50, [vr 8 0, none, vi x2, vi x3, vi x4, vi x5, vi x6, vi (x7 + 1)], [], h20))) := (ev_rc [32, 50, 100] 120 _).trans rfl
set_option maxRecDepth 100000 in
set_option maxHeartbeats 400000 in
/-- IllLightModel.fraction(Z)J -/
theorem E_X9_fraction (h : PH) (a : Int32) : pm_ev (257, 0, [vr 8 0, vi a], [], h) = (if lg_cmp (h.2 8 0 35) 0 = 0 then (if a = 0 then some (some (vl 0), h) else some (some (vl 1), h)) else (if a = 0 then (pm_bL (pm_ev (235, 0, [vl (h.2 8 0 34), none, vl (h.2 8 0 35), none, none, none, none, none, none, none], [], h)) fun l2 h1 => (if l2 = 0 then none else some (some (vl ((h.2 8 0 34) / l2)), h1))) else (pm_bL (pm_ev (235, 0, [vl (h.2 8 0 34), none, vl (h.2 8 0 35), none, none, none, none, none, none, none], [], h)) fun l4 h3 => (if l4 = 0 then none else some (some (vl ((h.2 8 0 35) / l4)), h3))))) := (ev_rc [] 120 _).trans rfl
set_option maxRecDepth 100000 in
set_option maxHeartbeats 400000 in
/-- IllLightModel.weighs(ZJ)V -/
theorem E_X9_weighs (h : PH) (a : Int32) (b : Int64) : pm_ev (258, 0, [vr 8 0, vi a, vl b, none], [], h) = (if a = 0 then some (none, (pm_sL (pm_sL h 8 0 35 ((h.2 8 0 35) + b)) 8 0 34 ((h.2 8 0 34) + 0))) else some (none, (pm_sL (pm_sL h 8 0 35 ((h.2 8 0 35) + b)) 8 0 34 ((h.2 8 0 34) + b)))) := (ev_rc [] 120 _).trans rfl
set_option maxRecDepth 100000 in
set_option maxHeartbeats 400000 in
/-- IllLightModel.next(IIZ)J -/
theorem E_X9_next (h : PH) (a : Int32) (b : Int32) (c : Int32) : pm_ev (259, 0, [vr 8 0, vi a, vi b, vi c, none], [], h) = (pm_bI (pm_ev (238, 0, [vr 8 0, vi a], [], h)) fun r2 h1 => (if r2 = 0 then some (some (vl (-1)), h1) else (pm_bI (pm_ev (153, 0, [vi b, vi 0, vi 23], [], h1)) fun r4 h3 => (if r4 = 0 then some (some (vl (-1)), h3) else pm_ev (259, 35, [vr 8 0, none, vi b, vi c, vi 0], [], (pm_sL (pm_sL h3 8 0 34 0) 8 0 35 0)))))) := (ev_rc [35] 120 _).trans rfl
set_option maxRecDepth 100000 in
set_option maxHeartbeats 400000 in
/-- IllLightModel.next(IIZ)J -/
theorem E_X9_next_35 (h : PH) (x2 : Int32) (x3 : Int32) (x4 : Int32) : pm_ev (259, 35, [vr 8 0, none, vi x2, vi x3, vi x4], [], h) = (if pm_inb (h.1 8 0 30) 5104 = true then (if x4 < (1 : Int32) <<< ((h.1 33 0 ((h.1 8 0 30).toNatClampNeg)) &&& 31) then (pm_bI (pm_ev (240, 0, [vr 8 0, vi x4, vi x2], [], h)) fun r6 h5 => (pm_bL (pm_ev (245, 0, [vr 8 0, vi x4, none, none, none], [], h5)) fun l8 h7 => (pm_bV (pm_ev (258, 0, [vr 8 0, vi r6, vl l8, none], [], h7)) fun h9 => pm_ev (259, 35, [vr 8 0, none, vi x2, vi x3, vi (x4 + 1)], [], h9)))) else (pm_bL (pm_ev (257, 0, [vr 8 0, vi x3], [], h)) fun l11 h10 => some (some (vl l11), h10))) else none) := (ev_rc [35] 120 _).trans rfl
set_option maxRecDepth 100000 in
set_option maxHeartbeats 400000 in
/-- IllLightModel.both(IIIZ)J -/
theorem E_X9_both (h : PH) (a : Int32) (b : Int32) (c : Int32) (d : Int32) : pm_ev (260, 0, [vr 8 0, vi a, vi b, vi c, vi d, none], [], h) = (pm_bI (pm_ev (238, 0, [vr 8 0, vi a], [], h)) fun r2 h1 => (if r2 = 0 then some (some (vl (-1)), h1) else (if b = c then some (some (vl (-1)), h1) else (if pm_inb (h1.1 8 0 30) 5104 = true then (pm_bI (pm_ev (153, 0, [vi b, vi 0, vi ((h1.1 33 0 ((h1.1 8 0 30).toNatClampNeg)) - 1)], [], h1)) fun r4 h3 => (if r4 = 0 then some (some (vl (-1)), h3) else (if pm_inb (h3.1 8 0 30) 5104 = true then (pm_bI (pm_ev (153, 0, [vi c, vi 0, vi ((h3.1 33 0 ((h3.1 8 0 30).toNatClampNeg)) - 1)], [], h3)) fun r6 h5 => (if r6 = 0 then some (some (vl (-1)), h5) else pm_ev (260, 60, [vr 8 0, none, vi b, vi c, vi d, none], [], (pm_sL h5 8 0 34 0)))) else none))) else none)))) := (ev_rc [60, 68] 120 _).trans rfl
set_option maxRecDepth 100000 in
set_option maxHeartbeats 400000 in
/-- IllLightModel.both(IIIZ)J -/
theorem E_X9_both_60 (h : PH) (x2 : Int32) (x3 : Int32) (x4 : Int32) : pm_ev (260, 60, [vr 8 0, none, vi x2, vi x3, vi x4, none], [], h) = pm_ev (260, 68, [vr 8 0, none, vi x2, vi x3, vi x4, vi 0], [], (pm_sL h 8 0 35 0)) := (ev_rc [60, 68] 120 _).trans rfl
set_option maxRecDepth 100000 in
set_option maxHeartbeats 400000 in
/-- IllLightModel.both(IIIZ)J -/
theorem E_X9_both_68 (h : PH) (x2 : Int32) (x3 : Int32) (x4 : Int32) (x5 : Int32) : pm_ev (260, 68, [vr 8 0, none, vi x2, vi x3, vi x4, vi x5], [], h) = (if pm_inb (h.1 8 0 30) 5104 = true then (if x5 < (1 : Int32) <<< ((h.1 33 0 ((h.1 8 0 30).toNatClampNeg)) &&& 31) then (if (x5 >>> (x2 &&& 31)) &&& 1 = 1 then (if (x5 >>> (x3 &&& 31)) &&& 1 = 1 then (pm_bL (pm_ev (245, 0, [vr 8 0, vi x5, none, none, none], [], h)) fun l8 h7 => (pm_bV (pm_ev (258, 0, [vr 8 0, vi 1, vl l8, none], [], h7)) fun h9 => pm_ev (260, 68, [vr 8 0, none, vi x2, vi x3, vi x4, vi (x5 + 1)], [], h9))) else (pm_bL (pm_ev (245, 0, [vr 8 0, vi x5, none, none, none], [], h)) fun l11 h10 => (pm_bV (pm_ev (258, 0, [vr 8 0, vi 0, vl l11, none], [], h10)) fun h12 => pm_ev (260, 68, [vr 8 0, none, vi x2, vi x3, vi x4, vi (x5 + 1)], [], h12)))) else (pm_bL (pm_ev (245, 0, [vr 8 0, vi x5, none, none, none], [], h)) fun l14 h13 => (pm_bV (pm_ev (258, 0, [vr 8 0, vi 0, vl l14, none], [], h13)) fun h15 => pm_ev (260, 68, [vr 8 0, none, vi x2, vi x3, vi x4, vi (x5 + 1)], [], h15)))) else (pm_bL (pm_ev (257, 0, [vr 8 0, vi x4], [], h)) fun l17 h16 => some (some (vl l17), h16))) else none) := (ev_rc [60, 68] 120 _).trans rfl
set_option maxRecDepth 100000 in
set_option maxHeartbeats 400000 in
/-- IllLightModel.below(I)I -/
theorem E_X9_below (h : PH) (a : Int32) : pm_ev (261, 0, [vr 8 0, vi a], [], h) = (if a = 0 then none else some (some (vi (((((pm_sI h 8 0 36 (((h.1 8 0 36) * 1103515245) + 12345)).1 8 0 36).toUInt32 >>> ((16 : Int32).toUInt32 &&& Int32.toUInt32 31)).toInt32) - ((((pm_sI h 8 0 36 (((h.1 8 0 36) * 1103515245) + 12345)).1 8 0 36).toUInt32 >>> ((16 : Int32).toUInt32 &&& Int32.toUInt32 31)).toInt32) / a * a)), (pm_sI h 8 0 36 (((h.1 8 0 36) * 1103515245) + 12345)))) := (ev_rc [] 120 _).trans rfl
set_option maxRecDepth 100000 in
set_option maxHeartbeats 400000 in
/-- IllLightModel.drawn(IIII)I -/
theorem E_X9_drawn (h : PH) (a : Int32) (b : Int32) (c : Int32) (d : Int32) : pm_ev (263, 0, [vr 8 0, vi a, vi b, vi c, vi d, none], [], h) = (pm_bI (pm_ev (185, 0, [vr 8 0, vi a], [], h)) fun r2 h1 => (if r2 = 0 then some (some (vi (-2)), h1) else (if h1.1 8 0 16 = 0 then some (some (vi (-2)), h1) else (pm_bI (pm_ev (153, 0, [vi c, vi 0, vi 60], [], h1)) fun r4 h3 => (if r4 = 0 then some (some (vi (-2)), h3) else (if d < 0 then some (some (vi (-2)), h3) else (pm_bV (pm_ev (200, 0, [vr 8 0, none], [], (pm_sI h3 8 0 36 b))) fun h5 => pm_ev (263, 45, [vr 8 0, none, none, vi c, vi d, vi 0], [], h5)))))))) := (ev_rc [45] 120 _).trans rfl
set_option maxRecDepth 100000 in
set_option maxHeartbeats 400000 in
/-- IllLightModel.drawn(IIII)I -/
theorem E_X9_drawn_45 (h : PH) (x3 : Int32) (x4 : Int32) (x5 : Int32) : pm_ev (263, 45, [vr 8 0, none, none, vi x3, vi x4, vi x5], [], h) = (if x5 < x3 then (pm_bV (pm_ev (262, 0, [vr 8 0, none, none, none], [], h)) fun h6 => pm_ev (263, 45, [vr 8 0, none, none, vi x3, vi x4, vi (x5 + 1)], [], h6)) else (pm_bI (pm_ev (216, 0, [vr 8 0, vi x4, none, none], [], h)) fun r8 h7 => some (some (vi r8), h7))) := (ev_rc [45] 120 _).trans rfl
set_option maxRecDepth 100000 in
set_option maxHeartbeats 400000 in
/-- IllLightModel.count(I)I -/
theorem E_X9_count (h : PH) (a : Int32) : pm_ev (264, 0, [vr 8 0, vi a], [], h) = (pm_bI (pm_ev (153, 0, [vi a, vi 0, vi 2], [], h)) fun r2 h1 => (if r2 = 0 then some (some (vi (-2)), h1) else (if pm_inb a 5104 = true then some (some (vi (h1.1 33 0 a.toNatClampNeg)), h1) else none))) := (ev_rc [] 120 _).trans rfl
