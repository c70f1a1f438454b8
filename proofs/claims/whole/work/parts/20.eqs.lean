set_option maxRecDepth 100000 in
set_option maxHeartbeats 400000 in
/-- IllLight$Coast.clear()V -/
theorem E_X0_clear (h : PH) (o : Nat) : pm_ev (0, 0, [vr 0 o], [], h) = some (none, (pm_sI (pm_sI (pm_sL (pm_sI (pm_sI (pm_sI (pm_sI h 0 o 0 6) 0 o 1 6) 0 o 2 0) 0 o 3 1) 0 o 4 0) 0 o 5 0) 0 o 8 0)) := (ev_rc [] 120 _).trans rfl
set_option maxRecDepth 100000 in
set_option maxHeartbeats 400000 in
/-- IllLight$Coast.copyFrom(LIllLight$Coast;)V -/
theorem E_X0_copyFrom (h : PH) (o : Nat) (a : Nat) : pm_ev (1, 0, [vr 0 o, vr 0 a], [], h) = pm_ev (1, 56, [vr 0 o, vr 0 a], [], (pm_sI (pm_sI (pm_sL (pm_sI (pm_sI (pm_sI (pm_sI h 0 o 0 (h.1 0 a 0)) 0 o 1 (h.1 0 a 1)) 0 o 2 (h.1 0 a 2)) 0 o 3 (h.1 0 a 3)) 0 o 4 (h.2 0 a 4)) 0 o 5 (h.1 0 a 5)) 0 o 8 (h.1 0 a 8))) := (ev_rc [56, 70, 84, 98, 112, 126, 140, 155, 170] 120 _).trans rfl
set_option maxRecDepth 100000 in
set_option maxHeartbeats 400000 in
/-- IllLight$Coast.copyFrom(LIllLight$Coast;)V -/
theorem E_X0_copyFrom_56 (h : PH) (q0 : Nat) (q1 : Nat) : pm_ev (1, 56, [vr 0 q0, vr 0 q1], [], h) = pm_ev (1, 70, [vr 0 q0, vr 0 q1], [], (pm_cp h 10 q1 ((0 : Int32).toNatClampNeg) 10 q0 ((0 : Int32).toNatClampNeg) ((4 : Int32).toNatClampNeg))) := (ev_rc [56, 70, 84, 98, 112, 126, 140, 155, 170] 120 _).trans rfl
set_option maxRecDepth 100000 in
set_option maxHeartbeats 400000 in
/-- IllLight$Coast.copyFrom(LIllLight$Coast;)V -/
theorem E_X0_copyFrom_70 (h : PH) (q0 : Nat) (q1 : Nat) : pm_ev (1, 70, [vr 0 q0, vr 0 q1], [], h) = pm_ev (1, 84, [vr 0 q0, vr 0 q1], [], (pm_cp h 11 q1 ((0 : Int32).toNatClampNeg) 11 q0 ((0 : Int32).toNatClampNeg) ((4 : Int32).toNatClampNeg))) := (ev_rc [56, 70, 84, 98, 112, 126, 140, 155, 170] 120 _).trans rfl
set_option maxRecDepth 100000 in
set_option maxHeartbeats 400000 in
/-- IllLight$Coast.copyFrom(LIllLight$Coast;)V -/
theorem E_X0_copyFrom_84 (h : PH) (q0 : Nat) (q1 : Nat) : pm_ev (1, 84, [vr 0 q0, vr 0 q1], [], h) = pm_ev (1, 98, [vr 0 q0, vr 0 q1], [], (pm_cp h 12 q1 ((0 : Int32).toNatClampNeg) 12 q0 ((0 : Int32).toNatClampNeg) ((4 : Int32).toNatClampNeg))) := (ev_rc [56, 70, 84, 98, 112, 126, 140, 155, 170] 120 _).trans rfl
set_option maxRecDepth 100000 in
set_option maxHeartbeats 400000 in
/-- IllLight$Coast.copyFrom(LIllLight$Coast;)V -/
theorem E_X0_copyFrom_98 (h : PH) (q0 : Nat) (q1 : Nat) : pm_ev (1, 98, [vr 0 q0, vr 0 q1], [], h) = pm_ev (1, 112, [vr 0 q0, vr 0 q1], [], (pm_cp h 13 q1 ((0 : Int32).toNatClampNeg) 13 q0 ((0 : Int32).toNatClampNeg) ((4 : Int32).toNatClampNeg))) := (ev_rc [56, 70, 84, 98, 112, 126, 140, 155, 170] 120 _).trans rfl
set_option maxRecDepth 100000 in
set_option maxHeartbeats 400000 in
/-- IllLight$Coast.copyFrom(LIllLight$Coast;)V -/
theorem E_X0_copyFrom_112 (h : PH) (q0 : Nat) (q1 : Nat) : pm_ev (1, 112, [vr 0 q0, vr 0 q1], [], h) = pm_ev (1, 126, [vr 0 q0, vr 0 q1], [], (pm_cp h 14 q1 ((0 : Int32).toNatClampNeg) 14 q0 ((0 : Int32).toNatClampNeg) ((4 : Int32).toNatClampNeg))) := (ev_rc [56, 70, 84, 98, 112, 126, 140, 155, 170] 120 _).trans rfl
set_option maxRecDepth 100000 in
set_option maxHeartbeats 400000 in
/-- IllLight$Coast.copyFrom(LIllLight$Coast;)V -/
theorem E_X0_copyFrom_126 (h : PH) (q0 : Nat) (q1 : Nat) : pm_ev (1, 126, [vr 0 q0, vr 0 q1], [], h) = pm_ev (1, 140, [vr 0 q0, vr 0 q1], [], (pm_cp h 15 q1 ((0 : Int32).toNatClampNeg) 15 q0 ((0 : Int32).toNatClampNeg) ((4 : Int32).toNatClampNeg))) := (ev_rc [56, 70, 84, 98, 112, 126, 140, 155, 170] 120 _).trans rfl
set_option maxRecDepth 100000 in
set_option maxHeartbeats 400000 in
/-- IllLight$Coast.copyFrom(LIllLight$Coast;)V -/
theorem E_X0_copyFrom_140 (h : PH) (q0 : Nat) (q1 : Nat) : pm_ev (1, 140, [vr 0 q0, vr 0 q1], [], h) = pm_ev (1, 155, [vr 0 q0, vr 0 q1], [], (pm_cp h 16 q1 ((0 : Int32).toNatClampNeg) 16 q0 ((0 : Int32).toNatClampNeg) ((16 : Int32).toNatClampNeg))) := (ev_rc [56, 70, 84, 98, 112, 126, 140, 155, 170] 120 _).trans rfl
set_option maxRecDepth 100000 in
set_option maxHeartbeats 400000 in
/-- IllLight$Coast.copyFrom(LIllLight$Coast;)V -/
theorem E_X0_copyFrom_155 (h : PH) (q0 : Nat) (q1 : Nat) : pm_ev (1, 155, [vr 0 q0, vr 0 q1], [], h) = pm_ev (1, 170, [vr 0 q0, vr 0 q1], [], (pm_cp h 17 q1 ((0 : Int32).toNatClampNeg) 17 q0 ((0 : Int32).toNatClampNeg) ((16 : Int32).toNatClampNeg))) := (ev_rc [56, 70, 84, 98, 112, 126, 140, 155, 170] 120 _).trans rfl
set_option maxRecDepth 100000 in
set_option maxHeartbeats 400000 in
/-- IllLight$Coast.copyFrom(LIllLight$Coast;)V -/
theorem E_X0_copyFrom_170 (h : PH) (q0 : Nat) (q1 : Nat) : pm_ev (1, 170, [vr 0 q0, vr 0 q1], [], h) = some (none, (pm_cp h 18 q1 ((0 : Int32).toNatClampNeg) 18 q0 ((0 : Int32).toNatClampNeg) ((16 : Int32).toNatClampNeg))) := (ev_rc [56, 70, 84, 98, 112, 126, 140, 155, 170] 120 _).trans rfl
set_option maxRecDepth 100000 in
set_option maxHeartbeats 400000 in
/-- IllLight$Coast.addGuard(II)V -/
theorem E_X0_addGuard (h : PH) (o : Nat) (a : Int32) (b : Int32) : pm_ev (2, 0, [vr 0 o, vi a, vi b], [], h) = (if h.1 0 o 5 < 4 then (if pm_inb (h.1 0 o 5) 4 = true then pm_ev (2, 18, [vr 0 o, vi a, vi b], [], (pm_sI h 10 o ((h.1 0 o 5).toNatClampNeg) a)) else none) else some (none, h)) := (ev_rc [18, 28] 120 _).trans rfl
set_option maxRecDepth 100000 in
set_option maxHeartbeats 400000 in
/-- IllLight$Coast.addGuard(II)V -/
theorem E_X0_addGuard_18 (h : PH) (q0 : Nat) (x1 : Int32) (x2 : Int32) : pm_ev (2, 18, [vr 0 q0, vi x1, vi x2], [], h) = (if pm_inb (h.1 0 q0 5) 4 = true then pm_ev (2, 28, [vr 0 q0, vi x1, vi x2], [], (pm_sI h 11 q0 ((h.1 0 q0 5).toNatClampNeg) x2)) else none) := (ev_rc [18, 28] 120 _).trans rfl
set_option maxRecDepth 100000 in
set_option maxHeartbeats 400000 in
/-- IllLight$Coast.addGuard(II)V -/
theorem E_X0_addGuard_28 (h : PH) (q0 : Nat) (x1 : Int32) (x2 : Int32) : pm_ev (2, 28, [vr 0 q0, vi x1, vi x2], [], h) = some (none, (pm_sI h 0 q0 5 ((h.1 0 q0 5) + 1))) := (ev_rc [18, 28] 120 _).trans rfl
set_option maxRecDepth 100000 in
set_option maxHeartbeats 400000 in
/-- IllLight$Coast.addShip(III)V -/
theorem E_X0_addShip (h : PH) (o : Nat) (a : Int32) (b : Int32) (c : Int32) : pm_ev (3, 0, [vr 0 o, vi a, vi b, vi c], [], h) = (if h.1 0 o 8 < 4 then (if pm_inb (h.1 0 o 8) 4 = true then pm_ev (3, 18, [vr 0 o, vi a, vi b, vi c], [], (pm_sI h 12 o ((h.1 0 o 8).toNatClampNeg) a)) else none) else some (none, h)) := (ev_rc [18, 28, 38, 48] 120 _).trans rfl
set_option maxRecDepth 100000 in
set_option maxHeartbeats 400000 in
/-- IllLight$Coast.addShip(III)V -/
theorem E_X0_addShip_18 (h : PH) (q0 : Nat) (x1 : Int32) (x2 : Int32) (x3 : Int32) : pm_ev (3, 18, [vr 0 q0, vi x1, vi x2, vi x3], [], h) = (if pm_inb (h.1 0 q0 8) 4 = true then pm_ev (3, 28, [vr 0 q0, vi x1, vi x2, vi x3], [], (pm_sI h 13 q0 ((h.1 0 q0 8).toNatClampNeg) x2)) else none) := (ev_rc [18, 28, 38, 48] 120 _).trans rfl
set_option maxRecDepth 100000 in
set_option maxHeartbeats 400000 in
/-- IllLight$Coast.addShip(III)V -/
theorem E_X0_addShip_28 (h : PH) (q0 : Nat) (x1 : Int32) (x2 : Int32) (x3 : Int32) : pm_ev (3, 28, [vr 0 q0, vi x1, vi x2, vi x3], [], h) = (if pm_inb (h.1 0 q0 8) 4 = true then pm_ev (3, 38, [vr 0 q0, vi x1, vi x2, vi x3], [], (pm_sI h 14 q0 ((h.1 0 q0 8).toNatClampNeg) x3)) else none) := (ev_rc [18, 28, 38, 48] 120 _).trans rfl
set_option maxRecDepth 100000 in
set_option maxHeartbeats 400000 in
/-- IllLight$Coast.addShip(III)V -/
theorem E_X0_addShip_38 (h : PH) (q0 : Nat) (x1 : Int32) (x2 : Int32) (x3 : Int32) : pm_ev (3, 38, [vr 0 q0, vi x1, vi x2, vi x3], [], h) = (if pm_inb (h.1 0 q0 8) 4 = true then pm_ev (3, 48, [vr 0 q0, vi x1, vi x2, vi x3], [], (pm_sI h 15 q0 ((h.1 0 q0 8).toNatClampNeg) 0)) else none) := (ev_rc [18, 28, 38, 48] 120 _).trans rfl
set_option maxRecDepth 100000 in
set_option maxHeartbeats 400000 in
/-- IllLight$Coast.addShip(III)V -/
theorem E_X0_addShip_48 (h : PH) (q0 : Nat) (x1 : Int32) (x2 : Int32) (x3 : Int32) : pm_ev (3, 48, [vr 0 q0, vi x1, vi x2, vi x3], [], h) = some (none, (pm_sI h 0 q0 8 ((h.1 0 q0 8) + 1))) := (ev_rc [18, 28, 38, 48] 120 _).trans rfl
set_option maxRecDepth 100000 in
set_option maxHeartbeats 400000 in
/-- IllLight$Coast.addMan(III)V -/
theorem E_X0_addMan (h : PH) (o : Nat) (a : Int32) (b : Int32) (c : Int32) : pm_ev (4, 0, [vr 0 o, vi a, vi b, vi c, none, none], [], h) = (pm_bI (pm_ev (5, 0, [vr 0 o, vi ((h.1 0 o 8) - 1)], [], h)) fun r2 h1 => (if r2 = 0 then some (none, h1) else (if pm_inb ((h.1 0 o 8) - 1) 4 = true then (if h1.1 15 o (((h.1 0 o 8) - 1).toNatClampNeg) < 4 then (if pm_inb ((h.1 0 o 8) - 1) 4 = true then (if pm_inb ((4 * ((h.1 0 o 8) - 1)) + (h1.1 15 o (((h.1 0 o 8) - 1).toNatClampNeg))) 16 = true then pm_ev (4, 50, [vr 0 o, vi a, vi b, vi c, vi ((h.1 0 o 8) - 1), vi ((4 * ((h.1 0 o 8) - 1)) + (h1.1 15 o (((h.1 0 o 8) - 1).toNatClampNeg)))], [], (pm_sI h1 16 o (((4 * ((h.1 0 o 8) - 1)) + (h1.1 15 o (((h.1 0 o 8) - 1).toNatClampNeg))).toNatClampNeg) a)) else none) else none) else some (none, h1)) else none))) := (ev_rc [50, 58, 66] 120 _).trans rfl
set_option maxRecDepth 100000 in
set_option maxHeartbeats 400000 in
/-- IllLight$Coast.addMan(III)V -/
theorem E_X0_addMan_50 (h : PH) (q0 : Nat) (x1 : Int32) (x2 : Int32) (x3 : Int32) (x4 : Int32) (x5 : Int32) : pm_ev (4, 50, [vr 0 q0, vi x1, vi x2, vi x3, vi x4, vi x5], [], h) = (if pm_inb x5 16 = true then pm_ev (4, 58, [vr 0 q0, vi x1, vi x2, vi x3, vi x4, vi x5], [], (pm_sI h 17 q0 x5.toNatClampNeg x2)) else none) := (ev_rc [50, 58, 66] 120 _).trans rfl
set_option maxRecDepth 100000 in
set_option maxHeartbeats 400000 in
/-- IllLight$Coast.addMan(III)V -/
theorem E_X0_addMan_58 (h : PH) (q0 : Nat) (x1 : Int32) (x2 : Int32) (x3 : Int32) (x4 : Int32) (x5 : Int32) : pm_ev (4, 58, [vr 0 q0, vi x1, vi x2, vi x3, vi x4, vi x5], [], h) = (if pm_inb x5 16 = true then pm_ev (4, 66, [vr 0 q0, vi x1, vi x2, vi x3, vi x4, vi x5], [], (pm_sI h 18 q0 x5.toNatClampNeg x3)) else none) := (ev_rc [50, 58, 66] 120 _).trans rfl
set_option maxRecDepth 100000 in
set_option maxHeartbeats 400000 in
/-- IllLight$Coast.addMan(III)V -/
theorem E_X0_addMan_66 (h : PH) (q0 : Nat) (x1 : Int32) (x2 : Int32) (x3 : Int32) (x4 : Int32) (x5 : Int32) : pm_ev (4, 66, [vr 0 q0, vi x1, vi x2, vi x3, vi x4, vi x5], [], h) = (if pm_inb x4 4 = true then (if pm_inb x4 4 = true then some (none, (pm_sI h 15 q0 x4.toNatClampNeg ((h.1 15 q0 x4.toNatClampNeg) + 1))) else none) else none) := (ev_rc [50, 58, 66] 120 _).trans rfl
set_option maxRecDepth 100000 in
set_option maxHeartbeats 400000 in
/-- IllLight$Coast.hasShip(I)Z -/
theorem E_X0_hasShip (h : PH) (o : Nat) (a : Int32) : pm_ev (5, 0, [vr 0 o, vi a], [], h) = (if a < 0 then some (some (vi 0), h) else (if a < h.1 0 o 8 then some (some (vi 1), h) else some (some (vi 0), h))) := (ev_rc [] 120 _).trans rfl
set_option maxRecDepth 100000 in
set_option maxHeartbeats 400000 in
/-- IllLight$Coast.hasMan(II)Z -/
theorem E_X0_hasMan (h : PH) (o : Nat) (a : Int32) (b : Int32) : pm_ev (6, 0, [vr 0 o, vi a, vi b], [], h) = (if a < 0 then some (some (vi 0), h) else (if a < h.1 0 o 8 then (if b < 0 then some (some (vi 0), h) else (if pm_inb a 4 = true then (if b < h.1 15 o a.toNatClampNeg then some (some (vi 1), h) else some (some (vi 0), h)) else none)) else some (some (vi 0), h))) := (ev_rc [] 120 _).trans rfl
set_option maxRecDepth 100000 in
set_option maxHeartbeats 400000 in
/-- IllLight$Coast.cells()I -/
theorem E_X0_cells (h : PH) (o : Nat) : pm_ev (7, 0, [vr 0 o], [], h) = some (some (vi ((h.1 0 o 0) * (h.1 0 o 1))), h) := (ev_rc [] 120 _).trans rfl
set_option maxRecDepth 100000 in
set_option maxHeartbeats 400000 in
/-- IllLight$Coast.spotOf(I)I -/
theorem E_X0_spotOf (h : PH) (o : Nat) (a : Int32) : pm_ev (8, 0, [vr 0 o, vi a], [], h) = (if h.1 0 o 0 < 1 then some (some (vi (-1)), h) else (if a < 0 then some (some (vi (-1)), h) else (pm_bI (pm_ev (7, 0, [vr 0 o], [], h)) fun r2 h1 => (if a < r2 then (if h1.1 0 o 0 = 0 then none else (if h1.1 0 o 0 = 0 then none else some (some (vi (((a / (h1.1 0 o 0)) * 8) + (a - a / (h1.1 0 o 0) * (h1.1 0 o 0)))), h1))) else some (some (vi (-1)), h1))))) := (ev_rc [] 120 _).trans rfl
set_option maxRecDepth 100000 in
set_option maxHeartbeats 400000 in
/-- IllLight$Coast.cellOf(I)I -/
theorem E_X0_cellOf (h : PH) (o : Nat) (a : Int32) : pm_ev (9, 0, [vr 0 o, vi a], [], h) = (if a < 0 then some (some (vi (-1)), h) else some (some (vi (((a >>> ((3 : Int32) &&& 31)) * (h.1 0 o 0)) + (a &&& 7))), h)) := (ev_rc [] 120 _).trans rfl
set_option maxRecDepth 100000 in
set_option maxHeartbeats 400000 in
/-- IllLight$Coast.board()J -/
theorem E_X0_board (h : PH) (o : Nat) : pm_ev (10, 0, [vr 0 o, none, none, none, none, none], [], h) = pm_ev (10, 14, [vr 0 o, vl (((1 : Int64) <<< ((h.1 0 o 0).toInt64 &&& 63)) - 1), none, vl 0, none, vi 0], [], h) := (ev_rc [14] 120 _).trans rfl
set_option maxRecDepth 100000 in
set_option maxHeartbeats 400000 in
/-- IllLight$Coast.board()J -/
theorem E_X0_board_14 (h : PH) (q0 : Nat) (y1 : Int64) (y3 : Int64) (x5 : Int32) : pm_ev (10, 14, [vr 0 q0, vl y1, none, vl y3, none, vi x5], [], h) = (if x5 < h.1 0 q0 1 then pm_ev (10, 14, [vr 0 q0, vl y1, none, vl (y3 ||| (y1 <<< ((8 * x5).toInt64 &&& 63))), none, vi (x5 + 1)], [], h) else some (some (vl y3), h)) := (ev_rc [14] 120 _).trans rfl
set_option maxRecDepth 100000 in
set_option maxHeartbeats 400000 in
/-- IllLight$Coast.guarded()J -/
theorem E_X0_guarded (h : PH) (o : Nat) : pm_ev (11, 0, [vr 0 o, none, none, none, none, none], [], h) = (pm_bL (pm_ev (10, 0, [vr 0 o, none, none, none, none, none], [], h)) fun l2 h1 => pm_ev (11, 10, [vr 0 o, vl l2, none, vl 0, none, vi 0], [], h1)) := (ev_rc [10] 120 _).trans rfl
set_option maxRecDepth 100000 in
set_option maxHeartbeats 400000 in
/-- IllLight$Coast.guarded()J -/
theorem E_X0_guarded_10 (h : PH) (q0 : Nat) (y1 : Int64) (y3 : Int64) (x5 : Int32) : pm_ev (11, 10, [vr 0 q0, vl y1, none, vl y3, none, vi x5], [], h) = (if x5 < h.1 0 q0 5 then (if pm_inb x5 4 = true then (if pm_inb x5 4 = true then (pm_bL (pm_ev (93, 0, [vi (h.1 10 q0 x5.toNatClampNeg), vi (h.1 11 q0 x5.toNatClampNeg), vl y1, none, none, none, none], [], h)) fun l4 h3 => pm_ev (11, 10, [vr 0 q0, vl y1, none, vl (y3 ||| l4), none, vi (x5 + 1)], [], h3)) else none) else none) else some (some (vl y3), h)) := (ev_rc [10] 120 _).trans rfl
set_option maxRecDepth 100000 in
set_option maxHeartbeats 400000 in
/-- IllLight$Coast.told(I)I -/
theorem E_X0_told (h : PH) (o : Nat) (a : Int32) : pm_ev (12, 0, [vr 0 o, vi a], [], h) = (if a = 0 then some (some (vi (h.1 0 o 0)), h) else (if a = 1 then some (some (vi (h.1 0 o 1)), h) else (if a = 2 then (pm_bI (pm_ev (9, 0, [vr 0 o, vi (h.1 0 o 2)], [], h)) fun r6 h5 => some (some (vi r6), h5)) else (if a = 3 then some (some (vi (h.1 0 o 3)), h) else (if a = 4 then some (some (vi (h.1 0 o 5)), h) else (if a = 5 then some (some (vi (h.1 0 o 8)), h) else (if a < 10 then some (some (vi (-1)), h) else (if a < 100 then (pm_bI (pm_ev (13, 0, [vr 0 o, vi (a / 10), vi (a - a / 10 * 10)], [], h)) fun r2 h1 => some (some (vi r2), h1)) else (pm_bI (pm_ev (14, 0, [vr 0 o, vi (a - 100), none], [], h)) fun r4 h3 => some (some (vi r4), h3)))))))))) := (ev_rc [] 120 _).trans rfl
set_option maxRecDepth 100000 in
set_option maxHeartbeats 400000 in
/-- IllLight$Coast.toldOfOne(II)I -/
theorem E_X0_toldOfOne (h : PH) (o : Nat) (a : Int32) (b : Int32) : pm_ev (13, 0, [vr 0 o, vi a, vi b], [], h) = (if a = 1 then pm_ev (13, 10, [vr 0 o, vi a, vi b], [], h) else (if a = 2 then pm_ev (13, 10, [vr 0 o, vi a, vi b], [], h) else (pm_bI (pm_ev (5, 0, [vr 0 o, vi b], [], h)) fun r2 h1 => (if r2 = 0 then some (some (vi (-1)), h1) else (if a = 3 then (if pm_inb b 4 = true then (pm_bI (pm_ev (9, 0, [vr 0 o, vi (h1.1 12 o b.toNatClampNeg)], [], h1)) fun r4 h3 => some (some (vi r4), h3)) else none) else (if a = 4 then (if pm_inb b 4 = true then some (some (vi (h1.1 13 o b.toNatClampNeg)), h1) else none) else (if a = 5 then (if pm_inb b 4 = true then some (some (vi (h1.1 14 o b.toNatClampNeg)), h1) else none) else (if a = 6 then (if pm_inb b 4 = true then some (some (vi (h1.1 15 o b.toNatClampNeg)), h1) else none) else some (some (vi (-1)), h1))))))))) := (ev_rc [10, 44] 120 _).trans rfl
set_option maxRecDepth 100000 in
set_option maxHeartbeats 400000 in
/-- IllLight$Coast.toldOfOne(II)I -/
theorem E_X0_toldOfOne_10 (h : PH) (q0 : Nat) (x1 : Int32) (x2 : Int32) : pm_ev (13, 10, [vr 0 q0, vi x1, vi x2], [], h) = (if x2 < h.1 0 q0 5 then (if x1 = 1 then (if pm_inb x2 4 = true then (pm_bI (pm_ev (9, 0, [vr 0 q0, vi (h.1 10 q0 x2.toNatClampNeg)], [], h)) fun r6 h5 => pm_ev (13, 44, [none, none, none], [vi r6], h5)) else none) else (if pm_inb x2 4 = true then pm_ev (13, 44, [none, none, none], [vi (h.1 11 q0 x2.toNatClampNeg)], h) else none)) else some (some (vi (-1)), h)) := (ev_rc [10, 44] 120 _).trans rfl
set_option maxRecDepth 100000 in
set_option maxHeartbeats 400000 in
/-- IllLight$Coast.toldOfOne(II)I -/
theorem E_X0_toldOfOne_44 (h : PH) (s0 : Int32) : pm_ev (13, 44, [none, none, none], [vi s0], h) = some (some (vi s0), h) := (ev_rc [10, 44] 120 _).trans rfl
set_option maxRecDepth 100000 in
set_option maxHeartbeats 400000 in
/-- IllLight$Coast.toldOfRock(I)I -/
theorem E_X0_toldOfRock (h : PH) (o : Nat) (a : Int32) : pm_ev (14, 0, [vr 0 o, vi a, none], [], h) = (pm_bI (pm_ev (8, 0, [vr 0 o, vi a], [], h)) fun r2 h1 => (if r2 = (-1) then some (some (vi (-1)), h1) else (if lg_cmp ((((h1.2 0 o 4).toUInt64 >>> (r2.toInt64.toUInt64 &&& Int64.toUInt64 63)).toInt64) &&& 1) 0 = 0 then some (some (vi 0), h1) else some (some (vi 1), h1)))) := (ev_rc [] 120 _).trans rfl
set_option maxRecDepth 100000 in
set_option maxHeartbeats 400000 in
/-- IllLight$Coast.meant(III)I -/
theorem E_X0_meant (h : PH) (o : Nat) (a : Int32) (b : Int32) (c : Int32) : pm_ev (15, 0, [vr 0 o, vi a, vi b, vi c, none, none], [], h) = (if a < 0 then pm_ev (15, 26, [none, none, none, none, none, none], [], h) else (if a < h.1 0 o 8 then (if b < 0 then pm_ev (15, 26, [none, none, none, none, none, none], [], h) else (if pm_inb a 4 = true then (if b < h.1 15 o a.toNatClampNeg then pm_ev (15, 28, [vr 0 o, vi a, vi b, vi c, none, none], [], h) else pm_ev (15, 26, [none, none, none, none, none, none], [], h)) else none)) else pm_ev (15, 26, [none, none, none, none, none, none], [], h))) := (ev_rc [26, 28, 51, 55, 64, 104, 112, 133, 134, 135, 151, 152, 153, 188, 192, 193, 194] 120 _).trans rfl
set_option maxRecDepth 100000 in
set_option maxHeartbeats 400000 in
/-- IllLight$Coast.meant(III)I -/
theorem E_X0_meant_26 (h : PH)  : pm_ev (15, 26, [none, none, none, none, none, none], [], h) = some (some (vi 0), h) := (ev_rc [26, 28, 51, 55, 64, 104, 112, 133, 134, 135, 151, 152, 153, 188, 192, 193, 194] 120 _).trans rfl
set_option maxRecDepth 100000 in
set_option maxHeartbeats 400000 in
/-- IllLight$Coast.meant(III)I -/
theorem E_X0_meant_28 (h : PH) (q0 : Nat) (x1 : Int32) (x2 : Int32) (x3 : Int32) : pm_ev (15, 28, [vr 0 q0, vi x1, vi x2, vi x3, none, none], [], h) = (if pm_inb ((4 * x1) + x2) 16 = true then (if h.1 16 q0 (((4 * x1) + x2).toNatClampNeg) = 1 then pm_ev (15, 55, [vr 0 q0, none, none, vi x3, none, none], [vi (4 * x1)], h) else pm_ev (15, 51, [vr 0 q0, none, vi x2, vi x3, vi (4 * x1), none], [], h)) else none) := (ev_rc [26, 28, 51, 55, 64, 104, 112, 133, 134, 135, 151, 152, 153, 188, 192, 193, 194] 120 _).trans rfl
set_option maxRecDepth 100000 in
set_option maxHeartbeats 400000 in
/-- IllLight$Coast.meant(III)I -/
theorem E_X0_meant_55 (h : PH) (q0 : Nat) (x3 : Int32) (s0 : Int32) : pm_ev (15, 55, [vr 0 q0, none, none, vi x3, none, none], [vi s0], h) = (if pm_inb s0 16 = true then pm_ev (15, 64, [vr 0 q0, none, none, vi x3, none, vi s0], [vi (h.1 16 q0 s0.toNatClampNeg)], h) else none) := (ev_rc [26, 28, 51, 55, 64, 104, 112, 133, 134, 135, 151, 152, 153, 188, 192, 193, 194] 120 _).trans rfl
set_option maxRecDepth 100000 in
set_option maxHeartbeats 400000 in
/-- IllLight$Coast.meant(III)I -/
theorem E_X0_meant_51 (h : PH) (q0 : Nat) (x2 : Int32) (x3 : Int32) (x4 : Int32) : pm_ev (15, 51, [vr 0 q0, none, vi x2, vi x3, vi x4, none], [], h) = pm_ev (15, 55, [vr 0 q0, none, none, vi x3, none, none], [vi (x4 + x2)], h) := (ev_rc [26, 28, 51, 55, 64, 104, 112, 133, 134, 135, 151, 152, 153, 188, 192, 193, 194] 120 _).trans rfl
set_option maxRecDepth 100000 in
set_option maxHeartbeats 400000 in
/-- IllLight$Coast.meant(III)I -/
theorem E_X0_meant_64 (h : PH) (q0 : Nat) (x3 : Int32) (x5 : Int32) (s0 : Int32) : pm_ev (15, 64, [vr 0 q0, none, none, vi x3, none, vi x5], [vi s0], h) = (if s0 = 0 then pm_ev (15, 104, [vr 0 q0, none, none, none, none, vi x5], [], h) else (if s0 = 1 then pm_ev (15, 194, [none, none, none, none, none, none], [], h) else (if s0 = 2 then pm_ev (15, 112, [vr 0 q0, none, none, vi x3, none, vi x5], [], h) else (if s0 = 3 then pm_ev (15, 135, [vr 0 q0, none, none, vi x3, none, vi x5], [], h) else (if s0 = 4 then pm_ev (15, 194, [none, none, none, none, none, none], [], h) else (if s0 = 5 then pm_ev (15, 153, [vr 0 q0, none, none, none, none, vi x5], [], h) else pm_ev (15, 194, [none, none, none, none, none, none], [], h))))))) := (ev_rc [26, 28, 51, 55, 64, 104, 112, 133, 134, 135, 151, 152, 153, 188, 192, 193, 194] 120 _).trans rfl
set_option maxRecDepth 100000 in
set_option maxHeartbeats 400000 in
/-- IllLight$Coast.meant(III)I -/
theorem E_X0_meant_194 (h : PH)  : pm_ev (15, 194, [none, none, none, none, none, none], [], h) = some (some (vi 0), h) := (ev_rc [26, 28, 51, 55, 64, 104, 112, 133, 134, 135, 151, 152, 153, 188, 192, 193, 194] 120 _).trans rfl
set_option maxRecDepth 100000 in
set_option maxHeartbeats 400000 in
/-- IllLight$Coast.meant(III)I -/
theorem E_X0_meant_153 (h : PH) (q0 : Nat) (x5 : Int32) : pm_ev (15, 153, [vr 0 q0, none, none, none, none, vi x5], [], h) = (if pm_inb x5 16 = true then (if h.1 17 q0 x5.toNatClampNeg < 0 then pm_ev (15, 192, [none, none, none, none, none, none], [], h) else (if pm_inb x5 16 = true then (if h.1 17 q0 x5.toNatClampNeg < h.1 0 q0 8 then (if pm_inb x5 16 = true then pm_ev (15, 188, [vr 0 q0, none, none, none, none, vi x5], [vi (h.1 17 q0 x5.toNatClampNeg), vr 13 q0], h) else none) else pm_ev (15, 192, [none, none, none, none, none, none], [], h)) else none)) else none) := (ev_rc [26, 28, 51, 55, 64, 104, 112, 133, 134, 135, 151, 152, 153, 188, 192, 193, 194] 120 _).trans rfl
set_option maxRecDepth 100000 in
set_option maxHeartbeats 400000 in
/-- IllLight$Coast.meant(III)I -/
theorem E_X0_meant_135 (h : PH) (q0 : Nat) (x3 : Int32) (x5 : Int32) : pm_ev (15, 135, [vr 0 q0, none, none, vi x3, none, vi x5], [], h) = (if x3 - x3 / 2 * 2 = 0 then (if pm_inb x5 16 = true then pm_ev (15, 152, [none, none, none, none, none, none], [vi (h.1 17 q0 x5.toNatClampNeg)], h) else none) else pm_ev (15, 151, [none, none, none, none, none, none], [], h)) := (ev_rc [26, 28, 51, 55, 64, 104, 112, 133, 134, 135, 151, 152, 153, 188, 192, 193, 194] 120 _).trans rfl
set_option maxRecDepth 100000 in
set_option maxHeartbeats 400000 in
/-- IllLight$Coast.meant(III)I -/
theorem E_X0_meant_112 (h : PH) (q0 : Nat) (x3 : Int32) (x5 : Int32) : pm_ev (15, 112, [vr 0 q0, none, none, vi x3, none, vi x5], [], h) = (if pm_inb x5 16 = true then (if x3 < h.1 18 q0 x5.toNatClampNeg then (if pm_inb x5 16 = true then pm_ev (15, 134, [none, none, none, none, none, none], [vi (h.1 17 q0 x5.toNatClampNeg)], h) else none) else pm_ev (15, 133, [none, none, none, none, none, none], [], h)) else none) := (ev_rc [26, 28, 51, 55, 64, 104, 112, 133, 134, 135, 151, 152, 153, 188, 192, 193, 194] 120 _).trans rfl
set_option maxRecDepth 100000 in
set_option maxHeartbeats 400000 in
/-- IllLight$Coast.meant(III)I -/
theorem E_X0_meant_104 (h : PH) (q0 : Nat) (x5 : Int32) : pm_ev (15, 104, [vr 0 q0, none, none, none, none, vi x5], [], h) = (if pm_inb x5 16 = true then some (some (vi (h.1 17 q0 x5.toNatClampNeg)), h) else none) := (ev_rc [26, 28, 51, 55, 64, 104, 112, 133, 134, 135, 151, 152, 153, 188, 192, 193, 194] 120 _).trans rfl
set_option maxRecDepth 100000 in
set_option maxHeartbeats 400000 in
/-- IllLight$Coast.meant(III)I -/
theorem E_X0_meant_192 (h : PH)  : pm_ev (15, 192, [none, none, none, none, none, none], [], h) = pm_ev (15, 193, [none, none, none, none, none, none], [vi 0], h) := (ev_rc [26, 28, 51, 55, 64, 104, 112, 133, 134, 135, 151, 152, 153, 188, 192, 193, 194] 120 _).trans rfl
set_option maxRecDepth 100000 in
set_option maxHeartbeats 400000 in
/-- IllLight$Coast.meant(III)I -/
theorem E_X0_meant_188 (h : PH) (q0 : Nat) (x5 : Int32) (s0 : Int32) (s1 : Nat) : pm_ev (15, 188, [vr 0 q0, none, none, none, none, vi x5], [vi s0, vr 13 s1], h) = (if pm_inb s0 4 = true then pm_ev (15, 193, [none, none, none, none, none, none], [vi (h.1 13 s1 s0.toNatClampNeg)], h) else none) := (ev_rc [26, 28, 51, 55, 64, 104, 112, 133, 134, 135, 151, 152, 153, 188, 192, 193, 194] 120 _).trans rfl
set_option maxRecDepth 100000 in
set_option maxHeartbeats 400000 in
/-- IllLight$Coast.meant(III)I -/
theorem E_X0_meant_152 (h : PH) (s0 : Int32) : pm_ev (15, 152, [none, none, none, none, none, none], [vi s0], h) = some (some (vi s0), h) := (ev_rc [26, 28, 51, 55, 64, 104, 112, 133, 134, 135, 151, 152, 153, 188, 192, 193, 194] 120 _).trans rfl
set_option maxRecDepth 100000 in
set_option maxHeartbeats 400000 in
/-- IllLight$Coast.meant(III)I -/
theorem E_X0_meant_151 (h : PH)  : pm_ev (15, 151, [none, none, none, none, none, none], [], h) = pm_ev (15, 152, [none, none, none, none, none, none], [vi 0], h) := (ev_rc [26, 28, 51, 55, 64, 104, 112, 133, 134, 135, 151, 152, 153, 188, 192, 193, 194] 120 _).trans rfl
set_option maxRecDepth 100000 in
set_option maxHeartbeats 400000 in
/-- IllLight$Coast.meant(III)I -/
theorem E_X0_meant_134 (h : PH) (s0 : Int32) : pm_ev (15, 134, [none, none, none, none, none, none], [vi s0], h) = some (some (vi s0), h) := (ev_rc [26, 28, 51, 55, 64, 104, 112, 133, 134, 135, 151, 152, 153, 188, 192, 193, 194] 120 _).trans rfl
set_option maxRecDepth 100000 in
set_option maxHeartbeats 400000 in
/-- IllLight$Coast.meant(III)I -/
theorem E_X0_meant_133 (h : PH)  : pm_ev (15, 133, [none, none, none, none, none, none], [], h) = pm_ev (15, 134, [none, none, none, none, none, none], [vi 0], h) := (ev_rc [26, 28, 51, 55, 64, 104, 112, 133, 134, 135, 151, 152, 153, 188, 192, 193, 194] 120 _).trans rfl
set_option maxRecDepth 100000 in
set_option maxHeartbeats 400000 in
/-- IllLight$Coast.meant(III)I -/
theorem E_X0_meant_193 (h : PH) (s0 : Int32) : pm_ev (15, 193, [none, none, none, none, none, none], [vi s0], h) = some (some (vi s0), h) := (ev_rc [26, 28, 51, 55, 64, 104, 112, 133, 134, 135, 151, 152, 153, 188, 192, 193, 194] 120 _).trans rfl
set_option maxRecDepth 100000 in
set_option maxHeartbeats 400000 in
/-- IllLight$Coast.harm(II)I -/
theorem E_X0_harm (h : PH) (o : Nat) (a : Int32) (b : Int32) : pm_ev (16, 0, [vr 0 o, vi a, vi b, none, none], [], h) = (pm_bI (pm_ev (5, 0, [vr 0 o, vi a], [], h)) fun r2 h1 => (if r2 = 0 then some (some (vi 0), h1) else (if pm_inb a 4 = true then (if pm_inb a 4 = true then pm_ev (16, 29, [vr 0 o, vi a, vi b, vi ((h1.1 13 o a.toNatClampNeg) - (2 * (h1.1 14 o a.toNatClampNeg))), vi 0], [], h1) else none) else none))) := (ev_rc [29] 120 _).trans rfl
set_option maxRecDepth 100000 in
set_option maxHeartbeats 400000 in
/-- IllLight$Coast.harm(II)I -/
theorem E_X0_harm_29 (h : PH) (q0 : Nat) (x1 : Int32) (x2 : Int32) (x3 : Int32) (x4 : Int32) : pm_ev (16, 29, [vr 0 q0, vi x1, vi x2, vi x3, vi x4], [], h) = (if pm_inb x1 4 = true then (if x4 < h.1 15 q0 x1.toNatClampNeg then (pm_bI (pm_ev (15, 0, [vr 0 q0, vi x1, vi x4, vi x2, none, none], [], h)) fun r4 h3 => pm_ev (16, 29, [vr 0 q0, vi x1, vi x2, vi (x3 + r4), vi (x4 + 1)], [], h3)) else some (some (vi (if x3 < (0 : Int32) then 0 else x3)), h)) else none) := (ev_rc [29] 120 _).trans rfl
set_option maxRecDepth 100000 in
set_option maxHeartbeats 400000 in
/-- IllLight$Coast.glow(II)I -/
theorem E_X0_glow (h : PH) (o : Nat) (a : Int32) (b : Int32) : pm_ev (17, 0, [vr 0 o, vi a, vi b, none], [], h) = (pm_bI (pm_ev (5, 0, [vr 0 o, vi a], [], h)) fun r2 h1 => (if r2 = 0 then some (some (vi 0), h1) else (pm_bI (pm_ev (16, 0, [vr 0 o, vi a, vi b, none, none], [], h1)) fun r4 h3 => (if r4 < h3.1 0 o 3 then some (some (vi 0), h3) else pm_ev (17, 25, [vr 0 o, vi a, vi b, vi 0], [], h3))))) := (ev_rc [25] 120 _).trans rfl
set_option maxRecDepth 100000 in
set_option maxHeartbeats 400000 in
/-- IllLight$Coast.glow(II)I -/
theorem E_X0_glow_25 (h : PH) (q0 : Nat) (x1 : Int32) (x2 : Int32) (x3 : Int32) : pm_ev (17, 25, [vr 0 q0, vi x1, vi x2, vi x3], [], h) = (if pm_inb x1 4 = true then (if x3 < h.1 15 q0 x1.toNatClampNeg then (if pm_inb ((4 * x1) + x3) 16 = true then (if h.1 16 q0 (((4 * x1) + x3).toNatClampNeg) = 4 then pm_ev (17, 25, [vr 0 q0, vi x1, vi x2, vi (x3 + 1)], [], h) else (pm_bI (pm_ev (15, 0, [vr 0 q0, vi x1, vi x3, vi x2, none, none], [], h)) fun r6 h5 => (if r6 = 0 then some (some (vi 1), h5) else pm_ev (17, 25, [vr 0 q0, vi x1, vi x2, vi (x3 + 1)], [], h5)))) else none) else some (some (vi 2), h)) else none) := (ev_rc [25] 120 _).trans rfl
set_option maxRecDepth 100000 in
set_option maxHeartbeats 400000 in
/-- IllLight$Coast.isLit(II)Z -/
theorem E_X0_isLit (h : PH) (a : Int32) (b : Int32) : pm_ev (18, 0, [vi a, vi b], [], h) = (if a = 2 then some (some (vi 1), h) else (if a = 1 then (if b - b / 2 * 2 = 0 then some (some (vi 1), h) else some (some (vi 0), h)) else some (some (vi 0), h))) := (ev_rc [] 120 _).trans rfl
set_option maxRecDepth 100000 in
set_option maxHeartbeats 400000 in
/-- IllLight$Coast.hoursOf(II)I -/
theorem E_X0_hoursOf (h : PH) (o : Nat) (a : Int32) (b : Int32) : pm_ev (19, 0, [vr 0 o, vi a, vi b, none, none], [], h) = pm_ev (19, 5, [vr 0 o, vi a, vi b, vi 0, vi 0], [], h) := (ev_rc [5] 120 _).trans rfl
set_option maxRecDepth 100000 in
set_option maxHeartbeats 400000 in
/-- IllLight$Coast.hoursOf(II)I -/
theorem E_X0_hoursOf_5 (h : PH) (q0 : Nat) (x1 : Int32) (x2 : Int32) (x3 : Int32) (x4 : Int32) : pm_ev (19, 5, [vr 0 q0, vi x1, vi x2, vi x3, vi x4], [], h) = (if x4 < 24 then (pm_bI (pm_ev (17, 0, [vr 0 q0, vi x1, vi x4, none], [], h)) fun r2 h1 => (if r2 = x2 then pm_ev (19, 5, [vr 0 q0, vi x1, vi x2, vi (x3 ||| ((1 : Int32) <<< (x4 &&& 31))), vi (x4 + 1)], [], h1) else pm_ev (19, 5, [vr 0 q0, vi x1, vi x2, vi x3, vi (x4 + 1)], [], h1))) else some (some (vi x3), h)) := (ev_rc [5] 120 _).trans rfl
set_option maxRecDepth 100000 in
set_option maxHeartbeats 400000 in
/-- IllLight$Coast.litHours(I)I -/
theorem E_X0_litHours (h : PH) (o : Nat) (a : Int32) : pm_ev (20, 0, [vr 0 o, vi a, none, none], [], h) = pm_ev (20, 4, [vr 0 o, vi a, vi 0, vi 0], [], h) := (ev_rc [4] 120 _).trans rfl
set_option maxRecDepth 100000 in
set_option maxHeartbeats 400000 in
/-- IllLight$Coast.litHours(I)I -/
theorem E_X0_litHours_4 (h : PH) (q0 : Nat) (x1 : Int32) (x2 : Int32) (x3 : Int32) : pm_ev (20, 4, [vr 0 q0, vi x1, vi x2, vi x3], [], h) = (if x3 < 24 then (pm_bI (pm_ev (17, 0, [vr 0 q0, vi x1, vi x3, none], [], h)) fun r2 h1 => (pm_bI (pm_ev (18, 0, [vi r2, vi x3], [], h1)) fun r4 h3 => (if r4 = 0 then pm_ev (20, 4, [vr 0 q0, vi x1, vi x2, vi (x3 + 1)], [], h3) else pm_ev (20, 4, [vr 0 q0, vi x1, vi (x2 ||| ((1 : Int32) <<< (x3 &&& 31))), vi (x3 + 1)], [], h3)))) else some (some (vi x2), h)) := (ev_rc [4] 120 _).trans rfl
set_option maxRecDepth 100000 in
set_option maxHeartbeats 400000 in
/-- IllLight$Coast.worstHour(I)I -/
theorem E_X0_worstHour (h : PH) (o : Nat) (a : Int32) : pm_ev (21, 0, [vr 0 o, vi a, none, none], [], h) = pm_ev (21, 4, [vr 0 o, vi a, vi 0, vi 1], [], h) := (ev_rc [4] 120 _).trans rfl
set_option maxRecDepth 100000 in
set_option maxHeartbeats 400000 in
/-- IllLight$Coast.worstHour(I)I -/
theorem E_X0_worstHour_4 (h : PH) (q0 : Nat) (x1 : Int32) (x2 : Int32) (x3 : Int32) : pm_ev (21, 4, [vr 0 q0, vi x1, vi x2, vi x3], [], h) = (if x3 < 24 then (pm_bI (pm_ev (16, 0, [vr 0 q0, vi x1, vi x3, none, none], [], h)) fun r2 h1 => (pm_bI (pm_ev (16, 0, [vr 0 q0, vi x1, vi x2, none, none], [], h1)) fun r4 h3 => (if r4 < r2 then pm_ev (21, 4, [vr 0 q0, vi x1, vi x3, vi (x3 + 1)], [], h3) else pm_ev (21, 4, [vr 0 q0, vi x1, vi x2, vi (x3 + 1)], [], h3)))) else some (some (vi x2), h)) := (ev_rc [4] 120 _).trans rfl
set_option maxRecDepth 100000 in
set_option maxHeartbeats 400000 in
/-- IllLight$Coast.mutineers(II)I -/
theorem E_X0_mutineers (h : PH) (o : Nat) (a : Int32) (b : Int32) : pm_ev (22, 0, [vr 0 o, vi a, vi b, none, none], [], h) = pm_ev (22, 5, [vr 0 o, vi a, vi b, vi 0, vi 1], [], h) := (ev_rc [5] 120 _).trans rfl
set_option maxRecDepth 100000 in
set_option maxHeartbeats 400000 in
/-- IllLight$Coast.mutineers(II)I -/
theorem E_X0_mutineers_5 (h : PH) (q0 : Nat) (x1 : Int32) (x2 : Int32) (x3 : Int32) (x4 : Int32) : pm_ev (22, 5, [vr 0 q0, vi x1, vi x2, vi x3, vi x4], [], h) = (if x4 < 4 then (pm_bI (pm_ev (6, 0, [vr 0 q0, vi x1, vi x4], [], h)) fun r2 h1 => (if r2 = 0 then some (some (vi x3), h1) else (pm_bI (pm_ev (15, 0, [vr 0 q0, vi x1, vi x4, vi x2, none, none], [], h1)) fun r4 h3 => (pm_bI (pm_ev (15, 0, [vr 0 q0, vi x1, vi 0, vi x2, none, none], [], h3)) fun r6 h5 => (if r6 < r4 then pm_ev (22, 5, [vr 0 q0, vi x1, vi x2, vi (x3 ||| ((1 : Int32) <<< (x4 &&& 31))), vi (x4 + 1)], [], h5) else pm_ev (22, 5, [vr 0 q0, vi x1, vi x2, vi x3, vi (x4 + 1)], [], h5)))))) else some (some (vi x3), h)) := (ev_rc [5] 120 _).trans rfl
set_option maxRecDepth 100000 in
set_option maxHeartbeats 400000 in
/-- IllLight$Coast.worstMan(II)I -/
theorem E_X0_worstMan (h : PH) (o : Nat) (a : Int32) (b : Int32) : pm_ev (23, 0, [vr 0 o, vi a, vi b, none, none], [], h) = pm_ev (23, 5, [vr 0 o, vi a, vi b, vi 0, vi 1], [], h) := (ev_rc [5] 120 _).trans rfl
set_option maxRecDepth 100000 in
set_option maxHeartbeats 400000 in
/-- IllLight$Coast.worstMan(II)I -/
theorem E_X0_worstMan_5 (h : PH) (q0 : Nat) (x1 : Int32) (x2 : Int32) (x3 : Int32) (x4 : Int32) : pm_ev (23, 5, [vr 0 q0, vi x1, vi x2, vi x3, vi x4], [], h) = (if x4 < 4 then (pm_bI (pm_ev (6, 0, [vr 0 q0, vi x1, vi x4], [], h)) fun r2 h1 => (if r2 = 0 then some (some (vi x3), h1) else (pm_bI (pm_ev (15, 0, [vr 0 q0, vi x1, vi x4, vi x2, none, none], [], h1)) fun r4 h3 => (pm_bI (pm_ev (15, 0, [vr 0 q0, vi x1, vi x3, vi x2, none, none], [], h3)) fun r6 h5 => (if r6 < r4 then pm_ev (23, 5, [vr 0 q0, vi x1, vi x2, vi x4, vi (x4 + 1)], [], h5) else pm_ev (23, 5, [vr 0 q0, vi x1, vi x2, vi x3, vi (x4 + 1)], [], h5)))))) else some (some (vi x3), h)) := (ev_rc [5] 120 _).trans rfl
set_option maxRecDepth 100000 in
set_option maxHeartbeats 400000 in
/-- IllLight$Coast.side(I)I -/
theorem E_X0_side (h : PH) (o : Nat) (a : Int32) : pm_ev (24, 0, [vr 0 o, vi a, none, none], [], h) = (if pm_inb a 4 = true then (if pm_inb a 4 = true then (if ((h.1 12 o a.toNatClampNeg) &&& 7) - ((h.1 0 o 2) &&& 7) = 0 then (if ((h.1 12 o a.toNatClampNeg) >>> ((3 : Int32) &&& 31)) - ((h.1 0 o 2) >>> ((3 : Int32) &&& 31)) = 0 then (if ((h.1 12 o a.toNatClampNeg) >>> ((3 : Int32) &&& 31)) - ((h.1 0 o 2) >>> ((3 : Int32) &&& 31)) = 0 then (if ((h.1 12 o a.toNatClampNeg) &&& 7) - ((h.1 0 o 2) &&& 7) = 0 then pm_ev (24, 70, [none, none, none, none], [], h) else pm_ev (24, 60, [none, none, vi (((h.1 12 o a.toNatClampNeg) &&& 7) - ((h.1 0 o 2) &&& 7)), vi (((h.1 12 o a.toNatClampNeg) >>> ((3 : Int32) &&& 31)) - ((h.1 0 o 2) >>> ((3 : Int32) &&& 31)))], [], h)) else pm_ev (24, 70, [none, none, none, none], [], h)) else (if (0 : Int32) < ((h.1 12 o a.toNatClampNeg) >>> ((3 : Int32) &&& 31)) - ((h.1 0 o 2) >>> ((3 : Int32) &&& 31)) then some (some (vi 2), h) else some (some (vi 0), h))) else (if ((h.1 12 o a.toNatClampNeg) >>> ((3 : Int32) &&& 31)) - ((h.1 0 o 2) >>> ((3 : Int32) &&& 31)) = 0 then (if ((h.1 12 o a.toNatClampNeg) &&& 7) - ((h.1 0 o 2) &&& 7) = 0 then pm_ev (24, 70, [none, none, none, none], [], h) else pm_ev (24, 60, [none, none, vi (((h.1 12 o a.toNatClampNeg) &&& 7) - ((h.1 0 o 2) &&& 7)), vi (((h.1 12 o a.toNatClampNeg) >>> ((3 : Int32) &&& 31)) - ((h.1 0 o 2) >>> ((3 : Int32) &&& 31)))], [], h)) else pm_ev (24, 70, [none, none, none, none], [], h))) else none) else none) := (ev_rc [60, 70] 120 _).trans rfl
set_option maxRecDepth 100000 in
set_option maxHeartbeats 400000 in
/-- IllLight$Coast.side(I)I -/
theorem E_X0_side_70 (h : PH)  : pm_ev (24, 70, [none, none, none, none], [], h) = some (some (vi (-1)), h) := (ev_rc [60, 70] 120 _).trans rfl
set_option maxRecDepth 100000 in
set_option maxHeartbeats 400000 in
/-- IllLight$Coast.side(I)I -/
theorem E_X0_side_60 (h : PH) (x2 : Int32) (x3 : Int32) : pm_ev (24, 60, [none, none, vi x2, vi x3], [], h) = (if (0 : Int32) < x2 then some (some (vi 1), h) else some (some (vi 3), h)) := (ev_rc [60, 70] 120 _).trans rfl
set_option maxRecDepth 100000 in
set_option maxHeartbeats 400000 in
/-- IllLight$Coast.fromLamp(I)I -/
theorem E_X0_fromLamp (h : PH) (o : Nat) (a : Int32) : pm_ev (25, 0, [vr 0 o, vi a], [], h) = (if pm_inb a 4 = true then (if pm_inb a 4 = true then some (some (vi ((if (0 : Int32) ≤ ((h.1 12 o a.toNatClampNeg) &&& 7) - ((h.1 0 o 2) &&& 7) then ((h.1 12 o a.toNatClampNeg) &&& 7) - ((h.1 0 o 2) &&& 7) else (0 : Int32) - (((h.1 12 o a.toNatClampNeg) &&& 7) - ((h.1 0 o 2) &&& 7))) + (if (0 : Int32) ≤ ((h.1 12 o a.toNatClampNeg) >>> ((3 : Int32) &&& 31)) - ((h.1 0 o 2) >>> ((3 : Int32) &&& 31)) then ((h.1 12 o a.toNatClampNeg) >>> ((3 : Int32) &&& 31)) - ((h.1 0 o 2) >>> ((3 : Int32) &&& 31)) else (0 : Int32) - (((h.1 12 o a.toNatClampNeg) >>> ((3 : Int32) &&& 31)) - ((h.1 0 o 2) >>> ((3 : Int32) &&& 31)))))), h) else none) else none) := (ev_rc [] 120 _).trans rfl
set_option maxRecDepth 100000 in
set_option maxHeartbeats 400000 in
/-- IllLight$Coast.shaded(I)I -/
theorem E_X0_shaded (h : PH) (o : Nat) (a : Int32) : pm_ev (26, 0, [vr 0 o, vi a], [], h) = (pm_bI (pm_ev (24, 0, [vr 0 o, vi a, none, none], [], h)) fun r2 h1 => (if r2 = 0 then (if pm_inb a 4 = true then some (some (vi ((h1.1 12 o a.toNatClampNeg) >>> ((3 : Int32) &&& 31))), h1) else none) else (if r2 = 1 then (if pm_inb a 4 = true then some (some (vi (((h1.1 0 o 0) - 1) - ((h1.1 12 o a.toNatClampNeg) &&& 7))), h1) else none) else (if r2 = 2 then (if pm_inb a 4 = true then some (some (vi (((h1.1 0 o 1) - 1) - ((h1.1 12 o a.toNatClampNeg) >>> ((3 : Int32) &&& 31)))), h1) else none) else (if r2 = 3 then (if pm_inb a 4 = true then some (some (vi ((h1.1 12 o a.toNatClampNeg) &&& 7)), h1) else none) else some (some (vi 0), h1)))))) := (ev_rc [] 120 _).trans rfl
set_option maxRecDepth 100000 in
set_option maxHeartbeats 400000 in
/-- IllLight$Coast.makePlain(III)V -/
theorem E_X0_makePlain (h : PH) (o : Nat) (a : Int32) (b : Int32) (c : Int32) : pm_ev (27, 0, [vr 0 o, vi a, vi b, vi c], [], h) = (pm_bI (pm_ev (6, 0, [vr 0 o, vi a, vi b], [], h)) fun r2 h1 => (if r2 = 0 then some (none, h1) else (if pm_inb ((4 * a) + b) 16 = true then pm_ev (27, 20, [vr 0 o, vi a, vi b, vi c], [], (pm_sI h1 16 o (((4 * a) + b).toNatClampNeg) 0)) else none))) := (ev_rc [20] 120 _).trans rfl
set_option maxRecDepth 100000 in
set_option maxHeartbeats 400000 in
/-- IllLight$Coast.makePlain(III)V -/
theorem E_X0_makePlain_20 (h : PH) (q0 : Nat) (x1 : Int32) (x2 : Int32) (x3 : Int32) : pm_ev (27, 20, [vr 0 q0, vi x1, vi x2, vi x3], [], h) = (if pm_inb ((4 * x1) + x2) 16 = true then some (none, (pm_sI h 17 q0 (((4 * x1) + x2).toNatClampNeg) x3)) else none) := (ev_rc [20] 120 _).trans rfl
set_option maxRecDepth 100000 in
set_option maxHeartbeats 400000 in
/-- IllLight$Coast.lull(II)V -/
theorem E_X0_lull (h : PH) (o : Nat) (a : Int32) (b : Int32) : pm_ev (28, 0, [vr 0 o, vi a, vi b, none], [], h) = pm_ev (28, 2, [vr 0 o, vi a, vi b, vi 0], [], h) := (ev_rc [2, 35] 120 _).trans rfl
set_option maxRecDepth 100000 in
set_option maxHeartbeats 400000 in
/-- IllLight$Coast.lull(II)V -/
theorem E_X0_lull_2 (h : PH) (q0 : Nat) (x1 : Int32) (x2 : Int32) (x3 : Int32) : pm_ev (28, 2, [vr 0 q0, vi x1, vi x2, vi x3], [], h) = (if x3 < 4 then (pm_bI (pm_ev (6, 0, [vr 0 q0, vi x1, vi x3], [], h)) fun r2 h1 => (if r2 = 0 then some (none, h1) else (if (x2 >>> (x3 &&& 31)) &&& 1 = 0 then pm_ev (28, 35, [vr 0 q0, vi x1, vi x2, vi x3], [], h1) else (if pm_inb ((4 * x1) + x3) 16 = true then pm_ev (28, 35, [vr 0 q0, vi x1, vi x2, vi x3], [], (pm_sI h1 16 q0 (((4 * x1) + x3).toNatClampNeg) 4)) else none)))) else some (none, h)) := (ev_rc [2, 35] 120 _).trans rfl
set_option maxRecDepth 100000 in
set_option maxHeartbeats 400000 in
/-- IllLight$Coast.lull(II)V -/
theorem E_X0_lull_35 (h : PH) (q0 : Nat) (x1 : Int32) (x2 : Int32) (x3 : Int32) : pm_ev (28, 35, [vr 0 q0, vi x1, vi x2, vi x3], [], h) = pm_ev (28, 2, [vr 0 q0, vi x1, vi x2, vi (x3 + 1)], [], h) := (ev_rc [2, 35] 120 _).trans rfl
set_option maxRecDepth 100000 in
set_option maxHeartbeats 400000 in
/-- IllLight$Log.clear()V -/
theorem E_X2_clear (h : PH) (o : Nat) : pm_ev (43, 0, [vr 2 o], [], h) = some (none, (pm_sI (pm_sI (pm_sI (pm_sI h 2 o 0 0) 2 o 2 1) 2 o 3 0) 2 o 4 0)) := (ev_rc [] 120 _).trans rfl
set_option maxRecDepth 100000 in
set_option maxHeartbeats 400000 in
/-- IllLight$Log.copyFrom(LIllLight$Log;)V -/
theorem E_X2_copyFrom (h : PH) (o : Nat) (a : Nat) : pm_ev (44, 0, [vr 2 o, vr 2 a], [], h) = pm_ev (44, 47, [vr 2 o, vr 2 a], [], (pm_cp (pm_sI (pm_sI (pm_sI (pm_sI h 2 o 0 (h.1 2 a 0)) 2 o 2 (h.1 2 a 2)) 2 o 3 (h.1 2 a 3)) 2 o 4 (h.1 2 a 4)) 19 a ((0 : Int32).toNatClampNeg) 19 o ((0 : Int32).toNatClampNeg) ((6 : Int32).toNatClampNeg))) := (ev_rc [47, 62] 120 _).trans rfl
set_option maxRecDepth 100000 in
set_option maxHeartbeats 400000 in
/-- IllLight$Log.copyFrom(LIllLight$Log;)V -/
theorem E_X2_copyFrom_47 (h : PH) (q0 : Nat) (q1 : Nat) : pm_ev (44, 47, [vr 2 q0, vr 2 q1], [], h) = pm_ev (44, 62, [vr 2 q0, vr 2 q1], [], (pm_cp h 20 q1 ((0 : Int32).toNatClampNeg) 20 q0 ((0 : Int32).toNatClampNeg) ((10 : Int32).toNatClampNeg))) := (ev_rc [47, 62] 120 _).trans rfl
set_option maxRecDepth 100000 in
set_option maxHeartbeats 400000 in
/-- IllLight$Log.copyFrom(LIllLight$Log;)V -/
theorem E_X2_copyFrom_62 (h : PH) (q0 : Nat) (q1 : Nat) : pm_ev (44, 62, [vr 2 q0, vr 2 q1], [], h) = some (none, (pm_cp h 21 q1 ((0 : Int32).toNatClampNeg) 21 q0 ((0 : Int32).toNatClampNeg) ((10 : Int32).toNatClampNeg))) := (ev_rc [47, 62] 120 _).trans rfl
set_option maxRecDepth 100000 in
set_option maxHeartbeats 400000 in
/-- IllLight$Log.addMan(I)V -/
theorem E_X2_addMan (h : PH) (o : Nat) (a : Int32) : pm_ev (45, 0, [vr 2 o, vi a], [], h) = (if h.1 2 o 0 < 6 then (if pm_inb (h.1 2 o 0) 6 = true then pm_ev (45, 19, [vr 2 o, vi a], [], (pm_sI h 19 o ((h.1 2 o 0).toNatClampNeg) a)) else none) else some (none, h)) := (ev_rc [19] 120 _).trans rfl
set_option maxRecDepth 100000 in
set_option maxHeartbeats 400000 in
/-- IllLight$Log.addMan(I)V -/
theorem E_X2_addMan_19 (h : PH) (q0 : Nat) (x1 : Int32) : pm_ev (45, 19, [vr 2 q0, vi x1], [], h) = some (none, (pm_sI h 2 q0 0 ((h.1 2 q0 0) + 1))) := (ev_rc [19] 120 _).trans rfl
set_option maxRecDepth 100000 in
set_option maxHeartbeats 400000 in
/-- IllLight$Log.addFact(II)V -/
theorem E_X2_addFact (h : PH) (o : Nat) (a : Int32) (b : Int32) : pm_ev (46, 0, [vr 2 o, vi a, vi b], [], h) = (if h.1 2 o 4 < 10 then (if pm_inb (h.1 2 o 4) 10 = true then pm_ev (46, 19, [vr 2 o, vi a, vi b], [], (pm_sI h 20 o ((h.1 2 o 4).toNatClampNeg) a)) else none) else some (none, h)) := (ev_rc [19, 29] 120 _).trans rfl
set_option maxRecDepth 100000 in
set_option maxHeartbeats 400000 in
/-- IllLight$Log.addFact(II)V -/
theorem E_X2_addFact_19 (h : PH) (q0 : Nat) (x1 : Int32) (x2 : Int32) : pm_ev (46, 19, [vr 2 q0, vi x1, vi x2], [], h) = (if pm_inb (h.1 2 q0 4) 10 = true then pm_ev (46, 29, [vr 2 q0, vi x1, vi x2], [], (pm_sI h 21 q0 ((h.1 2 q0 4).toNatClampNeg) x2)) else none) := (ev_rc [19, 29] 120 _).trans rfl
set_option maxRecDepth 100000 in
set_option maxHeartbeats 400000 in
/-- IllLight$Log.addFact(II)V -/
theorem E_X2_addFact_29 (h : PH) (q0 : Nat) (x1 : Int32) (x2 : Int32) : pm_ev (46, 29, [vr 2 q0, vi x1, vi x2], [], h) = some (none, (pm_sI h 2 q0 4 ((h.1 2 q0 4) + 1))) := (ev_rc [19, 29] 120 _).trans rfl
set_option maxRecDepth 100000 in
set_option maxHeartbeats 400000 in
/-- IllLight$Log.hasMan(I)Z -/
theorem E_X2_hasMan (h : PH) (o : Nat) (a : Int32) : pm_ev (47, 0, [vr 2 o, vi a], [], h) = (if a < 0 then some (some (vi 0), h) else (if a < h.1 2 o 0 then some (some (vi 1), h) else some (some (vi 0), h))) := (ev_rc [] 120 _).trans rfl
set_option maxRecDepth 100000 in
set_option maxHeartbeats 400000 in
/-- IllLight$Log.told(I)I -/
theorem E_X2_told (h : PH) (o : Nat) (a : Int32) : pm_ev (48, 0, [vr 2 o, vi a], [], h) = (if a = 0 then some (some (vi (h.1 2 o 0)), h) else (if a = 1 then some (some (vi (h.1 2 o 2)), h) else (if a = 2 then some (some (vi (h.1 2 o 3)), h) else (if a = 3 then some (some (vi (h.1 2 o 4)), h) else (if a < 10 then some (some (vi (-1)), h) else (pm_bI (pm_ev (49, 0, [vr 2 o, vi (a / 10), vi (a - a / 10 * 10)], [], h)) fun r2 h1 => some (some (vi r2), h1))))))) := (ev_rc [] 120 _).trans rfl
set_option maxRecDepth 100000 in
set_option maxHeartbeats 400000 in
/-- IllLight$Log.toldOfOne(II)I -/
theorem E_X2_toldOfOne (h : PH) (o : Nat) (a : Int32) (b : Int32) : pm_ev (49, 0, [vr 2 o, vi a, vi b], [], h) = (if a = 1 then (pm_bI (pm_ev (47, 0, [vr 2 o, vi b], [], h)) fun r2 h1 => (if r2 = 0 then some (some (vi (-1)), h1) else (if pm_inb b 6 = true then some (some (vi (h1.1 19 o b.toNatClampNeg)), h1) else none))) else (if a = 2 then (if b < h.1 2 o 4 then (if pm_inb b 10 = true then some (some (vi (h.1 20 o b.toNatClampNeg)), h) else none) else some (some (vi (-1)), h)) else (if a = 3 then (if b < h.1 2 o 4 then (if pm_inb b 10 = true then some (some (vi (h.1 21 o b.toNatClampNeg)), h) else none) else some (some (vi (-1)), h)) else some (some (vi (-1)), h)))) := (ev_rc [] 120 _).trans rfl
set_option maxRecDepth 100000 in
set_option maxHeartbeats 400000 in
/-- IllLight$Log.sets()I -/
theorem E_X2_sets (h : PH) (o : Nat) : pm_ev (50, 0, [vr 2 o], [], h) = some (some (vi ((1 : Int32) <<< ((h.1 2 o 0) &&& 31))), h) := (ev_rc [] 120 _).trans rfl
set_option maxRecDepth 100000 in
set_option maxHeartbeats 400000 in
/-- IllLight$Log.shines(II)Z -/
theorem E_X2_shines (h : PH) (o : Nat) (a : Int32) (b : Int32) : pm_ev (51, 0, [vr 2 o, vi a, vi b, none], [], h) = (pm_bI (pm_ev (267, 0, [vi a], [], h)) fun r2 h1 => (if r2 < h1.1 2 o 2 then some (some (vi 0), h1) else (if r2 = h1.1 2 o 0 then some (some (vi 1), h1) else (if b - b / 2 * 2 = 0 then some (some (vi 1), h1) else some (some (vi 0), h1))))) := (ev_rc [] 120 _).trans rfl
set_option maxRecDepth 100000 in
set_option maxHeartbeats 400000 in
/-- IllLight$Log.agrees(II)Z -/
theorem E_X2_agrees (h : PH) (o : Nat) (a : Int32) (b : Int32) : pm_ev (52, 0, [vr 2 o, vi a, vi b], [], h) = (if pm_inb b 10 = true then (pm_bI (pm_ev (51, 0, [vr 2 o, vi a, vi (h.1 21 o b.toNatClampNeg), none], [], h)) fun r2 h1 => (if pm_inb b 10 = true then (if h1.1 20 o b.toNatClampNeg = 1 then (if r2 = 1 then some (some (vi 1), h1) else some (some (vi 0), h1)) else (if r2 = 0 then some (some (vi 1), h1) else some (some (vi 0), h1))) else none)) else none) := (ev_rc [] 120 _).trans rfl
set_option maxRecDepth 100000 in
set_option maxHeartbeats 400000 in
/-- IllLight$Log.allAgree(I)Z -/
theorem E_X2_allAgree (h : PH) (o : Nat) (a : Int32) : pm_ev (53, 0, [vr 2 o, vi a, none], [], h) = pm_ev (53, 2, [vr 2 o, vi a, vi 0], [], h) := (ev_rc [2] 120 _).trans rfl
set_option maxRecDepth 100000 in
set_option maxHeartbeats 400000 in
/-- IllLight$Log.allAgree(I)Z -/
theorem E_X2_allAgree_2 (h : PH) (q0 : Nat) (x1 : Int32) (x2 : Int32) : pm_ev (53, 2, [vr 2 q0, vi x1, vi x2], [], h) = (if x2 < h.1 2 q0 4 then (pm_bI (pm_ev (52, 0, [vr 2 q0, vi x1, vi x2], [], h)) fun r2 h1 => (if r2 = 0 then some (some (vi 0), h1) else pm_ev (53, 2, [vr 2 q0, vi x1, vi (x2 + 1)], [], h1))) else some (some (vi 1), h)) := (ev_rc [2] 120 _).trans rfl
set_option maxRecDepth 100000 in
set_option maxHeartbeats 400000 in
/-- IllLight$Log.fitting()J -/
theorem E_X2_fitting (h : PH) (o : Nat) : pm_ev (54, 0, [vr 2 o, none, none, none], [], h) = pm_ev (54, 4, [vr 2 o, vl 0, none, vi 0], [], h) := (ev_rc [4] 120 _).trans rfl
set_option maxRecDepth 100000 in
set_option maxHeartbeats 400000 in
/-- IllLight$Log.fitting()J -/
theorem E_X2_fitting_4 (h : PH) (q0 : Nat) (y1 : Int64) (x3 : Int32) : pm_ev (54, 4, [vr 2 q0, vl y1, none, vi x3], [], h) = (pm_bI (pm_ev (50, 0, [vr 2 q0], [], h)) fun r2 h1 => (if x3 < r2 then (pm_bI (pm_ev (53, 0, [vr 2 q0, vi x3, none], [], h1)) fun r4 h3 => (if r4 = 0 then pm_ev (54, 4, [vr 2 q0, vl y1, none, vi (x3 + 1)], [], h3) else pm_ev (54, 4, [vr 2 q0, vl (y1 ||| ((1 : Int64) <<< (x3.toInt64 &&& 63))), none, vi (x3 + 1)], [], h3))) else some (some (vl y1), h1))) := (ev_rc [4] 120 _).trans rfl
set_option maxRecDepth 100000 in
set_option maxHeartbeats 400000 in
/-- IllLight$Log.sure(J)I -/
theorem E_X2_sure (h : PH) (o : Nat) (a : Int64) : pm_ev (55, 0, [vr 2 o, vl a, none, none, none], [], h) = (if lg_cmp a 0 = 0 then some (some (vi (-1)), h) else (pm_bI (pm_ev (50, 0, [vr 2 o], [], h)) fun r2 h1 => pm_ev (55, 18, [vr 2 o, vl a, none, vi (r2 - 1), vi 0], [], h1))) := (ev_rc [18] 120 _).trans rfl
set_option maxRecDepth 100000 in
set_option maxHeartbeats 400000 in
/-- IllLight$Log.sure(J)I -/
theorem E_X2_sure_18 (h : PH) (q0 : Nat) (y1 : Int64) (x3 : Int32) (x4 : Int32) : pm_ev (55, 18, [vr 2 q0, vl y1, none, vi x3, vi x4], [], h) = (pm_bI (pm_ev (50, 0, [vr 2 q0], [], h)) fun r4 h3 => (if x4 < r4 then (if lg_cmp (((y1.toUInt64 >>> (x4.toInt64.toUInt64 &&& Int64.toUInt64 63)).toInt64) &&& 1) 0 = 0 then pm_ev (55, 18, [vr 2 q0, vl y1, none, vi x3, vi (x4 + 1)], [], h3) else pm_ev (55, 18, [vr 2 q0, vl y1, none, vi (x3 &&& x4), vi (x4 + 1)], [], h3)) else some (some (vi x3), h3))) := (ev_rc [18] 120 _).trans rfl
set_option maxRecDepth 100000 in
set_option maxHeartbeats 400000 in
/-- IllLight$Log.setAt(JI)I -/
theorem E_X2_setAt (h : PH) (o : Nat) (a : Int64) (b : Int32) : pm_ev (56, 0, [vr 2 o, vl a, none, vi b, none, none], [], h) = pm_ev (56, 6, [vr 2 o, vl a, none, vi b, vi 0, vi 0], [], h) := (ev_rc [6] 120 _).trans rfl
set_option maxRecDepth 100000 in
set_option maxHeartbeats 400000 in
/-- IllLight$Log.setAt(JI)I -/
theorem E_X2_setAt_6 (h : PH) (q0 : Nat) (y1 : Int64) (x3 : Int32) (x4 : Int32) (x5 : Int32) : pm_ev (56, 6, [vr 2 q0, vl y1, none, vi x3, vi x4, vi x5], [], h) = (pm_bI (pm_ev (50, 0, [vr 2 q0], [], h)) fun r2 h1 => (if x5 < r2 then (if lg_cmp (((y1.toUInt64 >>> (x5.toInt64.toUInt64 &&& Int64.toUInt64 63)).toInt64) &&& 1) 0 = 0 then pm_ev (56, 6, [vr 2 q0, vl y1, none, vi x3, vi x4, vi (x5 + 1)], [], h1) else (if x4 = x3 then some (some (vi x5), h1) else pm_ev (56, 6, [vr 2 q0, vl y1, none, vi x3, vi (x4 + 1), vi (x5 + 1)], [], h1))) else some (some (vi (-2)), h1))) := (ev_rc [6] 120 _).trans rfl
set_option maxRecDepth 100000 in
set_option maxHeartbeats 400000 in
/-- IllLight$Log.hourToAsk(J)I -/
theorem E_X2_hourToAsk (h : PH) (o : Nat) (a : Int64) : pm_ev (57, 0, [vr 2 o, vl a, none, none, none, none, none, none, none], [], h) = (pm_bI (pm_ev (268, 0, [vl a, none], [], h)) fun r2 h1 => pm_ev (57, 16, [vr 2 o, vl a, none, vi r2, vi (-1), vi (r2 + 1), vi 0, none, none], [], h1)) := (ev_rc [16, 66, 72] 120 _).trans rfl
set_option maxRecDepth 100000 in
set_option maxHeartbeats 400000 in
/-- IllLight$Log.hourToAsk(J)I -/
theorem E_X2_hourToAsk_16 (h : PH) (q0 : Nat) (y1 : Int64) (x3 : Int32) (x4 : Int32) (x5 : Int32) (x6 : Int32) : pm_ev (57, 16, [vr 2 q0, vl y1, none, vi x3, vi x4, vi x5, vi x6, none, none], [], h) = (if x6 < 24 then (if (0 : Int32) < x3 then (pm_bL (pm_ev (58, 0, [vr 2 q0, vi x6, none, none, none], [], h)) fun l4 h3 => (pm_bI (pm_ev (268, 0, [vl (y1 &&& l4), none], [], h3)) fun r6 h5 => (if (if r6 < x3 - r6 then x3 - r6 else r6) < x5 then pm_ev (57, 66, [vr 2 q0, vl y1, none, vi x3, vi x6, vi (if r6 < x3 - r6 then x3 - r6 else r6), vi x6, none, none], [], h5) else pm_ev (57, 66, [vr 2 q0, vl y1, none, vi x3, vi x4, vi x5, vi x6, none, none], [], h5)))) else pm_ev (57, 72, [none, none, none, none, vi x4, none, none, none, none], [], h)) else pm_ev (57, 72, [none, none, none, none, vi x4, none, none, none, none], [], h)) := (ev_rc [16, 66, 72] 120 _).trans rfl
set_option maxRecDepth 100000 in
set_option maxHeartbeats 400000 in
/-- IllLight$Log.hourToAsk(J)I -/
theorem E_X2_hourToAsk_66 (h : PH) (q0 : Nat) (y1 : Int64) (x3 : Int32) (x4 : Int32) (x5 : Int32) (x6 : Int32) : pm_ev (57, 66, [vr 2 q0, vl y1, none, vi x3, vi x4, vi x5, vi x6, none, none], [], h) = pm_ev (57, 16, [vr 2 q0, vl y1, none, vi x3, vi x4, vi x5, vi (x6 + 1), none, none], [], h) := (ev_rc [16, 66, 72] 120 _).trans rfl
set_option maxRecDepth 100000 in
set_option maxHeartbeats 400000 in
/-- IllLight$Log.hourToAsk(J)I -/
theorem E_X2_hourToAsk_72 (h : PH) (x4 : Int32) : pm_ev (57, 72, [none, none, none, none, vi x4, none, none, none, none], [], h) = some (some (vi x4), h) := (ev_rc [16, 66, 72] 120 _).trans rfl
set_option maxRecDepth 100000 in
set_option maxHeartbeats 400000 in
/-- IllLight$Log.shiningAt(I)J -/
theorem E_X2_shiningAt (h : PH) (o : Nat) (a : Int32) : pm_ev (58, 0, [vr 2 o, vi a, none, none, none], [], h) = pm_ev (58, 5, [vr 2 o, vi a, vl 0, none, vi 0], [], h) := (ev_rc [5] 120 _).trans rfl
set_option maxRecDepth 100000 in
set_option maxHeartbeats 400000 in
/-- IllLight$Log.shiningAt(I)J -/
theorem E_X2_shiningAt_5 (h : PH) (q0 : Nat) (x1 : Int32) (y2 : Int64) (x4 : Int32) : pm_ev (58, 5, [vr 2 q0, vi x1, vl y2, none, vi x4], [], h) = (pm_bI (pm_ev (50, 0, [vr 2 q0], [], h)) fun r2 h1 => (if x4 < r2 then (pm_bI (pm_ev (51, 0, [vr 2 q0, vi x4, vi x1, none], [], h1)) fun r4 h3 => (if r4 = 0 then pm_ev (58, 5, [vr 2 q0, vi x1, vl y2, none, vi (x4 + 1)], [], h3) else pm_ev (58, 5, [vr 2 q0, vi x1, vl (y2 ||| ((1 : Int64) <<< (x4.toInt64 &&& 63))), none, vi (x4 + 1)], [], h3))) else some (some (vl y2), h1))) := (ev_rc [5] 120 _).trans rfl
set_option maxRecDepth 100000 in
set_option maxHeartbeats 400000 in
/-- IllLight$Log.weightOf(II)J -/
theorem E_X2_weightOf (h : PH) (o : Nat) (a : Int32) (b : Int32) : pm_ev (59, 0, [vr 2 o, vi a, vi b, none, none, none], [], h) = pm_ev (59, 5, [vr 2 o, vi a, vi b, vl 0, none, vi 0], [], h) := (ev_rc [5] 120 _).trans rfl
set_option maxRecDepth 100000 in
set_option maxHeartbeats 400000 in
/-- IllLight$Log.weightOf(II)J -/
theorem E_X2_weightOf_5 (h : PH) (q0 : Nat) (x1 : Int32) (x2 : Int32) (y3 : Int64) (x5 : Int32) : pm_ev (59, 5, [vr 2 q0, vi x1, vi x2, vl y3, none, vi x5], [], h) = (pm_bI (pm_ev (50, 0, [vr 2 q0], [], h)) fun r2 h1 => (if x5 < r2 then (if x5 &&& x1 = x1 then (if x2 = (-1) then (pm_bL (pm_ev (60, 0, [vr 2 q0, vi x5, none, none, none], [], h1)) fun l4 h3 => pm_ev (59, 5, [vr 2 q0, vi x1, vi x2, vl (y3 + l4), none, vi (x5 + 1)], [], h3)) else (pm_bI (pm_ev (51, 0, [vr 2 q0, vi x5, vi x2, none], [], h1)) fun r6 h5 => (if r6 = 0 then pm_ev (59, 5, [vr 2 q0, vi x1, vi x2, vl y3, none, vi (x5 + 1)], [], h5) else (pm_bL (pm_ev (60, 0, [vr 2 q0, vi x5, none, none, none], [], h5)) fun l8 h7 => pm_ev (59, 5, [vr 2 q0, vi x1, vi x2, vl (y3 + l8), none, vi (x5 + 1)], [], h7))))) else pm_ev (59, 5, [vr 2 q0, vi x1, vi x2, vl y3, none, vi (x5 + 1)], [], h1)) else some (some (vl y3), h1))) := (ev_rc [5] 120 _).trans rfl
set_option maxRecDepth 100000 in
set_option maxHeartbeats 400000 in
/-- IllLight$Log.weight(I)J -/
theorem E_X2_weight (h : PH) (o : Nat) (a : Int32) : pm_ev (60, 0, [vr 2 o, vi a, none, none, none], [], h) = pm_ev (60, 5, [vr 2 o, vi a, vl 1, none, vi 0], [], h) := (ev_rc [5, 57] 120 _).trans rfl
set_option maxRecDepth 100000 in
set_option maxHeartbeats 400000 in
/-- IllLight$Log.weight(I)J -/
theorem E_X2_weight_5 (h : PH) (q0 : Nat) (x1 : Int32) (y2 : Int64) (x4 : Int32) : pm_ev (60, 5, [vr 2 q0, vi x1, vl y2, none, vi x4], [], h) = (if x4 < h.1 2 q0 0 then (if (x1 >>> (x4 &&& 31)) &&& 1 = 0 then (if pm_inb x4 6 = true then pm_ev (60, 5, [vr 2 q0, vi x1, vl (y2 * ((10 - (h.1 19 q0 x4.toNatClampNeg) : Int32).toInt64)), none, vi (x4 + 1)], [], h) else none) else (if pm_inb x4 6 = true then pm_ev (60, 5, [vr 2 q0, vi x1, vl (y2 * ((h.1 19 q0 x4.toNatClampNeg : Int32).toInt64)), none, vi (x4 + 1)], [], h) else none)) else pm_ev (60, 57, [vr 2 q0, vi x1, vl y2, none, vi 0], [], h)) := (ev_rc [5, 57] 120 _).trans rfl
set_option maxRecDepth 100000 in
set_option maxHeartbeats 400000 in
/-- IllLight$Log.weight(I)J -/
theorem E_X2_weight_57 (h : PH) (q0 : Nat) (x1 : Int32) (y2 : Int64) (x4 : Int32) : pm_ev (60, 57, [vr 2 q0, vi x1, vl y2, none, vi x4], [], h) = (if x4 < h.1 2 q0 4 then (pm_bI (pm_ev (52, 0, [vr 2 q0, vi x1, vi x4], [], h)) fun r2 h1 => (if r2 = 0 then pm_ev (60, 57, [vr 2 q0, vi x1, vl (y2 * ((h1.1 2 q0 3 : Int32).toInt64)), none, vi (x4 + 1)], [], h1) else pm_ev (60, 57, [vr 2 q0, vi x1, vl (y2 * ((10 - (h1.1 2 q0 3) : Int32).toInt64)), none, vi (x4 + 1)], [], h1))) else some (some (vl y2), h)) := (ev_rc [5, 57] 120 _).trans rfl
set_option maxRecDepth 100000 in
set_option maxHeartbeats 400000 in
/-- IllLight$Night.add(IIII)V -/
theorem E_X3_add (h : PH) (o : Nat) (a : Int32) (b : Int32) (c : Int32) (d : Int32) : pm_ev (61, 0, [vr 3 o, vi a, vi b, vi c, vi d], [], h) = (if h.1 3 o 0 < 40 then (if pm_inb (h.1 3 o 0) 40 = true then pm_ev (61, 19, [vr 3 o, vi a, vi b, vi c, vi d], [], (pm_sI h 22 o ((h.1 3 o 0).toNatClampNeg) a)) else none) else some (none, h)) := (ev_rc [19, 31, 45, 60] 120 _).trans rfl
set_option maxRecDepth 100000 in
set_option maxHeartbeats 400000 in
/-- IllLight$Night.add(IIII)V -/
theorem E_X3_add_19 (h : PH) (q0 : Nat) (x1 : Int32) (x2 : Int32) (x3 : Int32) (x4 : Int32) : pm_ev (61, 19, [vr 3 q0, vi x1, vi x2, vi x3, vi x4], [], h) = (if pm_inb (3 * (h.1 3 q0 0)) 120 = true then pm_ev (61, 31, [vr 3 q0, vi x1, vi x2, vi x3, vi x4], [], (pm_sI h 23 q0 ((3 * (h.1 3 q0 0)).toNatClampNeg) x2)) else none) := (ev_rc [19, 31, 45, 60] 120 _).trans rfl
set_option maxRecDepth 100000 in
set_option maxHeartbeats 400000 in
/-- IllLight$Night.add(IIII)V -/
theorem E_X3_add_31 (h : PH) (q0 : Nat) (x1 : Int32) (x2 : Int32) (x3 : Int32) (x4 : Int32) : pm_ev (61, 31, [vr 3 q0, vi x1, vi x2, vi x3, vi x4], [], h) = (if pm_inb ((3 * (h.1 3 q0 0)) + 1) 120 = true then pm_ev (61, 45, [vr 3 q0, vi x1, vi x2, vi x3, vi x4], [], (pm_sI h 23 q0 (((3 * (h.1 3 q0 0)) + 1).toNatClampNeg) x3)) else none) := (ev_rc [19, 31, 45, 60] 120 _).trans rfl
set_option maxRecDepth 100000 in
set_option maxHeartbeats 400000 in
/-- IllLight$Night.add(IIII)V -/
theorem E_X3_add_45 (h : PH) (q0 : Nat) (x1 : Int32) (x2 : Int32) (x3 : Int32) (x4 : Int32) : pm_ev (61, 45, [vr 3 q0, vi x1, vi x2, vi x3, vi x4], [], h) = (if pm_inb ((3 * (h.1 3 q0 0)) + 2) 120 = true then pm_ev (61, 60, [vr 3 q0, vi x1, vi x2, vi x3, vi x4], [], (pm_sI h 23 q0 (((3 * (h.1 3 q0 0)) + 2).toNatClampNeg) x4)) else none) := (ev_rc [19, 31, 45, 60] 120 _).trans rfl
set_option maxRecDepth 100000 in
set_option maxHeartbeats 400000 in
/-- IllLight$Night.add(IIII)V -/
theorem E_X3_add_60 (h : PH) (q0 : Nat) (x1 : Int32) (x2 : Int32) (x3 : Int32) (x4 : Int32) : pm_ev (61, 60, [vr 3 q0, vi x1, vi x2, vi x3, vi x4], [], h) = some (none, (pm_sI h 3 q0 0 ((h.1 3 q0 0) + 1))) := (ev_rc [19, 31, 45, 60] 120 _).trans rfl
set_option maxRecDepth 100000 in
set_option maxHeartbeats 400000 in
/-- IllLight$Night.copyFrom(LIllLight$Night;)V -/
theorem E_X3_copyFrom (h : PH) (o : Nat) (a : Nat) : pm_ev (62, 0, [vr 3 o, vr 3 a], [], h) = pm_ev (62, 23, [vr 3 o, vr 3 a], [], (pm_cp (pm_sI h 3 o 0 (h.1 3 a 0)) 22 a ((0 : Int32).toNatClampNeg) 22 o ((0 : Int32).toNatClampNeg) ((40 : Int32).toNatClampNeg))) := (ev_rc [23] 120 _).trans rfl
set_option maxRecDepth 100000 in
set_option maxHeartbeats 400000 in
/-- IllLight$Night.copyFrom(LIllLight$Night;)V -/
theorem E_X3_copyFrom_23 (h : PH) (q0 : Nat) (q1 : Nat) : pm_ev (62, 23, [vr 3 q0, vr 3 q1], [], h) = some (none, (pm_cp h 23 q1 ((0 : Int32).toNatClampNeg) 23 q0 ((0 : Int32).toNatClampNeg) ((120 : Int32).toNatClampNeg))) := (ev_rc [23] 120 _).trans rfl
set_option maxRecDepth 100000 in
set_option maxHeartbeats 400000 in
/-- IllLight$Night.told(II)I -/
theorem E_X3_told (h : PH) (o : Nat) (a : Int32) (b : Int32) : pm_ev (63, 0, [vr 3 o, vi a, vi b], [], h) = (if a < 0 then some (some (vi (-2)), h) else (if a < h.1 3 o 0 then (if b < 0 then some (some (vi (-2)), h) else (if (3 : Int32) < b then some (some (vi (-2)), h) else (if b = 0 then (if pm_inb a 40 = true then some (some (vi (h.1 22 o a.toNatClampNeg)), h) else none) else (if pm_inb (((3 * a) + b) - 1) 120 = true then some (some (vi (h.1 23 o ((((3 * a) + b) - 1).toNatClampNeg))), h) else none)))) else some (some (vi (-2)), h))) := (ev_rc [] 120 _).trans rfl
